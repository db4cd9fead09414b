/-! ROWS AND TEXTS: the class -/
/-- a Row of n places v -/
def rfill (σ : tI) (r n : Nat) (v : Int32) : tI := fun k i j => if k = 30 ∧ i = r ∧ j < n then v else if k = 6 ∧ i = r ∧ j = 0 then 1 else if k = 6 ∧ i = r ∧ j = 1 then nI n else σ k i j
section XR
variable {l : Launch} {σ : tI} {τ : tL} {t : Option (Nat × Nat)}
theorem rfill_0 {r : Nat} {v : Int32} : u3 (u3 σ 6 r 0 1) 6 r 1 0 = rfill σ r 0 v := by
  funext k i j
  have h0 : (0 : Int32) = nI 0 := rfl
  grind (splits := 25) [u3, rfill]
theorem rfill_s {r n : Nat} {v : Int32} : u3 (u3 (rfill σ r n v) 30 r n v) 6 r 1 (nI (n + 1)) = rfill σ r (n + 1) v := by
  funext k i j
  grind (splits := 25) [u3, rfill]
theorem x_renew_loop {Q : tQ} {r n : Nat} {v : Int32} (hn : n ≤ lX 30 r) (hb : lX 30 r < 2 ^ 31) (K : am_G l 57 Q 0 0 28 [(3, aI (nI n)), (0, aR 6 r), (1, aI (nI n)), (2, aI v)] [] (rfill σ r n v) τ (rX t) cX lX) : ∀ (d i : Nat), i + d = n → am_G l 57 Q 0 0 12 [(3, aI (nI i)), (0, aR 6 r), (1, aI (nI n)), (2, aI v)] [] (rfill σ r i v) τ (rX t) cX lX
  | 0, i, h => by
    obtain rfl : i = n := by omega
    refine am_vc_ok am_k57 [28] 20 ?_
    refine And.intro (fun _ => K) (fun h1 => absurd (Int32.le_refl _) h1)
  | d + 1, i, h => by
    refine am_vc_ok am_k57 [12] 20 ?_
    refine And.intro (fun h1 => absurd h1 (nI_ge (by omega) (by omega))) (fun h1 => ?_)
    refine am_vO am_k57 am_h57 rfl rfl rfl rfl (x_add (n := i) (by simp [rfill]) (by omega) hb) ?_
    refine am_vc_ok am_k57 [12] 20 ?_
    rw [rfill_s]
    have K2 := x_renew_loop hn hb K d (i + 1) (by omega)
    rw [← nI_1] at K2
    exact K2
theorem x_renew {r n : Nat} {v : Int32} (hn : n ≤ lX 30 r) (hb : lX 30 r < 2 ^ 31) : am_D l 57 [aR 6 r, aI (nI n), aI v] σ τ (rX t) cX lX none (rfill σ r n v) τ (rX t) := by
  refine am_D_of am_o57 am_l57 rfl ?_
  refine am_vc_ok am_k57 [12] 20 ?_
  refine And.intro (Or.inr rfl) ?_
  refine am_Gs (rfill_0 (v := v)) ?_
  refine x_renew_loop hn hb ?_ n 0 (by omega)
  exact am_vV am_k57 am_r57 rfl ⟨rfl, rfl, rfl, rfl, rfl, rfl⟩
theorem x_refPlace_bad {r i : Int32} (hr : ¬ (0 ≤ r ∧ r < 6)) : am_D l 144 [aR 11 0, aI r, aI i] σ τ (rX t) cX lX (some (aI (-1))) σ τ (rX t) := by
  refine am_D_of am_o144 am_l144 rfl ?_
  refine am_vc_ok am_k144 [] 40 ?_
  refine am_vS am_k144 am_h144 rfl rfl rfl rfl x_within ?_
  refine am_vc_ok am_k144 [] 40 ?_
  refine And.intro (fun h1 => ?_) (fun h1 => absurd (bI_1.mp h1) hr)
  exact am_vI am_k144 am_r144 rfl ⟨rfl, rfl, rfl, rfl, rfl, rfl⟩
/-- refusalOfPlace over a row that there may be: its number j, its length n -/
theorem x_refPlace {j n : Nat} {i : Int32} (hj : j < 6) (hn : σ 6 (4 + j) 1 = nI n) (hn2 : n ≤ 60) : am_D l 144 [aR 11 0, aI (nI j), aI i] σ τ (rX t) cX lX (some (aI (if σ 6 (4 + j) 0 = 0 then -3 else if 0 ≤ i ∧ i < nI n then -9 else -3))) (if σ 6 (4 + j) 0 = 0 then xfind 1 σ else if 0 ≤ i ∧ i < nI n then σ else xfind 2 σ) τ (rX t) := by
  refine am_D_of am_o144 am_l144 rfl ?_
  refine am_vc_ok am_k144 [] 40 ?_
  refine am_vS am_k144 am_h144 rfl rfl rfl rfl x_within ?_
  refine am_vc_ok am_k144 [] 40 ?_
  refine And.intro (fun h1 => absurd (bI_0.mp h1) (fun h => h ⟨nI_pos' (by omega), nI_lt (b := 6) hj (by decide)⟩)) (fun _ => ?_)
  refine And.intro (vp_in_nI (N := 6) hj (by decide)) ?_
  rw [nI_clamp (by omega)]
  refine And.intro (fun h2 => ?_) (fun h2 => ?_)
  · have h2 : σ 6 (4 + j) 0 = 0 := h2
    refine am_vO am_k144 am_h144 rfl rfl rfl rfl (x_find (w := 1) (by decide)) ?_
    rw [if_pos h2, if_pos h2]
    exact am_vI am_k144 am_r144 rfl ⟨rfl, rfl, rfl, rfl, rfl, rfl⟩
  · have h2 : ¬ σ 6 (4 + j) 0 = 0 := h2
    rw [if_neg h2, if_neg h2]
    refine And.intro (vp_in_nI (N := 6) hj (by decide)) ?_
    rw [nI_clamp (by omega)]
    refine am_vS am_k144 am_h144 rfl rfl rfl rfl x_within ?_
    rw [hn]
    refine am_vc_ok am_k144 [] 40 ?_
    refine And.intro (fun h3 => ?_) (fun h3 => ?_)
    · have h3 := bI_0.mp h3
      refine am_vO am_k144 am_h144 rfl rfl rfl rfl (x_find (w := 2) (by decide)) ?_
      rw [if_neg h3, if_neg h3]
      refine am_vc_ok am_k144 [] 40 ?_
      exact am_vI am_k144 am_r144 rfl ⟨rfl, rfl, rfl, rfl, rfl, rfl⟩
    · have h3 := bI_1.mp h3
      rw [if_pos h3, if_pos h3]
      exact am_vI am_k144 am_r144 rfl ⟨rfl, rfl, rfl, rfl, rfl, rfl⟩
end XR
