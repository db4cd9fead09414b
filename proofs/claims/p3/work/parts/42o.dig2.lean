/-! digest: the class's services -/
section L32
variable {l : Launch} {σ σ2 : tI} {τ τ2 : tL} {t : Option (Nat × Nat)}
/-- what a service adds: now, then, hands, mark, keep, doors, waiting, doing, names kept -/
abbrev mxV (h : Int64) (a b c d e : Int32) (f : Nat → Int32) (x y z : Int32) : Int64 := mx (mx (mx (mxN (mx (mx (mx (mx (mx h a) b) c) d) e) f 6) x) y) z
theorem x_mixServ_lp {Q : tQ} {a : Nat} {h0 g : Int64} (K : am_G l 151 Q 0 0 116 [(7, aI (nI 6)), (5, aL (mxN g (σ 31 a) 6)), (4, aR 8 a), (0, aR 11 0), (1, aL h0), (3, aI (nI a))] [] σ τ (rX t) cX lX) : ∀ (d k : Nat) (v : Int64), k + d = 6 → v = mxN g (σ 31 a) k → am_G l 151 Q 0 0 85 [(7, aI (nI k)), (5, aL v), (4, aR 8 a), (0, aR 11 0), (1, aL h0), (3, aI (nI a))] [] σ τ (rX t) cX lX
  | 0, k, v, h, hv => by
    obtain rfl : k = 6 := by omega
    rw [hv]
    refine am_vc_ok am_k151 [85, 116] 100 ?_
    exact And.intro (fun _ => K) (fun h1 => absurd (show (6 : Int32) ≤ nI 6 by decide) h1)
  | d + 1, k, v, h, hv => by
    have K2 := x_mixServ_lp K d (k + 1) (mx v (σ 31 a k)) (by omega) (by rw [hv]; rfl)
    refine am_vc_ok am_k151 [85, 116] 100 ?_
    refine And.intro (fun h1 => absurd h1 (nI_ge (b := 6) (by omega) (by decide))) (fun _ => ?_)
    refine And.intro (vp_in_nI (N := 6) (by omega) (by decide)) ?_
    rw [nI_clamp (n := k) (by omega)]
    rw [← nI_1 k] at K2
    exact K2
theorem x_mixService {a n : Nat} {h0 : Int64} (ha : a < 6) (hn : σ 3 0 5 = nI n) (hn2 : n ≤ 30) : am_D l 151 [aR 11 0, aL h0, aI (nI a)] σ τ (rX t) cX lX (some (aL (mxV h0 (σ 8 a 0) (σ 8 a 1) (σ 8 a 2) (σ 8 a 3) (σ 8 a 4) (σ 31 a) (σ 8 a 5) (σ 8 a 6) (nI (cntN (fun c => decide (σ 0 c 1 = nI a ∧ σ 3 0 4 ≤ σ 0 c 15)) n))))) σ τ (rX t) := by
  refine am_D_of am_o151 am_l151 rfl ?_
  refine am_vc_ok am_k151 [85] 100 ?_
  refine And.intro (vp_in_nI (N := 6) ha (by decide)) ?_
  rw [nI_clamp (n := a) (by omega)]
  refine x_mixServ_lp (g := mx (mx (mx (mx (mx h0 (σ 8 a 0)) (σ 8 a 1)) (σ 8 a 2)) (σ 8 a 3)) (σ 8 a 4)) ?_ 6 0 _ (by omega) rfl
  refine am_vc_ok am_k151 [] 100 ?_
  refine am_vO am_k151 am_h151 rfl rfl rfl rfl (x_namesKept hn hn2) ?_
  refine am_vc_ok am_k151 [] 100 ?_
  exact am_vL am_k151 am_r151 rfl ⟨rfl, rfl, rfl, rfl, rfl, rfl⟩
end L32
