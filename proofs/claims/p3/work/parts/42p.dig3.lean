/-! digest: the class's whole of it -/
section L33
variable {l : Launch} {σ σ2 : tI} {τ τ2 : tL} {t : Option (Nat × Nat)}
def fN (g : Int64) (F : Nat → Int64 → Int64) : Nat → Int64
  | 0 => g
  | n + 1 => F n (fN g F n)
theorem fN_cg {g : Int64} {F G : Nat → Int64 → Int64} : ∀ {n : Nat}, (∀ k v, k < n → F k v = G k v) → fN g F n = fN g G n
  | 0, _ => rfl
  | n + 1, H => by
    unfold fN
    rw [fN_cg (fun k v hk => H k v (by omega)), H n _ (by omega)]
def xSh (σ : tI) (s : Nat) (h : Int64) : Int64 := if σ 9 (1 + s) 0 = 0 then mx h (-1) else mxI (mx h (σ 9 (1 + s) 1)) (fun k w => σ (32 + w) (1 + s) k) 6 (σ 9 (1 + s) 1).toNatClampNeg
def xRw (σ : tI) (r : Nat) (h : Int64) : Int64 := if σ 6 r 0 = 0 then mx h (-1) else mxN (mx h (σ 6 r 1)) (σ 30 r) (σ 6 r 1).toNatClampNeg
def xSv (σ : tI) (n a : Nat) (h : Int64) : Int64 := mxV h (σ 8 a 0) (σ 8 a 1) (σ 8 a 2) (σ 8 a 3) (σ 8 a 4) (σ 31 a) (σ 8 a 5) (σ 8 a 6) (nI (cntN (fun c => decide (σ 0 c 1 = nI a ∧ σ 3 0 4 ≤ σ 0 c 15)) n))
def xCa (σ : tI) (c : Nat) (h : Int64) : Int64 := mxN (mxN (mxN h (fun w => σ 0 c (cfJ w)) 7) (σ 13 c) 4) (fun w => σ 0 c (16 + w)) 3
def xFr (σ : tI) (f : Nat) (h : Int64) : Int64 := mxN h (fun w => σ (14 + w) 0 f) 5
theorem x_mixSh {s : Nat} {h0 : Int64} (hs : s < 4) (hR : Rshapes σ) : am_D l 150 [aL h0, aR 9 (1 + s)] σ τ (rX t) cX lX (some (aL (xSh σ s h0))) σ τ (rX t) := by
  unfold xSh
  rcases hR s hs with ⟨z, -⟩ | ⟨S, hS⟩
  · rw [if_pos z]
    refine am_D_of am_o150 am_l150 rfl ?_
    refine am_vc_ok am_k150 [] 100 ?_
    refine And.intro (fun _ => ?_) (fun g => absurd z g)
    refine am_vL am_k150 am_r150 rfl ⟨?_, rfl, rfl, rfl, rfl, rfl⟩
    rw [← mx_m1]
  · have hn := hS.2.2.1
    have hx := x_mixShape (l := l) (τ := τ) (t := t) (h0 := h0) hn hS.1.1
    rw [hn, nI_clamp (by have := hS.1.1; omega)]
    exact hx
theorem x_mixRw {r n : Nat} {h0 : Int64} (hn : σ 6 r 1 = nI n) (hl : n ≤ lX 30 r) (hb : lX 30 r < 2 ^ 31) : am_D l 153 [aL h0, aR 6 r] σ τ (rX t) cX lX (some (aL (xRw σ r h0))) σ τ (rX t) := by
  unfold xRw
  have hx := x_mixRow (l := l) (τ := τ) (t := t) (h0 := h0) hn hl hb
  rw [hn, nI_clamp (by omega)]
  exact hx
theorem x_dg1 {Q : tQ} {g : Int64} {C : Nat → Int32} (hC : ∀ w, w < 9 → am_D l 147 [aR 11 0, aI (nI w)] σ τ (rX t) cX lX (some (aI (C w))) σ τ (rX t)) (K : am_G l 140 Q 0 0 31 [(3, aI (nI 9)), (1, aL (fN g (fun k h => mx h (C k)) 9)), (0, aR 11 0)] [] σ τ (rX t) cX lX) : ∀ (d k : Nat) (v : Int64), k + d = 9 → v = fN g (fun k h => mx h (C k)) k → am_G l 140 Q 0 0 6 [(3, aI (nI k)), (1, aL v), (0, aR 11 0)] [] σ τ (rX t) cX lX
  | 0, k, v, h, hv => by
    obtain rfl : k = 9 := by omega
    rw [hv]
    refine am_vc_ok am_k140 [6, 31] 100 ?_
    exact And.intro (fun _ => K) (fun h1 => absurd (show (9 : Int32) ≤ nI 9 by decide) h1)
  | d + 1, k, v, h, hv => by
    have K2 := x_dg1 hC K d (k + 1) ((fun k h => mx h (C k)) k v) (by omega) (by rw [hv]; rfl)
    refine am_vc_ok am_k140 [6, 31] 100 ?_
    refine And.intro (fun h1 => absurd h1 (nI_ge (b := 9) (by omega) (by decide))) (fun _ => ?_)
    refine am_vO am_k140 am_h140 rfl rfl rfl rfl (hC k (by omega)) ?_
    refine am_vc_ok am_k140 [6, 31] 100 ?_
    rw [← nI_1 k] at K2
    exact K2
theorem x_dg2 {Q : tQ} {g : Int64} (hR : Rshapes σ) (K : am_G l 140 Q 0 0 55 [(3, aI (nI 4)), (1, aL (fN g (xSh σ) 4)), (0, aR 11 0)] [] σ τ (rX t) cX lX) : ∀ (d k : Nat) (v : Int64), k + d = 4 → v = fN g (xSh σ) k → am_G l 140 Q 0 0 33 [(3, aI (nI k)), (1, aL v), (0, aR 11 0)] [] σ τ (rX t) cX lX
  | 0, k, v, h, hv => by
    obtain rfl : k = 4 := by omega
    rw [hv]
    refine am_vc_ok am_k140 [33, 55] 100 ?_
    exact And.intro (fun _ => K) (fun h1 => absurd (show (4 : Int32) ≤ nI 4 by decide) h1)
  | d + 1, k, v, h, hv => by
    have K2 := x_dg2 hR K d (k + 1) ((xSh σ) k v) (by omega) (by rw [hv]; rfl)
    refine am_vc_ok am_k140 [33, 55] 100 ?_
    refine And.intro (fun h1 => absurd h1 (nI_ge (b := 4) (by omega) (by decide))) (fun _ => ?_)
    refine And.intro (vp_in_nI (N := 4) (by omega) (by decide)) ?_
    rw [nI_clamp (n := k) (by omega)]
    refine am_vS am_k140 am_h140 rfl rfl rfl rfl (x_mixSh (s := k) (by omega) hR) ?_
    refine am_vc_ok am_k140 [33, 55] 100 ?_
    rw [← nI_1 k] at K2
    exact K2
theorem x_dg3 {Q : tQ} {g : Int64} {n : Nat} (hn : σ 3 0 5 = nI n) (hn2 : n ≤ 30) (K : am_G l 140 Q 0 0 76 [(3, aI (nI 6)), (1, aL (fN g (xSv σ n) 6)), (0, aR 11 0)] [] σ τ (rX t) cX lX) : ∀ (d k : Nat) (v : Int64), k + d = 6 → v = fN g (xSv σ n) k → am_G l 140 Q 0 0 57 [(3, aI (nI k)), (1, aL v), (0, aR 11 0)] [] σ τ (rX t) cX lX
  | 0, k, v, h, hv => by
    obtain rfl : k = 6 := by omega
    rw [hv]
    refine am_vc_ok am_k140 [57, 76] 100 ?_
    exact And.intro (fun _ => K) (fun h1 => absurd (show (6 : Int32) ≤ nI 6 by decide) h1)
  | d + 1, k, v, h, hv => by
    have K2 := x_dg3 hn hn2 K d (k + 1) ((xSv σ n) k v) (by omega) (by rw [hv]; rfl)
    refine am_vc_ok am_k140 [57, 76] 100 ?_
    refine And.intro (fun h1 => absurd h1 (nI_ge (b := 6) (by omega) (by decide))) (fun _ => ?_)
    refine am_vO am_k140 am_h140 rfl rfl rfl rfl (x_mixService (a := k) (by omega) hn hn2) ?_
    refine am_vc_ok am_k140 [57, 76] 100 ?_
    rw [← nI_1 k] at K2
    exact K2
theorem x_dg4 {Q : tQ} {g : Int64} {n : Nat} (hn : σ 3 0 5 = nI n) (hn2 : n ≤ 30) (K : am_G l 140 Q 0 0 109 [(3, aI (nI n)), (1, aL (fN g (xCa σ) n)), (0, aR 11 0)] [] σ τ (rX t) cX lX) : ∀ (d k : Nat) (v : Int64), k + d = n → v = fN g (xCa σ) k → am_G l 140 Q 0 0 78 [(3, aI (nI k)), (1, aL v), (0, aR 11 0)] [] σ τ (rX t) cX lX
  | 0, k, v, h, hv => by
    obtain rfl : k = n := by omega
    rw [hv]
    refine am_vc_ok am_k140 [78, 109] 100 ?_
    exact And.intro (fun _ => K) (fun h1 => absurd (by rw [hn]; exact Int32.le_refl _) h1)
  | d + 1, k, v, h, hv => by
    have K2 := x_dg4 hn hn2 K d (k + 1) ((xCa σ) k v) (by omega) (by rw [hv]; rfl)
    refine am_vc_ok am_k140 [78, 109] 100 ?_
    refine And.intro (fun h1 => absurd h1 (by rw [hn]; exact nI_ge (b := n) (by omega) (by omega))) (fun _ => ?_)
    refine And.intro (vp_in_nI (N := 30) (by omega) (by decide)) ?_
    rw [nI_clamp (n := k) (by omega)]
    refine am_vS am_k140 am_h140 rfl rfl rfl rfl (x_mixCall (c := k)) ?_
    refine am_vc_ok am_k140 [78, 109] 100 ?_
    rw [← nI_1 k] at K2
    exact K2
theorem x_dg6 {Q : tQ} {g : Int64} (hR : ∀ r, r < 6 → ∃ n, n ≤ 60 ∧ σ 6 (4 + r) 1 = nI n) (K : am_G l 140 Q 0 0 192 [(3, aI (nI 6)), (1, aL (fN g (fun r => xRw σ (4 + r)) 6)), (0, aR 11 0)] [] σ τ (rX t) cX lX) : ∀ (d k : Nat) (v : Int64), k + d = 6 → v = fN g (fun r => xRw σ (4 + r)) k → am_G l 140 Q 0 0 169 [(3, aI (nI k)), (1, aL v), (0, aR 11 0)] [] σ τ (rX t) cX lX
  | 0, k, v, h, hv => by
    obtain rfl : k = 6 := by omega
    rw [hv]
    refine am_vc_ok am_k140 [169, 192] 100 ?_
    exact And.intro (fun _ => K) (fun h1 => absurd (show (6 : Int32) ≤ nI 6 by decide) h1)
  | d + 1, k, v, h, hv => by
    have K2 := x_dg6 hR K d (k + 1) ((fun r => xRw σ (4 + r)) k v) (by omega) (by rw [hv]; rfl)
    refine am_vc_ok am_k140 [169, 192] 100 ?_
    refine And.intro (fun h1 => absurd h1 (nI_ge (b := 6) (by omega) (by decide))) (fun _ => ?_)
    obtain ⟨n, n1, n2⟩ := hR k (by omega)
    have hl : lX 30 (4 + k) = 60 := lX_row (by omega)
    refine And.intro (vp_in_nI (N := 6) (by omega) (by decide)) ?_
    rw [nI_clamp (n := k) (by omega)]
    refine am_vS am_k140 am_h140 rfl rfl rfl rfl (x_mixRw (r := 4 + k) n2 (by omega) (by omega)) ?_
    refine am_vc_ok am_k140 [169, 192] 100 ?_
    rw [← nI_1 k] at K2
    exact K2
theorem x_dg7 {Q : tQ} {g : Int64} (hR : ∀ r, r < 6 → ∃ n, n ≤ 60 ∧ σ 6 (10 + r) 1 = nI n) (K : am_G l 140 Q 0 0 217 [(3, aI (nI 6)), (1, aL (fN g (fun r => xRw σ (10 + r)) 6)), (0, aR 11 0)] [] σ τ (rX t) cX lX) : ∀ (d k : Nat) (v : Int64), k + d = 6 → v = fN g (fun r => xRw σ (10 + r)) k → am_G l 140 Q 0 0 194 [(3, aI (nI k)), (1, aL v), (0, aR 11 0)] [] σ τ (rX t) cX lX
  | 0, k, v, h, hv => by
    obtain rfl : k = 6 := by omega
    rw [hv]
    refine am_vc_ok am_k140 [194, 217] 100 ?_
    exact And.intro (fun _ => K) (fun h1 => absurd (show (6 : Int32) ≤ nI 6 by decide) h1)
  | d + 1, k, v, h, hv => by
    have K2 := x_dg7 hR K d (k + 1) ((fun r => xRw σ (10 + r)) k v) (by omega) (by rw [hv]; rfl)
    refine am_vc_ok am_k140 [194, 217] 100 ?_
    refine And.intro (fun h1 => absurd h1 (nI_ge (b := 6) (by omega) (by decide))) (fun _ => ?_)
    obtain ⟨n, n1, n2⟩ := hR k (by omega)
    have hl : lX 30 (10 + k) = 60 := lX_row (by omega)
    refine And.intro (vp_in_nI (N := 6) (by omega) (by decide)) ?_
    rw [nI_clamp (n := k) (by omega)]
    refine am_vS am_k140 am_h140 rfl rfl rfl rfl (x_mixRw (r := 10 + k) n2 (by omega) (by omega)) ?_
    refine am_vc_ok am_k140 [194, 217] 100 ?_
    rw [← nI_1 k] at K2
    exact K2
theorem x_dg5i {Q : tQ} {f : Nat} {g : Int64} (hf : f < 690) (K : am_G l 140 Q 0 0 161 [(4, aI (nI 5)), (1, aL (mxN g (fun w => σ (14 + w) 0 f) 5)), (3, aI (nI f)), (0, aR 11 0)] [] σ τ (rX t) cX lX) : ∀ (d k : Nat) (v : Int64), k + d = 5 → v = mxN g (fun w => σ (14 + w) 0 f) k → am_G l 140 Q 0 0 128 [(4, aI (nI k)), (1, aL v), (3, aI (nI f)), (0, aR 11 0)] [] σ τ (rX t) cX lX
  | 0, k, v, h, hv => by
    obtain rfl : k = 5 := by omega
    rw [hv]
    refine am_vc_ok am_k140 [128, 161] 100 ?_
    exact And.intro (fun _ => K) (fun h1 => absurd (show (5 : Int32) ≤ nI 5 by decide) h1)
  | d + 1, k, v, h, hv => by
    have K2 := x_dg5i hf K d (k + 1) (mx v (σ (14 + k) 0 f)) (by omega) (by rw [hv]; rfl)
    refine am_vc_ok am_k140 [128, 161] 100 ?_
    refine And.intro (fun h1 => absurd h1 (nI_ge (b := 5) (by omega) (by decide))) (fun _ => ?_)
    refine am_vO am_k140 am_h140 rfl rfl rfl rfl (x_ffact hf (by omega)) ?_
    refine am_vc_ok am_k140 [128, 161] 100 ?_
    rw [← nI_1 k] at K2
    exact K2
theorem x_dg5 {Q : tQ} {g : Int64} {m : Nat} (hm : σ 1 0 0 = nI m) (hm2 : m ≤ 690) (K : am_G l 140 Q 0 0 167 [(3, aI (nI m)), (1, aL (fN g (xFr σ) m)), (0, aR 11 0)] [] σ τ (rX t) cX lX) : ∀ (d k : Nat) (v : Int64), k + d = m → v = fN g (xFr σ) k → am_G l 140 Q 0 0 111 [(3, aI (nI k)), (1, aL v), (0, aR 11 0)] [] σ τ (rX t) cX lX
  | 0, k, v, h, hv => by
    obtain rfl : k = m := by omega
    rw [hv]
    refine am_vc_ok am_k140 [111, 167] 100 ?_
    exact And.intro (fun _ => K) (fun h1 => absurd (by rw [hm]; exact Int32.le_refl _) h1)
  | d + 1, k, v, h, hv => by
    have K2 := x_dg5 hm hm2 K d (k + 1) (xFr σ k v) (by omega) (by rw [hv]; rfl)
    refine am_vc_ok am_k140 [111, 128, 167] 100 ?_
    refine And.intro (fun h1 => absurd h1 (by rw [hm]; exact nI_ge (b := m) (by omega) (by omega))) (fun _ => ?_)
    refine am_Gp (ls2 := [(4, aI (nI 0)), (1, aL v), (3, aI (nI k)), (0, aR 11 0)]) [0, 2, 1, 3] rfl ?_
    refine x_dg5i (g := v) (by omega) ?_ 5 0 _ (by omega) rfl
    refine am_vc_ok am_k140 [111] 100 ?_
    rw [← nI_1 k] at K2
    exact am_Gp [0, 2, 3] rfl K2
/-- the class's digest -/
def xDg (σ : tI) (C : Nat → Int32) (n m : Nat) : Int64 := fN (fN (fN (fN (fN (fN (fN 17 (fun k h => mx h (C k)) 9) (xSh σ) 4) (xSv σ n) 6) (xCa σ) n) (xFr σ) m) (fun r => xRw σ (4 + r)) 6) (fun r => xRw σ (10 + r)) 6
theorem x_digest {C : Nat → Int32} {n m : Nat} (hC : ∀ w, w < 9 → am_D l 147 [aR 11 0, aI (nI w)] σ τ (rX t) cX lX (some (aI (C w))) σ τ (rX t)) (hS : Rshapes σ) (hn : σ 3 0 5 = nI n) (hn2 : n ≤ 30) (hm : σ 1 0 0 = nI m) (hm2 : m ≤ 690) (hR : ∀ r, r < 6 → ∃ n, n ≤ 60 ∧ σ 6 (4 + r) 1 = nI n) (hT : ∀ r, r < 6 → ∃ n, n ≤ 60 ∧ σ 6 (10 + r) 1 = nI n) : am_D l 140 [aR 11 0] σ τ (rX t) cX lX (some (aL (xDg σ C n m))) σ τ (rX t) := by
  unfold xDg
  generalize e1 : fN 17 (fun k h => mx h (C k)) 9 = g1
  generalize e2 : fN g1 (xSh σ) 4 = g2
  generalize e3 : fN g2 (xSv σ n) 6 = g3
  generalize e4 : fN g3 (xCa σ) n = g4
  generalize e5 : fN g4 (xFr σ) m = g5
  generalize e6 : fN g5 (fun r => xRw σ (4 + r)) 6 = g6
  generalize e7 : fN g6 (fun r => xRw σ (10 + r)) 6 = g7
  refine am_D_of am_o140 am_l140 rfl ?_
  refine am_vc_ok am_k140 [6] 100 ?_
  refine x_dg1 (g := 17) hC ?_ 9 0 _ (by omega) rfl
  rw [e1]
  refine am_vc_ok am_k140 [33] 100 ?_
  refine x_dg2 (g := g1) hS ?_ 4 0 _ (by omega) rfl
  rw [e2]
  refine am_vc_ok am_k140 [57] 100 ?_
  refine x_dg3 (g := g2) hn hn2 ?_ 6 0 _ (by omega) rfl
  rw [e3]
  refine am_vc_ok am_k140 [78] 100 ?_
  refine x_dg4 (g := g3) hn hn2 ?_ n 0 _ (by omega) rfl
  rw [e4]
  refine am_vc_ok am_k140 [111] 100 ?_
  refine x_dg5 (g := g4) hm hm2 ?_ m 0 _ (by omega) rfl
  rw [e5]
  refine am_vc_ok am_k140 [169] 100 ?_
  refine x_dg6 (g := g5) hR ?_ 6 0 _ (by omega) rfl
  rw [e6]
  refine am_vc_ok am_k140 [194] 100 ?_
  refine x_dg7 (g := g6) hT ?_ 6 0 _ (by omega) rfl
  rw [e7]
  refine am_vc_ok am_k140 [] 100 ?_
  exact am_vL am_k140 am_r140 rfl ⟨rfl, rfl, rfl, rfl, rfl, rfl⟩
end L33
