/-! digest: what is mixed; the class's side of it -/
section L31
variable {l : Launch} {σ σ2 : tI} {τ τ2 : tL} {t : Option (Nat × Nat)}
abbrev mx (h : Int64) (v : Int32) : Int64 := 31 * h + v.toInt64
def mxN (h : Int64) (f : Nat → Int32) : Nat → Int64
  | 0 => h
  | n + 1 => mx (mxN h f n) (f n)
def mxI (h : Int64) (f : Nat → Nat → Int32) (m : Nat) : Nat → Int64
  | 0 => h
  | n + 1 => mxN (mxI h f m n) (f n) m
theorem mxN_cg {h : Int64} {f g : Nat → Int32} : ∀ {n : Nat}, (∀ c, c < n → f c = g c) → mxN h f n = mxN h g n
  | 0, _ => rfl
  | n + 1, H => by
    unfold mxN
    rw [mxN_cg (fun c hc => H c (by omega)), H n (by omega)]
theorem mxI_cg {h : Int64} {f g : Nat → Nat → Int32} {m : Nat} : ∀ {n : Nat}, (∀ c d, c < n → d < m → f c d = g c d) → mxI h f m n = mxI h g m n
  | 0, _ => rfl
  | n + 1, H => by
    unfold mxI
    rw [mxI_cg (fun c d hc hd => H c d (by omega) hd), mxN_cg (fun d hd => H n d (by omega) hd)]
theorem mx_m1 (h : Int64) : 31 * h - 1 = mx h (-1) := by
  rw [Int64.sub_eq_add_neg]
  rfl
theorem x_mixRow_lp {Q : tQ} {r n : Nat} {h0 g : Int64} (hn : σ 6 r 1 = nI n) (hl : n ≤ lX 30 r) (hb : lX 30 r < 2 ^ 31) (K : am_G l 153 Q 0 0 60 [(5, aI (nI n)), (3, aL (mxN g (σ 30 r) n)), (0, aL h0), (2, aR 6 r)] [] σ τ (rX t) cX lX) : ∀ (d k : Nat) (v : Int64), k + d = n → v = mxN g (σ 30 r) k → am_G l 153 Q 0 0 30 [(5, aI (nI k)), (3, aL v), (0, aL h0), (2, aR 6 r)] [] σ τ (rX t) cX lX
  | 0, k, v, h, hv => by
    obtain rfl : k = n := by omega
    rw [hv]
    refine am_vc_ok am_k153 [30, 60] 100 ?_
    exact And.intro (fun _ => K) (fun h1 => absurd (by rw [hn]; exact Int32.le_refl _) h1)
  | d + 1, k, v, h, hv => by
    have K2 := x_mixRow_lp hn hl hb K d (k + 1) (mx v (σ 30 r k)) (by omega) (by rw [hv]; rfl)
    refine am_vc_ok am_k153 [30, 60] 100 ?_
    refine And.intro (fun h1 => absurd h1 (by rw [hn]; exact nI_ge (b := n) (by omega) (by omega))) (fun _ => ?_)
    refine And.intro (vp_in_nI (N := lX 30 r) (by omega) hb) ?_
    rw [nI_clamp (n := k) (by omega)]
    rw [← nI_1 k] at K2
    exact K2
theorem x_mixRow {r n : Nat} {h0 : Int64} (hn : σ 6 r 1 = nI n) (hl : n ≤ lX 30 r) (hb : lX 30 r < 2 ^ 31) : am_D l 153 [aL h0, aR 6 r] σ τ (rX t) cX lX (some (aL (if σ 6 r 0 = 0 then mx h0 (-1) else mxN (mx h0 (nI n)) (σ 30 r) n))) σ τ (rX t) := by
  by_cases h0 : σ 6 r 0 = 0
  · simp only [if_pos h0]
    refine am_D_of am_o153 am_l153 rfl ?_
    refine am_vc_ok am_k153 [] 100 ?_
    refine And.intro (fun _ => ?_) (fun g => absurd h0 g)
    refine am_vL am_k153 am_r153 rfl ⟨?_, rfl, rfl, rfl, rfl, rfl⟩
    rw [← mx_m1]
  · simp only [if_neg h0]
    refine am_D_of am_o153 am_l153 rfl ?_
    refine am_vc_ok am_k153 [30] 100 ?_
    refine And.intro (fun g => absurd g h0) (fun _ => ?_)
    rw [← hn]
    refine x_mixRow_lp hn hl hb ?_ n 0 _ (by omega) rfl
    refine am_vc_ok am_k153 [] 100 ?_
    exact am_vL am_k153 am_r153 rfl ⟨rfl, rfl, rfl, rfl, rfl, rfl⟩
theorem x_mixCall_1 {Q : tQ} {c : Nat} {h0 g : Int64} (K : am_G l 152 Q 0 0 32 [(5, aI (nI 7)), (3, aL (mxN g (fun w => σ 0 c (cfJ w)) 7)), (0, aL h0), (2, aR 0 c)] [] σ τ (rX t) cX lX) : ∀ (d k : Nat) (v : Int64), k + d = 7 → v = mxN g (fun w => σ 0 c (cfJ w)) k → am_G l 152 Q 0 0 5 [(5, aI (nI k)), (3, aL v), (0, aL h0), (2, aR 0 c)] [] σ τ (rX t) cX lX
  | 0, k, v, h, hv => by
    obtain rfl : k = 7 := by omega
    rw [hv]
    refine am_vc_ok am_k152 [5, 32] 100 ?_
    exact And.intro (fun _ => K) (fun h1 => absurd (show (7 : Int32) ≤ nI 7 by decide) h1)
  | d + 1, k, v, h, hv => by
    have K2 := x_mixCall_1 K d (k + 1) (mx v (σ 0 c (cfJ k))) (by omega) (by rw [hv]; rfl)
    refine am_vc_ok am_k152 [5, 32] 100 ?_
    refine And.intro (fun h1 => absurd h1 (nI_ge (b := 7) (by omega) (by decide))) (fun _ => ?_)
    refine am_vO am_k152 am_h152 rfl rfl rfl rfl (x_cfact (by omega)) ?_
    refine am_vc_ok am_k152 [5, 32] 100 ?_
    rw [← nI_1 k] at K2
    exact K2
theorem x_mixCall_2 {Q : tQ} {c : Nat} {h0 g : Int64} (K : am_G l 152 Q 0 0 62 [(5, aI (nI 4)), (3, aL (mxN g (σ 13 c) 4)), (0, aL h0), (2, aR 0 c)] [] σ τ (rX t) cX lX) : ∀ (d k : Nat) (v : Int64), k + d = 4 → v = mxN g (σ 13 c) k → am_G l 152 Q 0 0 35 [(5, aI (nI k)), (3, aL v), (0, aL h0), (2, aR 0 c)] [] σ τ (rX t) cX lX
  | 0, k, v, h, hv => by
    obtain rfl : k = 4 := by omega
    rw [hv]
    refine am_vc_ok am_k152 [35, 62] 100 ?_
    exact And.intro (fun _ => K) (fun h1 => absurd (show (4 : Int32) ≤ nI 4 by decide) h1)
  | d + 1, k, v, h, hv => by
    have K2 := x_mixCall_2 K d (k + 1) (mx v (σ 13 c k)) (by omega) (by rw [hv]; rfl)
    refine am_vc_ok am_k152 [35, 62] 100 ?_
    refine And.intro (fun h1 => absurd h1 (nI_ge (b := 4) (by omega) (by decide))) (fun _ => ?_)
    refine And.intro (vp_in_nI (N := 4) (by omega) (by decide)) ?_
    rw [nI_clamp (n := k) (by omega)]
    rw [← nI_1 k] at K2
    exact K2
theorem x_mixCall_3 {Q : tQ} {c : Nat} {h0 g : Int64} (K : am_G l 152 Q 0 0 91 [(5, aI (nI 3)), (3, aL (mxN g (fun w => σ 0 c (16 + w)) 3)), (0, aL h0), (2, aR 0 c)] [] σ τ (rX t) cX lX) : ∀ (d k : Nat) (v : Int64), k + d = 3 → v = mxN g (fun w => σ 0 c (16 + w)) k → am_G l 152 Q 0 0 65 [(5, aI (nI k)), (3, aL v), (0, aL h0), (2, aR 0 c)] [] σ τ (rX t) cX lX
  | 0, k, v, h, hv => by
    obtain rfl : k = 3 := by omega
    rw [hv]
    refine am_vc_ok am_k152 [65, 91] 100 ?_
    exact And.intro (fun _ => K) (fun h1 => absurd (show (3 : Int32) ≤ nI 3 by decide) h1)
  | d + 1, k, v, h, hv => by
    have K2 := x_mixCall_3 K d (k + 1) (mx v (σ 0 c (16 + k))) (by omega) (by rw [hv]; rfl)
    refine am_vc_ok am_k152 [65, 91] 100 ?_
    refine And.intro (fun h1 => absurd h1 (nI_ge (b := 3) (by omega) (by decide))) (fun _ => ?_)
    refine am_vO am_k152 am_h152 rfl rfl rfl rfl (x_streamFact (by omega)) ?_
    refine am_vc_ok am_k152 [65, 91] 100 ?_
    rw [← nI_1 k] at K2
    exact K2
theorem x_mixCall {c : Nat} {h0 : Int64} : am_D l 152 [aL h0, aR 0 c] σ τ (rX t) cX lX (some (aL (mxN (mxN (mxN h0 (fun w => σ 0 c (cfJ w)) 7) (σ 13 c) 4) (fun w => σ 0 c (16 + w)) 3))) σ τ (rX t) := by
  refine am_D_of am_o152 am_l152 rfl ?_
  refine am_vc_ok am_k152 [5] 100 ?_
  refine x_mixCall_1 (g := h0) ?_ 7 0 _ (by omega) rfl
  refine am_vc_ok am_k152 [35] 100 ?_
  refine x_mixCall_2 (g := mxN h0 (fun w => σ 0 c (cfJ w)) 7) ?_ 4 0 _ (by omega) rfl
  refine am_vc_ok am_k152 [65] 100 ?_
  refine x_mixCall_3 (g := mxN (mxN h0 (fun w => σ 0 c (cfJ w)) 7) (σ 13 c) 4) ?_ 3 0 _ (by omega) rfl
  refine am_vc_ok am_k152 [] 100 ?_
  exact am_vL am_k152 am_r152 rfl ⟨rfl, rfl, rfl, rfl, rfl, rfl⟩
theorem x_mixShape_in {Q : tQ} {i n k : Nat} {h0 g : Int64} (hk : k < 12) (K : am_G l 150 Q 0 0 71 [(6, aI (nI 6)), (3, aL (mxN g (fun w => σ (32 + w) i k) 6)), (5, aI (nI k)), (0, aL h0), (2, aR 9 i)] [] σ τ (rX t) cX lX) : ∀ (d w : Nat) (v : Int64), w + d = 6 → v = mxN g (fun w => σ (32 + w) i k) w → am_G l 150 Q 0 0 42 [(6, aI (nI w)), (3, aL v), (5, aI (nI k)), (0, aL h0), (2, aR 9 i)] [] σ τ (rX t) cX lX
  | 0, w, v, h, hv => by
    obtain rfl : w = 6 := by omega
    rw [hv]
    refine am_vc_ok am_k150 [42, 71] 100 ?_
    exact And.intro (fun _ => K) (fun h1 => absurd (show (6 : Int32) ≤ nI 6 by decide) h1)
  | d + 1, w, v, h, hv => by
    have K2 := x_mixShape_in (n := n) hk K d (w + 1) (mx v (σ (32 + w) i k)) (by omega) (by rw [hv]; rfl)
    refine am_vc_ok am_k150 [42, 71] 100 ?_
    refine And.intro (fun h1 => absurd h1 (nI_ge (b := 6) (by omega) (by decide))) (fun _ => ?_)
    refine am_vO am_k150 am_h150 rfl rfl rfl rfl (x_sfact hk (by omega)) ?_
    refine am_vc_ok am_k150 [42, 71] 100 ?_
    rw [← nI_1 w] at K2
    exact K2
theorem x_mixShape_lp {Q : tQ} {i n : Nat} {h0 g : Int64} (hn : σ 9 i 1 = nI n) (hn2 : n ≤ 12) (K : am_G l 150 Q 0 0 77 [(5, aI (nI n)), (3, aL (mxI g (fun k w => σ (32 + w) i k) 6 n)), (0, aL h0), (2, aR 9 i)] [] σ τ (rX t) cX lX) : ∀ (d k : Nat), k + d = n → am_G l 150 Q 0 0 30 [(5, aI (nI k)), (3, aL (mxI g (fun k w => σ (32 + w) i k) 6 k)), (0, aL h0), (2, aR 9 i)] [] σ τ (rX t) cX lX
  | 0, k, h => by
    obtain rfl : k = n := by omega
    refine am_vc_ok am_k150 [30, 77] 100 ?_
    exact And.intro (fun _ => K) (fun h1 => absurd (by rw [hn]; exact Int32.le_refl _) h1)
  | d + 1, k, h => by
    have K2 := x_mixShape_lp hn hn2 K d (k + 1) (by omega)
    refine am_vc_ok am_k150 [30, 42, 77] 100 ?_
    refine And.intro (fun h1 => absurd h1 (by rw [hn]; exact nI_ge (b := n) (by omega) (by omega))) (fun _ => ?_)
    refine am_Gp (ls2 := [(6, aI (nI 0)), (3, aL (mxI g (fun k w => σ (32 + w) i k) 6 k)), (5, aI (nI k)), (0, aL h0), (2, aR 9 i)]) [0, 2, 1, 3, 4] rfl ?_
    refine x_mixShape_in (n := n) (by omega) ?_ 6 0 _ (by omega) rfl
    refine am_vc_ok am_k150 [30] 100 ?_
    rw [← nI_1 k] at K2
    exact am_Gp [0, 2, 3, 4] rfl K2
theorem x_mixShape {i n : Nat} {h0 : Int64} (hn : σ 9 i 1 = nI n) (hn2 : n ≤ 12) : am_D l 150 [aL h0, aR 9 i] σ τ (rX t) cX lX (some (aL (if σ 9 i 0 = 0 then mx h0 (-1) else mxI (mx h0 (nI n)) (fun k w => σ (32 + w) i k) 6 n))) σ τ (rX t) := by
  by_cases h0 : σ 9 i 0 = 0
  · simp only [if_pos h0]
    refine am_D_of am_o150 am_l150 rfl ?_
    refine am_vc_ok am_k150 [] 100 ?_
    refine And.intro (fun _ => ?_) (fun g => absurd h0 g)
    refine am_vL am_k150 am_r150 rfl ⟨?_, rfl, rfl, rfl, rfl, rfl⟩
    rw [← mx_m1]
  · simp only [if_neg h0]
    refine am_D_of am_o150 am_l150 rfl ?_
    refine am_vc_ok am_k150 [30] 100 ?_
    refine And.intro (fun g => absurd g h0) (fun _ => ?_)
    rw [← hn]
    refine x_mixShape_lp hn hn2 ?_ n 0 (by omega)
    refine am_vc_ok am_k150 [] 100 ?_
    exact am_vL am_k150 am_r150 rfl ⟨rfl, rfl, rfl, rfl, rfl, rfl⟩
end L31
