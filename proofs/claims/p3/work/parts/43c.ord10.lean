/-! the class's layOutSteps, search; order, orderAt, putIn -/
section L46
variable {l : Launch} {σ σ2 : tI} {τ τ2 : tL} {t : Option (Nat × Nat)}
/-- what leads on to c, by so many steps -/
def ldN (r : Nat → Prop) (c : Nat) : Nat → Nat → Prop
  | 0, _ => False
  | n + 1, s => r s ∧ (s = c ∨ ∃ a, a < 6 ∧ mb s a = false ∧ mb c a = true ∧ ldN r c n (ad s a))
theorem ldN_st {r : Nat → Prop} {c : Nat} : ∀ (n m s : Nat), s < 64 → 64 ≤ s + n → 64 ≤ s + m → (ldN r c n s ↔ ldN r c m s)
  | 0, _, s, hs, h, _ => absurd h (by omega)
  | n + 1, 0, s, hs, _, h => absurd h (by omega)
  | n + 1, m + 1, s, hs, h1, h2 => by
    unfold ldN
    refine and_congr_right fun _ => or_congr_right (exists_congr fun a => and_congr_right fun ha => and_congr_right fun hm => and_congr_right fun _ => ?_)
    have := ad_gt s hs a ha hm
    exact ldN_st n m (ad s a) (ad_lt s hs a ha) (by omega) (by omega)
theorem ldN_ok {r : Nat → Prop} {c : Nat} : LDr r (ldN r c 64) c := by
  intro s hs
  show ldN r c 64 s ↔ _
  rw [ldN]
  refine and_congr_right fun _ => or_congr_right (exists_congr fun a => and_congr_right fun ha => and_congr_right fun hm => and_congr_right fun _ => ?_)
  have := ad_gt s hs a ha hm
  exact ldN_st 63 64 (ad s a) (ad_lt s hs a ha) (by omega) (by omega)
theorem x_ls_lp {Q : tQ} {F : Nat → Prop} {c n : Nat} (hn : n ≤ 6) (hc : c < 64) (hF : ∀ s, s < 64 → σ 27 0 s = cI (F s)) (h5 : σ 5 0 2 = nI c) (hG : ∀ k, k ≤ n → gset (pX F) k < 64 ∧ (k < n → ∃ a, 0 ≤ a ∧ a < 0 + 6 ∧ pX F (gset (pX F) k) a) ∧ (gset (pX F) k = c ↔ k = n)) (K : ∀ σ', (∀ q, q ≠ 5 → q ≠ 29 → σ' q = σ q) → (∀ j, j ≠ 4 → σ' 5 0 j = σ 5 0 j) → σ' 5 0 4 = nI n → (∀ j, j < n → σ' 29 0 j = nI (nxt (pX F) (gset (pX F) j))) → Q none σ' τ (rX t) cX lX) : ∀ (d k : Nat) (σ' : tI) (L : am_ls), k + d = n → (∀ q, q ≠ 5 → q ≠ 29 → σ' q = σ q) → (∀ j, j ≠ 4 → σ' 5 0 j = σ 5 0 j) → σ' 5 0 4 = nI k → (∀ j, j < k → σ' 29 0 j = nI (nxt (pX F) (gset (pX F) j))) → am_G l 54 Q 0 0 9 [(2, aI (nI k)), (1, aI (nI (gset (pX F) k))), (0, aR 5 0)] [] σ' τ (rX t) cX lX
  | 0, k, σ', L, h, h1, h2, h3, h4 => by
    obtain rfl : k = n := by omega
    obtain ⟨g1, -, g3⟩ := hG k (Nat.le_refl _)
    have hq : Q none σ' τ (rX t) cX lX := K σ' h1 h2 h3 h4
    have e5 : σ' 5 0 2 = nI c := (h2 2 (by decide)).trans h5
    rw [g3.mpr rfl]
    refine am_vc_ok am_k54 [9] 100 ?_
    refine And.intro (fun _ => ?_) (fun _ => ?_)
    · exact am_vV am_k54 am_r54 rfl hq
    · refine And.intro (fun _ => ?_) (fun e => absurd e5.symm e)
      exact am_vV am_k54 am_r54 rfl hq
  | d + 1, k, σ', L, h, h1, h2, h3, h4 => by
    have hk : k < 6 := by omega
    obtain ⟨g1, g2, g3⟩ := hG k (by omega)
    have g2 := g2 (by omega)
    have hnx := (nxtN_ok 6 0 g2).2
    rw [Nat.zero_add] at hnx
    have e5 : σ' 5 0 2 = nI c := (h2 2 (by decide)).trans h5
    have e27 : σ' 27 = σ 27 := h1 27 (by decide) (by decide)
    refine am_vc_ok am_k54 [9] 100 ?_
    refine And.intro (fun h1 => absurd h1 (nI_ge (b := 6) (by omega) (by decide))) (fun _ => ?_)
    refine And.intro (fun e => absurd (g3.mp (nI_inj' (by omega) (by omega) (Eq.trans e e5))) (by omega)) (fun _ => ?_)
    refine am_vO am_k54 am_h54 rfl rfl rfl rfl (x_firstFits g1 (by rw [e27]; exact hF) g2) ?_
    refine am_vc_ok am_k54 [9] 100 ?_
    refine And.intro (fun e => absurd e (n9_4 (Nat.lt_trans hnx (by decide)))) (fun _ => ?_)
    refine And.intro (by rw [h3]; exact vp_in_nI (N := 6) hk (by decide)) ?_
    rw [h3, nI_clamp (n := k) (by omega)]
    have K2 := x_ls_lp hn hc hF h5 hG K d (k + 1) (u3 (u3 σ' 29 0 k (nI (nxt (pX F) (gset (pX F) k)))) 5 0 4 (nI k + 1)) [] (by omega) (fun q a1 a2 => by rw [u3_kk _ _ a1, u3_kk _ _ a2]; exact h1 q a1 a2) (fun j hj => by rw [u3_j _ _ hj, u3_k _ _ (by decide)]; exact h2 j hj) (by rw [u3_eq, nI_1]) (fun j hj => by
      rw [u3_k _ _ (by decide)]
      by_cases e : j = k
      · rw [e, u3_eq]
      · rw [u3_j _ _ e]; exact h4 j (by omega))
    rw [show gset (pX F) (k + 1) = ad (gset (pX F) k) (nxt (pX F) (gset (pX F) k)) from rfl, ← or_ad _ g1 _ hnx, ← nI_1 k] at K2
    exact am_Gs (by rw [u3_k _ _ (show 5 ≠ 29 by decide), h3]) (am_Gp [0, 1, 3] rfl K2)
theorem x_layOut {F : Nat → Prop} {c n : Nat} (hn : n ≤ 6) (hc : c < 64) (hF : ∀ s, s < 64 → σ 27 0 s = cI (F s)) (h5 : σ 5 0 2 = nI c) (hG : ∀ k, k ≤ n → gset (pX F) k < 64 ∧ (k < n → ∃ a, 0 ≤ a ∧ a < 0 + 6 ∧ pX F (gset (pX F) k) a) ∧ (gset (pX F) k = c ↔ k = n)) : am_T l 54 [aR 5 0] σ τ t (fun r s2 τ2 t2 => r = none ∧ τ2 = τ ∧ t2 = t ∧ (∀ q, q ≠ 5 → q ≠ 29 → s2 q = σ q) ∧ (∀ j, j ≠ 4 → s2 5 0 j = σ 5 0 j) ∧ s2 5 0 4 = nI n ∧ (∀ j, j < n → s2 29 0 j = nI (nxt (pX F) (gset (pX F) j)))) := by
  refine am_T_of am_o54 am_l54 rfl ?_
  refine am_vc_ok am_k54 [9] 100 ?_
  refine am_Gp (ls2 := [(2, aI (nI 0)), (1, aI (nI (gset (pX F) 0))), (0, aR 5 0)]) [0, 1, 2] rfl ?_
  refine x_ls_lp (σ := σ) hn hc hF h5 hG ?_ n 0 _ [] (by omega) (fun q a1 a2 => by rw [u3_kk _ _ a1]) (fun j hj => by rw [u3_j _ _ hj]) (by rw [u3_eq]; rfl) (fun j hj => absurd hj (by omega))
  intro σ' h1 h2 h3 h4
  exact ⟨t, rfl, rfl, rfl, rfl, rfl, rfl, h1, h2, h3, h4⟩
/-- what search leaves -/
def seP (F : Nat → Prop) (c : Nat) (σ s2 : tI) : Prop := (∀ q, q ≠ 5 → q ≠ 28 → q ≠ 29 → s2 q = σ q) ∧ ∃ r : Nat → Prop, CMr F r ∧ s2 5 0 3 = nI (bst r 64) ∧ (¬ r c → s2 5 0 4 = -9) ∧ (r c → s2 5 0 4 = nI (pc c) ∧ ∀ j, j < pc c → s2 29 0 j = nI (nxt (pX F) (gset (pX F) j)))
theorem x_search {W : Nat → Int32 → Int32 → Prop} {V0 V1 : Nat → Int32} {c : Nat} (hc : c < 64) (hF : ∀ s, s < 64 → σ 27 0 s = cI (FS W V0 V1 c s)) (h5 : σ 5 0 2 = nI c) : am_T l 51 [aR 5 0] σ τ t (fun r s2 τ2 t2 => r = none ∧ τ2 = τ ∧ t2 = t ∧ seP (FS W V0 V1 c) c σ s2) := by
  refine am_T_of am_o51 am_l51 rfl ?_
  refine am_vc_ok am_k51 [] 100 ?_
  refine am_vOT am_k51 am_h51 rfl rfl rfl rfl (x_markReached hF) ?_
  rintro r s1 τ2 t2 ⟨rfl, rfl, rfl, hP⟩
  have hr : CMr (FS W V0 V1 c) (fun s => s1 28 0 s = 1) := fun s hs => hP.2.2 s hs
  have hs1 : ∀ q, q ≠ 28 → s1 q = σ q := hP.1
  refine am_vc_ok am_k51 [] 100 ?_
  refine am_vO am_k51 am_h51 rfl rfl rfl rfl (x_mostReached (fun s hs => hP.2.1 s hs)) ?_
  refine am_vc_ok am_k51 [] 100 ?_
  have e5 : s1 5 0 2 = nI c := by rw [hs1 5 (by decide), h5]
  refine And.intro (by rw [u3_j _ _ (show 2 ≠ 4 by decide), u3_j _ _ (show 2 ≠ 3 by decide), e5]; exact vp_in_nI (N := 64) hc (by decide)) ?_
  rw [u3_j _ _ (show 2 ≠ 4 by decide), u3_j _ _ (show 2 ≠ 3 by decide), e5, nI_clamp (n := c) (by omega), u3_k _ _ (show 28 ≠ 5 by decide), u3_k _ _ (show 28 ≠ 5 by decide)]
  refine And.intro (fun e => ?_) (fun e => ?_)
  · have e : s1 28 0 c = 0 := e
    refine am_vV am_k51 am_r51 rfl ⟨t2, rfl, rfl, rfl, rfl, rfl, rfl, fun q a1 a2 a3 => ?_, fun s => s1 28 0 s = 1, hr, ?_, fun _ => u3_eq _ _ _ _ _, fun z => absurd (e.symm.trans z) (by decide)⟩
    · rw [u3_kk _ _ a1, u3_kk _ _ a1]; exact hs1 q a2
    · rw [u3_j _ _ (by decide), u3_eq]
  · have e : ¬ s1 28 0 c = 0 := e
    have e1 : s1 28 0 c = 1 := (hP.2.1 c hc).resolve_left e
    have hL := ldN_ok (r := fun s => s1 28 0 s = 1) (c := c)
    have hl0 : ldN (fun s => s1 28 0 s = 1) c 64 0 := (hL.zero hr hc (fun s hf => hf.1)).mpr e1
    have hG : ∀ k, k ≤ pc c → gset (pX (FS W V0 V1 c)) k < 64 ∧ (k < pc c → ∃ a, 0 ≤ a ∧ a < 0 + 6 ∧ pX (FS W V0 V1 c) (gset (pX (FS W V0 V1 c)) k) a) ∧ (gset (pX (FS W V0 V1 c)) k = c ↔ k = pc c) := by
      intro k hk
      obtain ⟨i1, i2, i3⟩ := gs_inv hL hl0 k hk
      rw [gs_eq hr hL hc hl0 k hk]
      refine ⟨i1, fun hk2 => ?_, fun z => ?_, fun z => ?_⟩
      · obtain ⟨a, b1, b2, b3, b4, b5⟩ := gs_ex hL i1 i2 (by omega)
        exact ⟨a, b1, b2, b3, (hL.fit hr hc i1 (by omega) b3 i2).mpr ⟨b4, b5⟩⟩
      · rw [z] at i3; exact i3.symm
      · rw [z]; exact gs_end hr hL hc hl0
    refine am_vOT am_k51 am_h51 rfl rfl rfl rfl (x_layOut (F := FS W V0 V1 c) (pc_6 c hc) hc (fun s hs => by rw [u3_k _ _ (show 27 ≠ 5 by decide), u3_k _ _ (show 27 ≠ 5 by decide), hs1 27 (by decide)]; exact hF s hs) (by rw [u3_j _ _ (show 2 ≠ 4 by decide), u3_j _ _ (show 2 ≠ 3 by decide)]; exact e5) hG) ?_
    rintro r s3 τ2 t2 ⟨rfl, rfl, rfl, b1, b2, b3, b4⟩
    refine am_vc_ok am_k51 [] 100 ?_
    refine am_vV am_k51 am_r51 rfl ⟨t2, rfl, rfl, rfl, rfl, rfl, rfl, fun q a1 a2 a3 => ?_, fun s => s1 28 0 s = 1, hr, ?_, fun z => absurd e1 z, fun _ => ⟨b3, b4⟩⟩
    · rw [b1 q a1 a3, u3_kk _ _ a1, u3_kk _ _ a1]; exact hs1 q a2
    · rw [b2 3 (by decide), u3_j _ _ (by decide), u3_eq]
/-- kinds that the relation does not look at, or only in part -/
def scK : Nat → Bool := fun q => Nat.beq q 4 || Nat.beq q 5 || Nat.beq q 6 || Nat.beq q 7 || Nat.beq q 9 || Nat.beq q 10 || Nat.beq q 12 || (Nat.ble 26 q && Nat.ble q 30) || (Nat.ble 32 q && Nat.ble q 38) || Nat.beq q 46 || (Nat.ble 51 q && Nat.ble q 54) || Nat.beq q 60 || Nat.beq q 61
def scj : Nat → Bool := fun j => Nat.beq j 13 || Nat.beq j 15 || Nat.beq j 16 || Nat.beq j 19 || Nat.beq j 20 || Nat.beq j 21
theorem Rshapes.fr2 (h : Rshapes σ) (hk : ∀ k s, k = 9 ∨ (32 ≤ k ∧ k ≤ 38) → σ2 k (1 + s) = σ k (1 + s)) (h49 : σ2 49 = σ 49) (h50 : σ2 50 = σ 50) : Rshapes σ2 := by
  intro s hs
  have h1 := h s hs
  unfold Rshape XItems XIndex MItems at h1 ⊢
  rw [hk 9 s (by decide), hk 32 s (by decide), hk 33 s (by decide), hk 34 s (by decide), hk 35 s (by decide), hk 36 s (by decide), hk 37 s (by decide), hk 38 s (by decide), h49, h50]
  exact h1
/-- only scratch has changed -/
theorem Rall.scr (h : Rall σ τ) (hk : ∀ q, scK q = false → σ2 q = σ q) (h4 : ∀ j, j < 5 → σ2 4 0 j = σ 4 0 j) (h6 : ∀ i, i ≠ 0 → i ≠ 1 → i ≠ 3 → σ2 6 i = σ 6 i) (h30 : ∀ i, i ≠ 0 → i ≠ 1 → i ≠ 3 → σ2 30 i = σ 30 i) (hs : ∀ k s, k = 9 ∨ (32 ≤ k ∧ k ≤ 38) → σ2 k (1 + s) = σ k (1 + s)) (h12 : ∀ j, scj j = false → σ2 12 0 j = σ 12 0 j) : Rall σ2 τ := by
  obtain ⟨z1, z2, z3, z4, z5, z6, T, n, m, lo, kk, z7⟩ := h
  refine ⟨z1.fr (fun r _ => h6 _ (by omega) (by omega) (by omega)) (fun r _ => h30 _ (by omega) (by omega) (by omega)) (hk 44 rfl) (hk 45 rfl), z2.fr (fun r _ => h6 _ (by omega) (by omega) (by omega)) (fun r _ => h30 _ (by omega) (by omega) (by omega)) (hk 47 rfl) (hk 48 rfl), z3.fr2 hs (hk 49 rfl) (hk 50 rfl), ?_, z5.fr (fun a _ => by rw [hk 8 rfl]; exact ⟨rfl, rfl⟩) (hk 57 rfl) (hk 58 rfl) (hk 31 rfl) (hk 59 rfl) (fun s _ z => by rw [hk 49 rfl]; exact z), ?_, T, n, m, lo, kk, z7.fr (fun k z => hk k ?_) (fun j z => h12 j ?_) (fun a j _ _ => by rw [hk 8 rfl])⟩
  · unfold Rread at z4 ⊢
    rw [h4 2 (by decide), h4 3 (by decide), h4 4 (by decide), hk 55 rfl, hk 56 rfl, h6 2 (by decide) (by decide) (by decide), h30 2 (by decide) (by decide) (by decide), h12 24 rfl]
    exact z4
  · unfold Rmisc at z6 ⊢
    rw [hk 11 rfl, h12 2 rfl]
    exact z6
  · cases hc : scK k with
    | false => rfl
    | true =>
      exfalso
      simp only [scK, kNet, Bool.or_eq_true, Bool.and_eq_true, Nat.beq_eq, Nat.ble_eq] at hc z
      omega
  · cases hc : scj j with
    | false => rfl
    | true =>
      exfalso
      simp only [scj, jNet, Bool.or_eq_true, Nat.beq_eq] at hc z
      omega
/-- what finds orders is none of the relation's -/
theorem Rall.ord (h : Rall σ τ) (hk : ∀ q, q ≠ 5 → q ≠ 27 → q ≠ 28 → q ≠ 29 → q ≠ 60 → q ≠ 61 → σ2 q = σ q) : Rall σ2 τ := by
  have g : ∀ q, q ≠ 5 ∧ q ≠ 27 ∧ q ≠ 28 ∧ q ≠ 29 ∧ q ≠ 60 ∧ q ≠ 61 → σ2 q = σ q := fun q ⟨a1, a2, a3, a4, a5, a6⟩ => hk q a1 a2 a3 a4 a5 a6
  refine h.scr (fun q hq => g q ⟨?_, ?_, ?_, ?_, ?_, ?_⟩) (fun j _ => by rw [g 4 (by decide)]) (fun i _ _ _ => by rw [g 6 (by decide)]) (fun i _ _ _ => by rw [g 30 (by decide)]) (fun k s hks => by rw [g k (by omega)]) (fun j _ => by rw [g 12 (by decide)])
  all_goals (rintro rfl; exact absurd hq (by decide))
theorem u3_cg {f g : tI} {k i j q : Nat} {v : Int32} (h : f q = g q) : u3 f k i j v q = u3 g k i j v q := by
  funext b c
  unfold u3
  rw [h]
theorem fs_k {f : tI} (h : ∀ q, q = 49 ∨ q = 50 ∨ q = 57 ∨ q = 58 ∨ q = 59 → f q = σ q) : fsS f = fsS σ ∧ fitS f = fitS σ ∧ chS f = chS σ := by
  have e : okW f = okW σ := okW_k (h 49 (by decide)) (h 50 (by decide)) (h 59 (by decide))
  have e7 := h 57 (by decide)
  have e8 := h 58 (by decide)
  refine ⟨?_, ?_, ?_⟩
  · funext s; unfold fsS chS; rw [e, e7, e8]
  · funext s; unfold fitS; rw [e, e7, e8]
  · unfold chS; rw [e7, e8]
theorem sub0 {c : Nat} : sub 0 c := fun x hx h => by
  have z : ∀ x, x < 6 → mb 0 x = false := by decide +kernel
  rw [z x hx] at h
  cases h
theorem fs0 : fsS σ 0 ↔ fitS σ 0 := ⟨fun h => h.2, fun h => ⟨sub0, h⟩⟩
theorem DrOK.k {f : tI} (h : DrOK σ) (h49 : f 49 = σ 49) (h59 : f 59 = σ 59) : DrOK f := by
  unfold DrOK
  rw [h49, h59]
  exact h
theorem svP.se {s1 s2 : tI} (h : svP σ s1) (h2 : seP (fsS σ) (chS σ) s1 s2) : ∀ q, q ≠ 5 → q ≠ 27 → q ≠ 28 → q ≠ 29 → s2 q = σ q := fun q a1 a2 a3 a4 => (h2.1 q a1 a3 a4).trans (h.1 q a1 a2)
theorem x_order_no (hR : Rserv σ) (hSh : Rshapes σ) (h0 : ¬ fitS σ 0) : am_T l 114 [aR 11 0] σ τ t (fun r s2 τ2 t2 => r = some (aI (-4)) ∧ τ2 = τ ∧ t2 = t ∧ ∀ q, q ≠ 5 → q ≠ 27 → s2 q = σ q) := by
  refine am_T_of am_o114 am_l114 rfl ?_
  refine am_vc_ok am_k114 [] 100 ?_
  refine am_vOT am_k114 am_h114 rfl rfl rfl rfl (x_survey hR hSh) ?_
  rintro r s1 τ2 t2 ⟨rfl, rfl, rfl, hV⟩
  refine am_vc_ok am_k114 [] 100 ?_
  refine am_vO am_k114 am_h114 rfl rfl rfl rfl (x_fitsNow (hV.2.2 0 (by decide)) cI_01) ?_
  refine am_vc_ok am_k114 [] 100 ?_
  refine And.intro (fun _ => ?_) (fun e => absurd (fs0.mp (cI_n0.mp e)) h0)
  exact am_vI am_k114 am_r114 rfl ⟨t2, rfl, rfl, rfl, rfl, rfl, rfl, hV.1⟩
theorem x_order (hR : Rserv σ) (hSh : Rshapes σ) (h0 : fitS σ 0) : am_T l 114 [aR 11 0] σ τ t (fun r s3 τ2 t2 => τ2 = τ ∧ t2 = t ∧ ∃ s1 s2, svP σ s1 ∧ seP (fsS σ) (chS σ) s1 s2 ∧ s3 = u3 s2 11 0 11 (s2 5 0 3) ∧ r = some (aI (s2 5 0 4))) := by
  refine am_T_of am_o114 am_l114 rfl ?_
  refine am_vc_ok am_k114 [] 100 ?_
  refine am_vOT am_k114 am_h114 rfl rfl rfl rfl (x_survey hR hSh) ?_
  rintro r s1 τ2 t2 ⟨rfl, rfl, rfl, hV⟩
  refine am_vc_ok am_k114 [] 100 ?_
  refine am_vO am_k114 am_h114 rfl rfl rfl rfl (x_fitsNow (hV.2.2 0 (by decide)) cI_01) ?_
  refine am_vc_ok am_k114 [] 100 ?_
  refine And.intro (fun e => absurd (fs0.mpr h0) (cI_0.mp e)) (fun _ => ?_)
  refine am_vOT am_k114 am_h114 rfl rfl rfl rfl (x_search chS_lt hV.2.2 hV.2.1) ?_
  rintro r s2 τ2 t2 ⟨rfl, rfl, rfl, hE⟩
  refine am_vc_ok am_k114 [] 100 ?_
  exact am_vI am_k114 am_r114 rfl ⟨t2, rfl, rfl, rfl, rfl, rfl, s1, s2, hV, hE, rfl, rfl⟩
theorem x_oa_bad {i : Int32} (hi : i < 0) : am_D l 115 [aR 11 0, aI i] σ τ (rX t) cX lX (some (aI (-1))) σ τ (rX t) := by
  refine am_D_of am_o115 am_l115 rfl ?_
  refine am_vc_ok am_k115 [] 100 ?_
  refine And.intro (fun g => absurd hi (Int32.not_lt.mpr g)) (fun _ => ?_)
  exact am_vI am_k115 am_r115 rfl ⟨rfl, rfl, rfl, rfl, rfl, rfl⟩
theorem x_oa_no {i : Int32} (hi : 0 ≤ i) (hR : Rserv σ) (hSh : Rshapes σ) (h0 : ¬ fitS σ 0) : am_T l 115 [aR 11 0, aI i] σ τ t (fun r s2 τ2 t2 => r = some (aI (-4)) ∧ τ2 = τ ∧ t2 = t ∧ ∀ q, q ≠ 5 → q ≠ 27 → s2 q = σ q) := by
  refine am_T_of am_o115 am_l115 rfl ?_
  refine am_vc_ok am_k115 [] 100 ?_
  refine And.intro (fun _ => ?_) (fun g => absurd hi g)
  refine am_vOT am_k115 am_h115 rfl rfl rfl rfl (x_survey hR hSh) ?_
  rintro r s1 τ2 t2 ⟨rfl, rfl, rfl, hV⟩
  refine am_vc_ok am_k115 [] 100 ?_
  refine am_vO am_k115 am_h115 rfl rfl rfl rfl (x_fitsNow (hV.2.2 0 (by decide)) cI_01) ?_
  refine am_vc_ok am_k115 [] 100 ?_
  refine And.intro (fun _ => ?_) (fun e => absurd (fs0.mp (cI_n0.mp e)) h0)
  exact am_vI am_k115 am_r115 rfl ⟨t2, rfl, rfl, rfl, rfl, rfl, rfl, hV.1⟩
theorem x_oa {i : Int32} (hi : 0 ≤ i) (hR : Rserv σ) (hSh : Rshapes σ) (h0 : fitS σ 0) : am_T l 115 [aR 11 0, aI i] σ τ t (fun r s2 τ2 t2 => τ2 = τ ∧ t2 = t ∧ ∃ s1, svP σ s1 ∧ seP (fsS σ) (chS σ) s1 s2 ∧ r = some (aI (if i < s2 5 0 4 then s2 29 0 i.toNatClampNeg else -9))) := by
  refine am_T_of am_o115 am_l115 rfl ?_
  refine am_vc_ok am_k115 [] 100 ?_
  refine And.intro (fun _ => ?_) (fun g => absurd hi g)
  refine am_vOT am_k115 am_h115 rfl rfl rfl rfl (x_survey hR hSh) ?_
  rintro r s1 τ2 t2 ⟨rfl, rfl, rfl, hV⟩
  refine am_vc_ok am_k115 [] 100 ?_
  refine am_vO am_k115 am_h115 rfl rfl rfl rfl (x_fitsNow (hV.2.2 0 (by decide)) cI_01) ?_
  refine am_vc_ok am_k115 [] 100 ?_
  refine And.intro (fun e => absurd (fs0.mpr h0) (cI_0.mp e)) (fun _ => ?_)
  refine am_vOT am_k115 am_h115 rfl rfl rfl rfl (x_search chS_lt hV.2.2 hV.2.1) ?_
  rintro r s2 τ2 t2 ⟨rfl, rfl, rfl, hE⟩
  refine am_vc_ok am_k115 [] 100 ?_
  refine am_vS am_k115 am_h115 rfl rfl rfl rfl (x_within) ?_
  refine am_vc_ok am_k115 [] 100 ?_
  refine And.intro (fun e => ?_) (fun e => ?_)
  · have e := bI_0.mp e
    refine am_vI am_k115 am_r115 rfl ⟨t2, rfl, rfl, rfl, rfl, rfl, s1, hV, hE, ?_⟩
    rw [if_neg (fun z => e ⟨hi, z⟩)]
  · have e := bI_1.mp e
    obtain ⟨-, rr, -, -, hno, hyes⟩ := id hE
    by_cases hr : rr (chS σ)
    · have p6 := pc_6 (chS σ) chS_lt
      have e2 := e
      rw [(hyes hr).1] at e2
      obtain ⟨j, hj, rfl⟩ := ix_lt (nI_toInt (by omega)) e2
      refine And.intro (vp_in_nI (N := 6) (by omega) (by decide)) ?_
      refine am_vI am_k115 am_r115 rfl ⟨t2, rfl, rfl, rfl, rfl, rfl, s1, hV, hE, ?_⟩
      rw [if_pos e.2]
    · rw [hno hr] at e
      exact absurd (Int32.lt_of_le_of_lt e.1 e.2) (by decide)
theorem x_putIn_bad {a : Int32} (ha : ¬ (0 ≤ a ∧ a < 6)) : am_D l 116 [aR 11 0, aI a] σ τ (rX t) cX lX (some (aI (-1))) σ τ (rX t) := by
  refine am_D_of am_o116 am_l116 rfl ?_
  refine am_vc_ok am_k116 [] 100 ?_
  refine am_vS am_k116 am_h116 rfl rfl rfl rfl (x_within) ?_
  refine am_vc_ok am_k116 [] 100 ?_
  refine And.intro (fun h => ?_) (fun h => ?_)
  · exact am_vI am_k116 am_r116 rfl ⟨rfl, rfl, rfl, rfl, rfl, rfl⟩
  · exact absurd (bI_1.mp h) ha
theorem fit_2 {a : Nat} (ha : a < 6) : fsS σ (bif mb (chS σ) a then 2 ^ a else 0) ↔ fitS σ (2 ^ a) := by
  have hm := chN_mb (V0 := σ 57 0) (V1 := σ 58 0) (n := 6) (by omega) a ha
  cases hc : mb (chS σ) a with
  | true =>
    show fsS σ (2 ^ a) ↔ _
    refine ⟨fun h => h.2, fun h => ⟨fun x hx hx2 => ?_, h⟩⟩
    rw [p2_mb a ha x hx] at hx2
    rw [Nat.eq_of_beq_eq_true hx2]
    exact hc
  | false =>
    show fsS σ 0 ↔ _
    have e : σ 57 0 a = σ 58 0 a := Decidable.not_not.mp (fun z => by
      have := hm.mpr z
      rw [hc] at this
      cases this)
    have z0 : ∀ x, x < 6 → mb 0 x = false := by decide +kernel
    have hv : ∀ x, x < 6 → vv (σ 57 0) (σ 58 0) (2 ^ a) x = vv (σ 57 0) (σ 58 0) 0 x := by
      intro x hx
      unfold vv
      rw [z0 x hx, p2_mb a ha x hx]
      cases hb : Nat.beq x a with
      | false => rfl
      | true => rw [Nat.eq_of_beq_eq_true hb]; exact e.symm
    rw [fs0]
    refine forall_congr' fun k => imp_congr_right fun hk => ?_
    rw [hv _ (by omega), hv _ (by omega)]
theorem x_putIn_no {a : Nat} (ha : a < 6) (hR : Rserv σ) (hSh : Rshapes σ) (h0 : ¬ fitS σ (2 ^ a)) : am_T l 116 [aR 11 0, aI (nI a)] σ τ t (fun r s2 τ2 t2 => r = some (aI (-4)) ∧ τ2 = τ ∧ t2 = t ∧ ∀ q, q ≠ 5 → q ≠ 27 → s2 q = σ q) := by
  have hl : (bif mb (chS σ) a then 2 ^ a else 0) < 64 := by
    cases mb (chS σ) a
    · show 0 < 64; decide
    · exact p2_lt a ha
  refine am_T_of am_o116 am_l116 rfl ?_
  refine am_vc_ok am_k116 [] 100 ?_
  refine am_vS am_k116 am_h116 rfl rfl rfl rfl (x_within) ?_
  refine am_vc_ok am_k116 [] 100 ?_
  refine And.intro (fun e => absurd (in6 ha) (bI_0.mp e)) (fun _ => ?_)
  refine am_vOT am_k116 am_h116 rfl rfl rfl rfl (x_survey hR hSh) ?_
  rintro r s1 τ2 t2 ⟨rfl, rfl, rfl, hV⟩
  refine am_vc_ok am_k116 [] 100 ?_
  refine am_vO am_k116 am_h116 rfl rfl rfl rfl (x_fitsWith ha chS_lt hV.2.1 (hV.2.2 _ hl) cI_01) ?_
  refine am_vc_ok am_k116 [] 100 ?_
  refine And.intro (fun _ => ?_) (fun e => absurd ((fit_2 ha).mp (cI_n0.mp e)) h0)
  exact am_vI am_k116 am_r116 rfl ⟨t2, rfl, rfl, rfl, rfl, rfl, rfl, hV.1⟩
theorem x_putIn {a : Nat} (ha : a < 6) (hR : Rserv σ) (hSh : Rshapes σ) (h0 : fitS σ (2 ^ a)) : am_T l 116 [aR 11 0, aI (nI a)] σ τ t (fun r s2 τ2 t2 => r = some (aI 1) ∧ τ2 = τ ∧ t2 = t ∧ ∃ s1, (∀ q, q ≠ 5 → q ≠ 27 → s1 q = σ q) ∧ s2 = u3 s1 8 a 0 (σ 8 a 1)) := by
  have hl : (bif mb (chS σ) a then 2 ^ a else 0) < 64 := by
    cases mb (chS σ) a
    · show 0 < 64; decide
    · exact p2_lt a ha
  refine am_T_of am_o116 am_l116 rfl ?_
  refine am_vc_ok am_k116 [] 100 ?_
  refine am_vS am_k116 am_h116 rfl rfl rfl rfl (x_within) ?_
  refine am_vc_ok am_k116 [] 100 ?_
  refine And.intro (fun e => absurd (in6 ha) (bI_0.mp e)) (fun _ => ?_)
  refine am_vOT am_k116 am_h116 rfl rfl rfl rfl (x_survey hR hSh) ?_
  rintro r s1 τ2 t2 ⟨rfl, rfl, rfl, hV⟩
  refine am_vc_ok am_k116 [] 100 ?_
  refine am_vO am_k116 am_h116 rfl rfl rfl rfl (x_fitsWith ha chS_lt hV.2.1 (hV.2.2 _ hl) cI_01) ?_
  refine am_vc_ok am_k116 [] 100 ?_
  refine And.intro (fun e => absurd ((fit_2 ha).mpr h0) (cI_0.mp e)) (fun _ => ?_)
  refine And.intro (vp_in_nI (N := 6) ha (by decide)) ?_
  refine And.intro (vp_in_nI (N := 6) ha (by decide)) ?_
  rw [nI_clamp (n := a) (by omega)]
  refine am_vI am_k116 am_r116 rfl ⟨t2, rfl, rfl, rfl, rfl, rfl, rfl, s1, hV.1, ?_⟩
  rw [hV.1 8 (by decide) (by decide)]
end L46
/-! CASES OF THE LAW: order, orderAt, putIn -/
section L47
variable {l : Launch} {σ σ2 : tI} {τ τ2 : tL} {t : Option (Nat × Nat)}
theorem LC_order (h : Rall σ τ) : LC l 114 205 [] σ τ t := by
  have hR := h.2.2.2.2.1
  have hSh := h.2.2.1
  by_cases h0 : fitS σ 0
  · refine am_T.mono (x_order hR hSh h0) ?_
    rintro r s3 τ2 t2 ⟨rfl, rfl, s1, s2, hV, hE, rfl, rfl⟩
    refine ⟨rfl, ?_⟩
    have hq := hV.se hE
    have hq3 : ∀ q, q ≠ 5 → q ≠ 27 → q ≠ 28 → q ≠ 29 → q ≠ 11 → u3 s2 11 0 11 (s2 5 0 3) q = σ q := fun q a1 a2 a3 a4 a5 => by rw [u3_kk _ _ a5]; exact hq q a1 a2 a3 a4
    obtain ⟨f1, f2, f3⟩ := fs_k (σ := σ) (f := u3 s2 11 0 11 (s2 5 0 3)) (fun q hq => hq3 q (by omega) (by omega) (by omega) (by omega) (by omega))
    refine am_T.mono (m_order (h.dr.k (hq3 49 (by decide) (by decide) (by decide) (by decide) (by decide)) (hq3 59 (by decide) (by decide) (by decide) (by decide) (by decide))) (by rw [f2]; exact h0)) ?_
    rintro r s4 τ2 t2 ⟨rfl, rfl, s5, hQ, rfl, rfl⟩
    obtain ⟨hQ1, hQ2, hQ3, hQ4⟩ := hQ
    rw [f1] at hQ3
    rw [f3] at hQ4
    obtain ⟨-, rr, hr1, hr2, hr3, hr4⟩ := hE
    have hu : ∀ s, s < 64 → (rr s ↔ s5 60 0 s = 1) := fun s hs => hr1.u hQ3 64 s hs hs
    have hb : bst rr 64 = bst (fun s => s5 60 0 s = 1) 64 := bst_cg hu
    have hz := hQ4.zero hQ3 chS_lt (fun s hf => hf.1)
    constructor
    · rw [f3]
      by_cases hr : rr (chS σ)
      · rw [if_pos (hz.mpr ((hu _ chS_lt).mp hr)), (hr4 hr).1]
      · rw [if_neg (fun z => hr ((hu _ chS_lt).mpr (hz.mp z))), hr3 hr]
    · rw [← hb, ← hr2]
      refine (h.ask (v := s2 5 0 3)).ord (fun q a1 a2 a3 a4 a5 a6 => u3_cg ((hQ1 q a5 a6).trans (u3_cg (hq q a1 a2 a3 a4))))
  · refine am_T.mono (x_order_no hR hSh h0) ?_
    rintro r s2 τ2 t2 ⟨rfl, rfl, rfl, hq⟩
    refine ⟨rfl, ?_⟩
    obtain ⟨f1, f2, f3⟩ := fs_k (σ := σ) (f := s2) (fun q hz => hq q (by omega) (by omega))
    exact (m_order_no (h.dr.k (hq 49 (by decide) (by decide)) (hq 59 (by decide) (by decide))) (by rw [f2]; exact h0)).T ⟨rfl, h.ord (fun q a1 a2 _ _ _ _ => hq q a1 a2)⟩
theorem LC_orderAt (h : Rall σ τ) (i : Int32) : LC l 115 206 [aI i] σ τ t := by
  have hR := h.2.2.2.2.1
  have hSh := h.2.2.1
  by_cases hi : i < 0
  · exact LC.of (x_oa_bad hi) (m_oa_bad hi) h
  have hi : 0 ≤ i := Int32.not_lt.mp hi
  by_cases h0 : fitS σ 0
  · refine am_T.mono (x_oa hi hR hSh h0) ?_
    rintro r s2 τ2 t2 ⟨rfl, rfl, s1, hV, hE, rfl⟩
    refine ⟨rfl, ?_⟩
    have hq := hV.se hE
    obtain ⟨f1, f2, f3⟩ := fs_k (σ := σ) (f := s2) (fun q hz => hq q (by omega) (by omega) (by omega) (by omega))
    refine am_T.mono (m_oa hi (h.dr.k (hq 49 (by decide) (by decide) (by decide) (by decide)) (hq 59 (by decide) (by decide) (by decide) (by decide))) (by rw [f2]; exact h0)) ?_
    rintro r s5 τ2 t2 ⟨rfl, rfl, hQ, rfl⟩
    obtain ⟨hQ1, hQ2, hQ3, hQ4⟩ := hQ
    rw [f1] at hQ3
    rw [f3] at hQ4
    obtain ⟨-, rr, hr1, hr2, hr3, hr4⟩ := hE
    have hu : ∀ s, s < 64 → (rr s ↔ s5 60 0 s = 1) := fun s hs => hr1.u hQ3 64 s hs hs
    have hz := hQ4.zero hQ3 chS_lt (fun s hf => hf.1)
    constructor
    · rw [f3]
      by_cases hr : rr (chS σ)
      · have hl0 : s5 61 0 0 = 1 := hz.mpr ((hu _ chS_lt).mp hr)
        obtain ⟨b1, b2⟩ := hr4 hr
        rw [b1]
        by_cases hj : i < nI (pc (chS σ))
        · have p6 := pc_6 (chS σ) chS_lt
          rw [if_pos hj, if_pos ⟨hl0, hj⟩]
          obtain ⟨j, hj2, rfl⟩ := ix_lt (nI_toInt (by omega)) ⟨hi, hj⟩
          rw [nI_clamp (by omega), b2 j hj2, gs_nx hQ3 hQ4 chS_lt hl0 hj2]
        · rw [if_neg hj, if_neg (fun z => hj z.2)]
      · have hl0 : ¬ s5 61 0 0 = 1 := fun z => hr ((hu _ chS_lt).mpr (hz.mp z))
        rw [if_neg (fun z => hl0 z.1), hr3 hr, if_neg (fun z => absurd (Int32.lt_of_le_of_lt hi z) (by decide))]
    · exact h.ord (fun q a1 a2 a3 a4 a5 a6 => (hQ1 q a5 a6).trans (hq q a1 a2 a3 a4))
  · refine am_T.mono (x_oa_no hi hR hSh h0) ?_
    rintro r s2 τ2 t2 ⟨rfl, rfl, rfl, hq⟩
    refine ⟨rfl, ?_⟩
    obtain ⟨f1, f2, f3⟩ := fs_k (σ := σ) (f := s2) (fun q hz => hq q (by omega) (by omega))
    exact (m_oa_no hi (h.dr.k (hq 49 (by decide) (by decide)) (hq 59 (by decide) (by decide))) (by rw [f2]; exact h0)).T ⟨rfl, h.ord (fun q a1 a2 _ _ _ _ => hq q a1 a2)⟩
theorem LC_putIn (h : Rall σ τ) (a : Int32) : LC l 116 207 [aI a] σ τ t := by
  have hR := h.2.2.2.2.1
  have hSh := h.2.2.1
  by_cases ha : 0 ≤ a ∧ a < 6
  · obtain ⟨a, ha1, rfl⟩ := ix_lt (n := 6) (by decide) ha
    by_cases h0 : fitS σ (2 ^ a)
    · refine am_T.mono (x_putIn ha1 hR hSh h0) ?_
      rintro r s2 τ2 t2 ⟨rfl, rfl, rfl, s1, hq, rfl⟩
      refine ⟨rfl, ?_⟩
      have hq3 : ∀ q, q ≠ 5 → q ≠ 27 → q ≠ 8 → u3 s1 8 a 0 (σ 8 a 1) q = σ q := fun q a1 a2 a5 => by rw [u3_kk _ _ a5]; exact hq q a1 a2
      obtain ⟨f1, f2, f3⟩ := fs_k (σ := σ) (f := u3 s1 8 a 0 (σ 8 a 1)) (fun q hz => hq3 q (by omega) (by omega) (by omega))
      refine (m_putIn ha1 (h.dr.k (hq3 49 (by decide) (by decide) (by decide)) (hq3 59 (by decide) (by decide) (by decide))) (by rw [f2]; exact h0)).T ⟨rfl, ?_⟩
      rw [hq3 58 (by decide) (by decide) (by decide)]
      have h2 : Rall (u3 (u3 σ 8 a 0 (σ 8 a 1)) 57 0 a (σ 58 0 a)) τ2 := by
        refine h.vers (fun k a1 a2 a3 => ?_) (fun b j hj => ?_) (fun b hb => ?_)
        · rw [u3_kk _ _ a2, u3_kk _ _ a1]
        · simp [u3, show j ≠ 0 by omega]
        · obtain ⟨g1, g2⟩ := hR b hb
          refine ⟨?_, fun c hc => by simpa [u3] using g2 c hc⟩
          obtain ⟨x, y, x1, y1, q1, q2, q3, q4⟩ := g1
          by_cases e : b = a
          · subst e
            exact ⟨y, y, y1, y1, by simpa [u3] using q3, by simpa [u3] using q4, by simpa [u3] using q3, by simpa [u3] using q4⟩
          · exact ⟨x, y, x1, y1, by simpa [u3, e] using q1, by simpa [u3, e] using q2, by simpa [u3, e] using q3, by simpa [u3, e] using q4⟩
      exact h2.ord (fun q a1 a2 a3 a4 a5 a6 => u3_cg (u3_cg (hq q a1 a2)))
    · refine am_T.mono (x_putIn_no ha1 hR hSh h0) ?_
      rintro r s2 τ2 t2 ⟨rfl, rfl, rfl, hq⟩
      refine ⟨rfl, ?_⟩
      obtain ⟨f1, f2, f3⟩ := fs_k (σ := σ) (f := s2) (fun q hz => hq q (by omega) (by omega))
      exact (m_putIn_no ha1 (h.dr.k (hq 49 (by decide) (by decide)) (hq 59 (by decide) (by decide))) (by rw [f2]; exact h0)).T ⟨rfl, h.ord (fun q a1 a2 _ _ _ _ => hq q a1 a2)⟩
  · exact LC.of (x_putIn_bad ha) (m_putIn_bad (not6 ha)) h
end L47
