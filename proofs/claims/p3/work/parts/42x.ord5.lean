/-! the order that is taken; the model's order, orderAt, putIn -/
section L41
variable {l : Launch} {σ σ2 : tI} {τ τ2 : tL} {t : Option (Nat × Nat)}
noncomputable def nxtN (p : Nat → Prop) : Nat → Nat → Nat
  | 0, a => a
  | d + 1, a => @ite Nat (p a) (Classical.propDecidable (p a)) a (nxtN p d (a + 1))
noncomputable abbrev nxt (P : Nat → Nat → Prop) (s : Nat) : Nat := nxtN (P s) 6 0
noncomputable def gset (P : Nat → Nat → Prop) : Nat → Nat
  | 0 => 0
  | k + 1 => ad (gset P k) (nxt P (gset P k))
theorem nxtN_y {p : Nat → Prop} {d a : Nat} (h : p a) : nxtN p (d + 1) a = a := by unfold nxtN; rw [if_pos h]
theorem nxtN_n {p : Nat → Prop} {d a : Nat} (h : ¬ p a) : nxtN p (d + 1) a = nxtN p d (a + 1) := by rw [nxtN, if_neg h]
theorem nxtN_ok {p : Nat → Prop} : ∀ (d a : Nat), (∃ x, a ≤ x ∧ x < a + d ∧ p x) → p (nxtN p d a) ∧ nxtN p d a < a + d
  | 0, a, ⟨x, h1, h2, _⟩ => absurd h2 (by omega)
  | d + 1, a, ⟨x, h1, h2, h3⟩ => by
    by_cases h : p a
    · rw [nxtN_y h]; exact ⟨h, by omega⟩
    · rw [nxtN_n h]
      have z := nxtN_ok d (a + 1) ⟨x, by
        by_cases e : x = a
        · rw [e] at h3; exact absurd h3 h
        · omega, by omega, h3⟩
      exact ⟨z.1, by omega⟩
theorem nxtN_cg {p q : Nat → Prop} : ∀ (d a : Nat), (∀ x, a ≤ x → x < a + d → (p x ↔ q x)) → nxtN p d a = nxtN q d a
  | 0, _, _ => rfl
  | d + 1, a, h => by
    by_cases e : p a
    · rw [nxtN_y e, nxtN_y ((h a (by omega) (by omega)).mp e)]
    · rw [nxtN_n e, nxtN_n (fun z => e ((h a (by omega) (by omega)).mpr z))]
      exact nxtN_cg d (a + 1) (fun x h1 h2 => h x (by omega) (by omega))
theorem pc_mono : ∀ s, s < 64 → ∀ c, c < 64 → (∀ x, x < 6 → mb s x = true → mb c x = true) → pc s ≤ pc c := by decide +kernel
/-- by what leads on; by what fits -/
abbrev pM (ld : Nat → Prop) (c : Nat) : Nat → Nat → Prop := fun s a => mb s a = false ∧ mb c a = true ∧ ld (ad s a)
abbrev pX (F : Nat → Prop) : Nat → Nat → Prop := fun s a => mb s a = false ∧ F (ad s a)
section P
variable {W : Nat → Int32 → Int32 → Prop} {V0 V1 : Nat → Int32} {r ld : Nat → Prop} {c : Nat}
theorem gs_ex {s : Nat} (hL : LDr r ld c) (hs : s < 64) (hl : ld s) (hn : pc s < pc c) : ∃ a, 0 ≤ a ∧ a < 0 + 6 ∧ pM ld c s a := by
  obtain ⟨-, h2 | ⟨a, ha, h3, h4, h5⟩⟩ := (hL s hs).mp hl
  · rw [h2] at hn
    exact absurd hn (Nat.lt_irrefl _)
  · exact ⟨a, by omega, by omega, h3, h4, h5⟩
theorem gs_inv (hL : LDr r ld c) (h0 : ld 0) : ∀ k, k ≤ pc c → gset (pM ld c) k < 64 ∧ ld (gset (pM ld c) k) ∧ pc (gset (pM ld c) k) = k
  | 0, _ => ⟨by show 0 < 64; decide, h0, by show pc 0 = 0; decide⟩
  | k + 1, h => by
    obtain ⟨h1, h2, h3⟩ := gs_inv hL h0 k (by omega)
    have hx := gs_ex hL h1 h2 (by omega)
    obtain ⟨⟨g1, g2, g3⟩, g4⟩ := nxtN_ok 6 0 hx
    exact ⟨ad_lt _ h1 _ (by omega), g3, by show pc (ad _ _) = _; rw [pc_ad _ h1 _ (by omega) g1, h3]⟩
theorem gs_end (h : CMr (FS W V0 V1 c) r) (hL : LDr r ld c) (hc : c < 64) (h0 : ld 0) : gset (pM ld c) (pc c) = c := by
  obtain ⟨h1, h2, h3⟩ := gs_inv hL h0 (pc c) (Nat.le_refl _)
  obtain ⟨-, h4 | ⟨a, ha, g1, g2, g3⟩⟩ := (hL _ h1).mp h2
  · exact h4
  · have hr := ((hL _ (ad_lt _ h1 a ha)).mp g3).1
    have hs := ((h _ (ad_lt _ h1 a ha)).mp hr).1.1
    have hp := pc_mono _ (ad_lt _ h1 a ha) c hc hs
    rw [pc_ad _ h1 a ha g1] at hp
    omega
theorem gs_eq (h : CMr (FS W V0 V1 c) r) (hL : LDr r ld c) (hc : c < 64) (h0 : ld 0) : ∀ k, k ≤ pc c → gset (pX (FS W V0 V1 c)) k = gset (pM ld c) k
  | 0, _ => rfl
  | k + 1, hk => by
    have ih := gs_eq h hL hc h0 k (by omega)
    obtain ⟨h1, h2, h3⟩ := gs_inv hL h0 k (by omega)
    show ad _ _ = ad _ _
    rw [ih]
    congr 1
    refine nxtN_cg 6 0 (fun x _ hx => ?_)
    exact and_congr_right fun hm => hL.fit h hc h1 (by omega) hm h2
theorem gs_nx (h : CMr (FS W V0 V1 c) r) (hL : LDr r ld c) (hc : c < 64) (h0 : ld 0) {k : Nat} (hk : k < pc c) : nxt (pX (FS W V0 V1 c)) (gset (pX (FS W V0 V1 c)) k) = nxt (pM ld c) (gset (pM ld c) k) := by
  obtain ⟨h1, h2, h3⟩ := gs_inv hL h0 k (by omega)
  rw [gs_eq h hL hc h0 k (by omega)]
  refine nxtN_cg 6 0 (fun x _ hx => ?_)
  exact and_congr_right fun hm => hL.fit h hc h1 (by omega) hm h2
end P
noncomputable def bst (r : Nat → Prop) : Nat → Nat
  | 0 => 0
  | k + 1 => @ite Nat (r k ∧ pc (bst r k) < pc k) (Classical.propDecidable _) k (bst r k)
theorem bst_lt {r : Nat → Prop} : ∀ {k : Nat}, k ≤ 64 → bst r k < 64
  | 0, _ => by show 0 < 64; decide
  | k + 1, h => by
    unfold bst
    split
    · omega
    · exact bst_lt (by omega)
theorem bst_1 {r : Nat → Prop} : bst r 1 = 0 := by
  unfold bst
  split
  · rfl
  · rfl
theorem bst_cg {r r2 : Nat → Prop} : ∀ {k : Nat}, (∀ s, s < k → (r s ↔ r2 s)) → bst r k = bst r2 k
  | 0, _ => rfl
  | k + 1, h => by
    unfold bst
    rw [bst_cg (r := r) (r2 := r2) (k := k) (fun s hs => h s (by omega)), propext (h k (by omega))]
theorem m_or_lp {Q : tQ} (h01 : ∀ s, s < 64 → σ 60 0 s = 0 ∨ σ 60 0 s = 1) (K : am_G l 205 Q 0 0 57 [(2, aI (nI 64)), (1, aI (nI (bst (fun s => σ 60 0 s = 1) 64))), (0, aR 12 0)] [] σ τ (rX t) cX lX) : ∀ (d k : Nat) (v : Int32), k + d = 64 → v = nI (bst (fun s => σ 60 0 s = 1) k) → am_G l 205 Q 0 0 19 [(2, aI (nI k)), (1, aI v), (0, aR 12 0)] [] σ τ (rX t) cX lX
  | 0, k, v, h, hv => by
    obtain rfl : k = 64 := by omega
    rw [hv]
    refine am_vc_ok am_k205 [19, 57] 100 ?_
    exact And.intro (fun _ => K) (fun h1 => absurd (show (64 : Int32) ≤ nI 64 by decide) h1)
  | d + 1, k, v, h, hv => by
    have hk : k < 64 := by omega
    have hb : bst (fun s => σ 60 0 s = 1) k < 64 := bst_lt (by omega)
    have p1 := pc_6 k hk
    have p2 := pc_6 _ hb
    have fin : ∀ v : Int32, v = nI (bst (fun s => σ 60 0 s = 1) (k + 1)) → am_G l 205 Q 0 0 19 [(2, aI (nI k + 1)), (1, aI v), (0, aR 12 0)] [] σ τ (rX t) cX lX := by
      intro v hv
      rw [show nI k + 1 = nI (k + 1) from nI_1 k]
      exact m_or_lp h01 K d (k + 1) v (by omega) hv
    rw [hv]
    refine am_vc_ok am_k205 [19, 57] 100 ?_
    refine And.intro (fun h1 => absurd h1 (nI_ge (b := 64) (by omega) (by decide))) (fun _ => ?_)
    refine And.intro (vp_in_nI (N := 64) hk (by decide)) ?_
    rw [nI_clamp (n := k) (by omega)]
    refine And.intro (fun e => ?_) (fun e => ?_)
    · have e : σ 60 0 k = 0 := e
      exact am_Gp [0, 1, 2] rfl (fin _ (by rw [bst, if_neg (fun z => absurd (e.symm.trans z.1) (by decide))]))
    · have e : ¬ σ 60 0 k = 0 := e
      refine am_vS am_k205 am_h205 rfl rfl rfl rfl (m_bits hk) ?_
      refine am_vc_ok am_k205 [19, 57] 100 ?_
      refine am_vS am_k205 am_h205 rfl rfl rfl rfl (m_bits hb) ?_
      refine am_vc_ok am_k205 [19, 57] 100 ?_
      refine And.intro (fun g => ?_) (fun g => ?_)
      · have g : ¬ pc (bst (fun s => σ 60 0 s = 1) k) < pc k := fun z => absurd g (Int32.not_le.mpr (nI_lt z (by omega)))
        exact am_Gp [0, 1, 2] rfl (fin _ (by rw [bst, if_neg (fun z => g z.2)]))
      · have g : pc (bst (fun s => σ 60 0 s = 1) k) < pc k := (nI_ltI (by omega) (by omega)).mp (Int32.not_le.mp g)
        exact am_Gp [0, 1, 2] rfl (fin _ (by rw [bst, if_pos ⟨(h01 k hk).resolve_left e, g⟩]))
theorem soQ.ch {s2 : tI} (h : soQ σ s2) : chS s2 = chS σ := by
  unfold chS
  rw [h.1 57 (by decide) (by decide), h.1 58 (by decide) (by decide)]
theorem m_order_no (hD : DrOK σ) (h0 : ¬ fitS σ 0) : am_D l 205 [aR 12 0] σ τ (rX t) cX lX (some (aI (-4))) σ τ (rX t) := by
  refine am_D_of am_o205 am_l205 rfl ?_
  refine am_vc_ok am_k205 [] 100 ?_
  refine am_vO am_k205 am_h205 rfl rfl rfl rfl (m_allFit (s := 0) (by decide) hD) ?_
  refine am_vc_ok am_k205 [] 100 ?_
  refine And.intro (fun _ => ?_) (fun e => absurd (cI_n0.mp e) h0)
  exact am_vI am_k205 am_r205 rfl ⟨rfl, rfl, rfl, rfl, rfl, rfl⟩
theorem m_order (hD : DrOK σ) (h0 : fitS σ 0) : am_T l 205 [aR 12 0] σ τ t (fun r s3 τ2 t2 => τ2 = τ ∧ t2 = t ∧ ∃ s2, soQ σ s2 ∧ s3 = u3 s2 12 0 2 (nI (bst (fun s => s2 60 0 s = 1) 64)) ∧ r = some (aI (if s2 61 0 0 = 1 then nI (pc (chS σ)) else -9))) := by
  refine am_T_of am_o205 am_l205 rfl ?_
  refine am_vc_ok am_k205 [19] 100 ?_
  refine am_vO am_k205 am_h205 rfl rfl rfl rfl (m_allFit (s := 0) (by decide) hD) ?_
  refine am_vc_ok am_k205 [19] 100 ?_
  refine And.intro (fun e => absurd h0 (cI_0.mp e)) (fun _ => ?_)
  refine am_vOT am_k205 am_h205 rfl rfl rfl rfl (m_setOrders hD) ?_
  rintro r s2 τ2 t2 ⟨rfl, rfl, rfl, hQ⟩
  refine am_vc_ok am_k205 [19] 100 ?_
  refine am_Gp (ls2 := [(2, aI (nI 1)), (1, aI (nI 0)), (0, aR 12 0)]) [0, 1, 2] rfl ?_
  refine m_or_lp (fun s hs => (hQ.2.1 s hs).1) ?_ 63 1 _ (by omega) (by rw [bst_1])
  refine am_vc_ok am_k205 [] 100 ?_
  refine And.intro (vp_in_nI (N := 64) (show 0 < 64 by decide) (by decide)) ?_
  refine And.intro (fun e => ?_) (fun e => ?_)
  · have e : s2 61 0 0 = 0 := e
    refine am_vO am_k205 am_h205 rfl rfl rfl rfl (m_ask) ?_
    refine am_vc_ok am_k205 [] 100 ?_
    refine am_vI am_k205 am_r205 rfl ⟨t2, rfl, rfl, rfl, rfl, rfl, s2, hQ, rfl, ?_⟩
    rw [if_neg (by rw [e]; decide)]
  · have e : ¬ s2 61 0 0 = 0 := e
    have hch := m_changed (l := l) (σ := s2) (τ := τ2) (t := t2)
    rw [hQ.ch] at hch
    refine am_vO am_k205 am_h205 rfl rfl rfl rfl (hch) ?_
    refine am_vc_ok am_k205 [] 100 ?_
    refine am_vS am_k205 am_h205 rfl rfl rfl rfl (m_bits chS_lt) ?_
    refine am_vc_ok am_k205 [] 100 ?_
    refine am_vO am_k205 am_h205 rfl rfl rfl rfl (m_ask) ?_
    refine am_vc_ok am_k205 [] 100 ?_
    refine am_vI am_k205 am_r205 rfl ⟨t2, rfl, rfl, rfl, rfl, rfl, s2, hQ, rfl, ?_⟩
    rw [if_pos (((hQ.2.1 0 (by decide)).2).resolve_left e)]
theorem m_oa_in {Q : tQ} {s c k : Nat} {j : Int32} (hs : s < 64) (hc : chS σ = c) (h01 : ∀ s, s < 64 → σ 61 0 s = 0 ∨ σ 61 0 s = 1) (K : am_G l 206 Q 0 0 98 [(3, aI (nI (nxt (pM (fun s => σ 61 0 s = 1) c) s))), (2, aI (nI s)), (4, aI (nI k)), (1, aI j), (0, aR 12 0)] [] σ τ (rX t) cX lX) : ∀ (d a : Nat), a + d = 6 → (∃ x, a ≤ x ∧ x < a + d ∧ pM (fun s => σ 61 0 s = 1) c s x) → nxtN (pM (fun s => σ 61 0 s = 1) c s) d a = nxt (pM (fun s => σ 61 0 s = 1) c) s → am_G l 206 Q 0 0 60 [(3, aI (nI a)), (2, aI (nI s)), (4, aI (nI k)), (1, aI j), (0, aR 12 0)] [] σ τ (rX t) cX lX
  | 0, a, h, ⟨x, h1, h2, _⟩, _ => absurd h2 (by omega)
  | d + 1, a, h, hx, he => by
    have ha : a < 6 := by omega
    have hc64 : c < 64 := by rw [← hc]; exact chS_lt
    have no : ¬ pM (fun s => σ 61 0 s = 1) c s a → am_G l 206 Q 0 0 60 [(3, aI (nI a + 1)), (2, aI (nI s)), (4, aI (nI k)), (1, aI j), (0, aR 12 0)] [] σ τ (rX t) cX lX := by
      intro hn
      rw [show nI a + 1 = nI (a + 1) from nI_1 a]
      obtain ⟨x, h1, h2, h3⟩ := hx
      exact m_oa_in hs hc h01 K d (a + 1) (by omega) ⟨x, by
        by_cases e : x = a
        · rw [e] at h3; exact absurd h3 hn
        · omega, by omega, h3⟩ (by rw [← he, nxtN_n hn])
    refine am_vc_ok am_k206 [60, 98] 100 ?_
    refine am_vS am_k206 am_h206 rfl rfl rfl rfl (m_has) ?_
    refine am_vc_ok am_k206 [60, 98] 100 ?_
    refine And.intro (fun g => ?_) (fun g => ?_)
    · have g : mb s a = false := Bool.eq_false_iff.mpr (fun z => bI_0.mp g ((has_mb s hs a ha).mpr z))
      have hch := m_changed (l := l) (σ := σ) (τ := τ) (t := t)
      rw [hc] at hch
      refine am_vO am_k206 am_h206 rfl rfl rfl rfl (hch) ?_
      refine am_vc_ok am_k206 [60, 98] 100 ?_
      refine am_vS am_k206 am_h206 rfl rfl rfl rfl (m_has) ?_
      refine am_vc_ok am_k206 [60, 98] 100 ?_
      refine And.intro (fun g2 => ?_) (fun g2 => ?_)
      · have g2 := bI_0.mp g2
        exact no (fun z => g2 ((has_mb c hc64 a ha).mpr z.2.1))
      · have g2 := (has_mb c hc64 a ha).mp (bI_1.mp g2)
        refine And.intro (by rw [or_ad s hs a ha]; exact vp_in_nI (N := 64) (ad_lt s hs a ha) (by decide)) ?_
        rw [or_ad s hs a ha, nI_clamp (n := ad s a) (by have := ad_lt s hs a ha; omega)]
        refine And.intro (fun y => ?_) (fun y => ?_)
        · have y : σ 61 0 (ad s a) = 0 := y
          exact no (fun z => absurd (y.symm.trans z.2.2) (by decide))
        · have y : ¬ σ 61 0 (ad s a) = 0 := y
          have hp : pM (fun s => σ 61 0 s = 1) c s a := ⟨g, g2, (h01 _ (ad_lt s hs a ha)).resolve_left y⟩
          rw [← he, nxtN_y hp] at K
          exact K
    · have g := (has_mb s hs a ha).mp (bI_1.mp g)
      exact no (fun z => absurd (g.symm.trans z.1) (by decide))
theorem m_oa_lp {Q : tQ} {c j : Nat} (hj : j < 6) (hc : chS σ = c) (h01 : ∀ s, s < 64 → σ 61 0 s = 0 ∨ σ 61 0 s = 1) (hG : ∀ k, k ≤ j → gset (pM (fun s => σ 61 0 s = 1) c) k < 64 ∧ ∃ a, 0 ≤ a ∧ a < 0 + 6 ∧ pM (fun s => σ 61 0 s = 1) c (gset (pM (fun s => σ 61 0 s = 1) c) k) a) (hQ : Q (some (aI (nI (nxt (pM (fun s => σ 61 0 s = 1) c) (gset (pM (fun s => σ 61 0 s = 1) c) j))))) σ τ (rX t) cX lX) : ∀ (d k : Nat) (v : Int32), k + d = j + 1 → (∀ k', k = k' + 1 → v = nI (nxt (pM (fun s => σ 61 0 s = 1) c) (gset (pM (fun s => σ 61 0 s = 1) c) k'))) → am_G l 206 Q 0 0 52 [(4, aI (nI k)), (3, aI v), (2, aI (nI (gset (pM (fun s => σ 61 0 s = 1) c) k))), (1, aI (nI j)), (0, aR 12 0)] [] σ τ (rX t) cX lX
  | 0, k, v, h, hv => by
    obtain rfl : k = j + 1 := by omega
    rw [hv j rfl]
    refine am_vc_ok am_k206 [52] 100 ?_
    refine And.intro (fun _ => ?_) (fun h1 => absurd (nI_lt (by omega) (by omega)) h1)
    exact am_vI am_k206 am_r206 rfl hQ
  | d + 1, k, v, h, hv => by
    obtain ⟨g1, g2⟩ := hG k (by omega)
    have K2 := m_oa_lp hj hc h01 hG hQ d (k + 1) (nI (nxt (pM (fun s => σ 61 0 s = 1) c) (gset (pM (fun s => σ 61 0 s = 1) c) k))) (by omega) (fun k' e => by rw [show k' = k by omega])
    refine am_vc_ok am_k206 [52, 60] 100 ?_
    refine And.intro (fun h1 => absurd h1 (Int32.not_lt.mpr (nI_le (b := j) (by omega) (by omega)))) (fun _ => ?_)
    refine am_Gp (ls2 := [(3, aI (nI 0)), (2, aI (nI (gset (pM (fun s => σ 61 0 s = 1) c) k))), (4, aI (nI k)), (1, aI (nI j)), (0, aR 12 0)]) [0, 2, 1, 3, 4] rfl ?_
    have hn := (nxtN_ok 6 0 g2).2
    rw [Nat.zero_add] at hn
    refine m_oa_in g1 hc h01 ?_ 6 0 (by omega) g2 rfl
    rw [show gset (pM (fun s => σ 61 0 s = 1) c) (k + 1) = ad (gset (pM (fun s => σ 61 0 s = 1) c) k) (nxt (pM (fun s => σ 61 0 s = 1) c) (gset (pM (fun s => σ 61 0 s = 1) c) k)) from rfl, ← or_ad _ g1 _ hn, ← nI_1 k] at K2
    refine am_vc_ok am_k206 [52] 100 ?_
    exact am_Gp [0, 2, 1, 3, 4] rfl K2
end L41
