/-! CONTRACTS over the shape rX, cX, lX; numbers and places -/
abbrev bI (p : Prop) [Decidable p] : Int32 := if p then 1 else 0
theorem bI_0 {p : Prop} [Decidable p] : bI p = 0 ↔ ¬ p := by
  unfold bI
  split
  · rename_i h
    exact ⟨fun e => absurd e (by decide), fun e => absurd h e⟩
  · rename_i h
    exact ⟨fun _ => h, fun _ => rfl⟩
theorem bI_1 {p : Prop} [Decidable p] : ¬ bI p = 0 ↔ p := by rw [bI_0]; exact Decidable.not_not
theorem bI_01 {p : Prop} [Decidable p] : bI p = 0 ∨ bI p = 1 := by
  unfold bI
  split
  · exact Or.inr rfl
  · exact Or.inl rfl
theorem bI_t {p : Prop} [Decidable p] (h : p) : bI p = 1 := if_pos h
theorem bI_f {p : Prop} [Decidable p] (h : ¬ p) : bI p = 0 := if_neg h
theorem i_le {a b : Int32} : a ≤ b ↔ a.toInt ≤ b.toInt := Int32.le_iff_toInt_le
theorem i_lt {a b : Int32} : a < b ↔ a.toInt < b.toInt := Int32.lt_iff_toInt_lt
theorem ix_lt {k N : Int32} {n : Nat} (hN : N.toInt = n) (h : 0 ≤ k ∧ k < N) : ∃ j : Nat, j < n ∧ k = nI j := by
  have h1 := i_le.mp h.1
  have h2 := i_lt.mp h.2
  rw [Int32.toInt_zero] at h1
  refine ⟨k.toInt.toNat, by omega, ?_⟩
  apply Int32.toInt_inj.mp
  have hb := Int32.toInt_lt k
  rw [nI_toInt (by omega)]
  omega
theorem ix_le {k N : Int32} {n : Nat} (hN : N.toInt + 1 = n) (h : 0 ≤ k ∧ k ≤ N) : ∃ j : Nat, j < n ∧ k = nI j := by
  have h1 := i_le.mp h.1
  have h2 := i_le.mp h.2
  rw [Int32.toInt_zero] at h1
  refine ⟨k.toInt.toNat, by omega, ?_⟩
  apply Int32.toInt_inj.mp
  have hb := Int32.toInt_lt k
  rw [nI_toInt (by omega)]
  omega
abbrev xP : Type := Option am_V → tI → tL → Option (Nat × Nat) → Prop
def xQ (P : xP) : tQ := fun v s τ p c n => ∃ t, p = rX t ∧ c = cX ∧ n = lX ∧ P v s τ t
/-- a contract over the shape -/
noncomputable def am_T (l : Launch) (z : Nat) (vs : List am_V) (σ : tI) (τ : tL) (t : Option (Nat × Nat)) (P : xP) : Prop := am_okm z = true ∧ am_E l z vs σ τ (rX t) cX lX (xQ P)
section XT
variable {l : Launch} {y : Nat} {Q : tQ} {f : Nat → Option am_en} {pc : Nat} {ls : am_ls} {st : List am_V} {σ : tI} {τ : tL} {t : Option (Nat × Nat)}
theorem am_T_of {P : xP} {vs : List am_V} {m : Nat} (ho : am_okm y = true) (hm : am_ml y = m) (hc : Nat.ble (am_cats vs) m = true) (hG : am_G l y (xQ P) 0 0 0 (am_args 0 vs) [] σ τ (rX t) cX lX) : am_T l y vs σ τ t P :=
  ⟨ho, am_E_of (am_okm_inv ho).2.2.2.1 (by rw [hm]; exact Nat.le_of_ble_eq_true hc) hG⟩
theorem am_vST (hf : ∀ {pc : Nat} {e : am_en}, f pc = some e → am_ck y pc e = true) (hh : ∀ {pc : Nat} {e : am_en}, f pc = some e → am_ckc y e = true) {x n z b c d : Nat} {v : am_V} {sl : List (Int32 × Nat)} {vs rest : List am_V} {P : xP} (e : f pc = some (.invokestatic x, 3, n, z, b, c, d, v, sl)) (hz : Nat.beq z 1001 = false) (hs : am_spl b st [] = some (vs, rest)) (hW : Nat.ble (am_cats rest) 8 = true) (hD : am_T l z vs σ τ t P)
    (K : ∀ r σ2 τ2 t2, P r σ2 τ2 t2 → am_G l y Q 0 0 n ls (am_push r rest) σ2 τ2 (rX t2) cX lX) : am_G l y Q 0 0 pc ls st σ τ (rX t) cX lX := by
  obtain ⟨h1, h2, -⟩ := am_ck_inv (hf e)
  have h3 : (am_lnk y x z b c d && Nat.beq (am_fl z) 1) = true := by
    have h := hh e
    unfold am_ckc at h
    simp only [hz] at h
    exact h
  rw [Bool.and_eq_true] at h3
  have hfl := am_beq h3.2
  have h0 := am_rm0 hD.1 (by rw [hfl]; decide)
  subst h2
  refine am_callS h1 hD.1 hfl h3.1 hs (Nat.le_of_ble_eq_true hW) (by rw [h0.1, h0.2]; exact ⟨Nat.zero_le _, Nat.zero_le _⟩) hD.2 ?_
  rintro v2 s2 t2 p2 c2 n2 ⟨t3, rfl, rfl, rfl, hP⟩
  rw [h0.1, h0.2]
  exact K _ _ _ _ hP
theorem am_vOT (hf : ∀ {pc : Nat} {e : am_en}, f pc = some e → am_ck y pc e = true) (hh : ∀ {pc : Nat} {e : am_en}, f pc = some e → am_ckc y e = true) {x n z b c d k o : Nat} {v : am_V} {sl : List (Int32 × Nat)} {vs rest : List am_V} {P : xP} (e : f pc = some (.invokevirtual x, 3, n, z, b, c, d, v, sl)) (hs : am_spl (b + 1) st [] = some (.inr (.inr (some (k, o))) :: vs, rest)) (hr : Nat.beq k (am_cx z) = true) (hW : Nat.ble (am_cats rest) 8 = true) (hD : am_T l z (.inr (.inr (some (k, o))) :: vs) σ τ t P)
    (K : ∀ r σ2 τ2 t2, P r σ2 τ2 t2 → am_G l y Q 0 0 n ls (am_push r rest) σ2 τ2 (rX t2) cX lX) : am_G l y Q 0 0 pc ls st σ τ (rX t) cX lX := by
  obtain ⟨h1, h2, -⟩ := am_ck_inv (hf e)
  have h3 : (am_lnk y x z b c d && Nat.beq (am_fl z) 0) = true := hh e
  rw [Bool.and_eq_true] at h3
  have hfl := am_beq h3.2
  have h0 := am_rm0 hD.1 (by rw [hfl]; decide)
  subst h2
  refine am_callV h1 hD.1 hfl h3.1 hs (Nat.le_of_ble_eq_true hW) hr (by rw [h0.1, h0.2]; exact ⟨Nat.zero_le _, Nat.zero_le _⟩) hD.2 ?_
  rintro v2 s2 t2 p2 c2 n2 ⟨t3, rfl, rfl, rfl, hP⟩
  rw [h0.1, h0.2]
  exact K _ _ _ _ hP
theorem am_E.mono {z : Nat} {vs : List am_V} {ρ : tR} {cn : tN} {ln : tM} {Q2 : tQ} (h : am_E l z vs σ τ ρ cn ln Q) (hQ : ∀ v s t p c n, Q v s t p c n → Q2 v s t p c n) : am_E l z vs σ τ ρ cn ln Q2 := by
  intro D ca ad L sz p e ha hc hk s m args below hf hap hP hK
  obtain ⟨n, o, h1, h2, h3, ⟨⟨v, ad', L', σ', τ', ρ', cn', ln', hoc, hq, hrest⟩, hF⟩, hfr⟩ := h D ca ad L sz p e ha hc hk s m args below hf hap hP hK
  exact ⟨n, o, h1, h2, h3, ⟨⟨v, ad', L', σ', τ', ρ', cn', ln', hoc, hQ _ _ _ _ _ _ hq, hrest⟩, hF⟩, hfr⟩
theorem am_D.T {z : Nat} {vs : List am_V} {r : Option am_V} {σ2 : tI} {τ2 : tL} {t2 : Option (Nat × Nat)} {P : xP} (h : am_D l z vs σ τ (rX t) cX lX r σ2 τ2 (rX t2)) (hP : P r σ2 τ2 t2) : am_T l z vs σ τ t P := by
  refine ⟨h.1, h.2.mono ?_⟩
  rintro v s t' p c n ⟨rfl, rfl, rfl, rfl, rfl, rfl⟩
  exact ⟨t2, rfl, rfl, rfl, hP⟩
theorem am_T.mono {z : Nat} {vs : List am_V} {P P2 : xP} (h : am_T l z vs σ τ t P) (hP : ∀ r σ2 τ2 t2, P r σ2 τ2 t2 → P2 r σ2 τ2 t2) : am_T l z vs σ τ t P2 := by
  refine ⟨h.1, h.2.mono ?_⟩
  rintro v s t' p c n ⟨t3, rfl, rfl, rfl, h4⟩
  exact ⟨t3, rfl, rfl, rfl, hP _ _ _ _ h4⟩
end XT
theorem am_Gs {l : Launch} {y : Nat} {Q : tQ} {u w pc : Nat} {ls : am_ls} {st : List am_V} {σ σ2 : tI} {τ : tL} {ρ : tR} {cn : tN} {ln : tM} (h : σ = σ2) (K : am_G l y Q u w pc ls st σ2 τ ρ cn ln) : am_G l y Q u w pc ls st σ τ ρ cn ln := h ▸ K
theorem lX_row {r : Nat} (h : 2 ≤ r) : lX 30 r = 60 := by
  have e0 : Nat.beq r 0 = false := by cases hh : Nat.beq r 0 with | false => rfl | true => exact absurd (am_beq hh) (by omega)
  have e1 : Nat.beq r 1 = false := by cases hh : Nat.beq r 1 with | false => rfl | true => exact absurd (am_beq hh) (by omega)
  show (bif Nat.beq r 0 then 132 else bif Nat.beq r 1 then 120 else 60) = 60
  rw [e0, e1]; rfl
section XB
variable {l : Launch} {σ : tI} {τ : tL} {ρ : tR} {cn : tN} {ln : tM} {t : Option (Nat × Nat)}
theorem x_within {i n : Int32} : am_D l 141 [aI i, aI n] σ τ ρ cn ln (some (aI (bI (0 ≤ i ∧ i < n)))) σ τ ρ := by
  refine am_D_of am_o141 am_l141 rfl ?_
  refine am_vc_ok am_k141 [] 20 ?_
  refine And.intro (fun h1 => ?_) (fun h1 => ?_)
  · refine am_vZ am_k141 am_r141 rfl (Or.inl rfl) ⟨?_, rfl, rfl, rfl, rfl, rfl⟩
    rw [bI_f (fun h => (Int32.not_le.mpr h1) h.1)]
  · refine And.intro (fun h2 => ?_) (fun h2 => ?_)
    · refine am_vZ am_k141 am_r141 rfl (Or.inl rfl) ⟨?_, rfl, rfl, rfl, rfl, rfl⟩
      rw [bI_f (fun h => (Int32.not_le.mpr h.2) h2)]
    · refine am_vZ am_k141 am_r141 rfl (Or.inr rfl) ⟨?_, rfl, rfl, rfl, rfl, rfl⟩
      rw [bI_t ⟨Int32.not_lt.mp h1, Int32.not_le.mp h2⟩]
/-- the class's find(which) -/
abbrev xfind (w : Nat) (σ : tI) : tI := u3 (u3 σ 11 0 10 (nI w)) 42 0 w (σ 42 0 w + 1)
theorem x_find {w : Nat} (hw : w < 6) : am_D l 143 [aR 11 0, aI (nI w)] σ τ (rX t) cX lX (some (aI (-3))) (xfind w σ) τ (rX t) := by
  refine am_D_of am_o143 am_l143 rfl ?_
  refine am_vc_ok am_k143 [] 40 ?_
  refine And.intro (vp_in_nI (N := 6) hw (by decide)) ?_
  refine And.intro (vp_in_nI (N := 6) hw (by decide)) ?_
  rw [nI_clamp (by omega)]
  refine am_vI am_k143 am_r143 rfl ⟨rfl, ?_, rfl, rfl, rfl, rfl⟩
  rw [u3_k σ (nI w) (show 42 ≠ 11 by decide)]
theorem x_spans {r : Nat} {i n : Int32} : am_D l 61 [aR 6 r, aI i, aI n] σ τ (rX t) cX lX (some (aI (bI (0 ≤ i ∧ i ≤ σ 6 r 1 ∧ n ≤ σ 6 r 1 - i)))) σ τ (rX t) := by
  refine am_D_of am_o61 am_l61 rfl ?_
  refine am_vc_ok am_k61 [] 40 ?_
  refine And.intro (fun h1 => ?_) (fun h1 => ?_)
  · refine am_vZ am_k61 am_r61 rfl (Or.inl rfl) ⟨?_, rfl, rfl, rfl, rfl, rfl⟩
    rw [bI_f (fun h => (Int32.not_le.mpr h1) h.1)]
  refine And.intro (fun h2 => ?_) (fun h2 => ?_)
  · refine am_vZ am_k61 am_r61 rfl (Or.inl rfl) ⟨?_, rfl, rfl, rfl, rfl, rfl⟩
    rw [bI_f (fun h => (Int32.not_le.mpr h2) h.2.1)]
  refine And.intro (fun h3 => ?_) (fun h3 => ?_)
  · refine am_vZ am_k61 am_r61 rfl (Or.inl rfl) ⟨?_, rfl, rfl, rfl, rfl, rfl⟩
    rw [bI_f (fun h => (Int32.not_le.mpr h3) h.2.2)]
  · refine am_vZ am_k61 am_r61 rfl (Or.inr rfl) ⟨?_, rfl, rfl, rfl, rfl, rfl⟩
    rw [bI_t ⟨Int32.not_lt.mp h1, Int32.not_lt.mp h2, Int32.not_lt.mp h3⟩]
/-- Row.add(v), where there is room -/
theorem x_add {r n : Nat} {v : Int32} (hn : σ 6 r 1 = nI n) (hl : n < lX 30 r) (hb : lX 30 r < 2 ^ 31) : am_D l 59 [aR 6 r, aI v] σ τ (rX t) cX lX none (u3 (u3 σ 30 r n v) 6 r 1 (nI (n + 1))) τ (rX t) := by
  refine am_D_of am_o59 am_l59 rfl ?_
  refine am_vc_ok am_k59 [] 40 ?_
  refine And.intro (fun h1 => absurd h1 (by rw [hn]; exact nI_ge hl hb)) (fun h1 => ?_)
  refine And.intro (by rw [hn]; exact vp_in_nI hl hb) ?_
  refine am_vV am_k59 am_r59 rfl ⟨rfl, ?_, rfl, rfl, rfl, rfl⟩
  rw [hn, nI_clamp (by omega), u3_k σ v (show 6 ≠ 30 by decide), hn]
  rw [show nI n + 1 = nI (n + 1) from nI_1 n]
/-- Row.unsignedAt(i) -/
theorem x_unsignedAt {r n : Nat} {i : Int32} (hn : σ 6 r 1 = nI n) (hl : n ≤ lX 30 r) (hb : lX 30 r < 2 ^ 31) : am_D l 62 [aR 6 r, aI i] σ τ (rX t) cX lX (some (aI (if 0 ≤ i ∧ i < nI n then σ 30 r i.toNatClampNeg &&& 255 else 0))) σ τ (rX t) := by
  refine am_D_of am_o62 am_l62 rfl ?_
  refine am_vc_ok am_k62 [] 40 ?_
  refine am_vS am_k62 am_h62 rfl rfl rfl rfl x_within ?_
  rw [hn]
  refine am_vc_ok am_k62 [] 40 ?_
  refine And.intro (fun h1 => ?_) (fun h1 => ?_)
  · refine am_vI am_k62 am_r62 rfl ⟨?_, rfl, rfl, rfl, rfl, rfl⟩
    rw [if_neg (bI_0.mp h1)]
  · have h2 := bI_1.mp h1
    obtain ⟨j, hj, rfl⟩ := ix_lt (nI_toInt (by omega)) h2
    refine And.intro (vp_in_nI (by omega) hb) ?_
    refine am_vI am_k62 am_r62 rfl ⟨?_, rfl, rfl, rfl, rfl, rfl⟩
    rw [if_pos h2]
end XB
