/-! the class's indexNames, become -/
section L56
variable {l : Launch} {σ σ2 : tI} {τ τ2 : tL} {t : Option (Nat × Nat)}
def ixf (σ s : tI) (i : Nat) : Prop := (∀ q, q ≠ 38 → s q = σ q) ∧ ∀ j, j ≠ i → s 38 j = σ 38 j
theorem ixf.u {s : tI} {i j : Nat} {v : Int32} (h : ixf σ s i) : ixf σ (u3 s 38 i j v) i :=
  ⟨fun q hq => by rw [u3_kk _ _ hq]; exact h.1 q hq, fun k hk => by rw [u3_ii _ _ hk]; exact h.2 k hk⟩
/-- the index, of those items and versions that have come -/
def ixP (S : aSh) (s : tI) (i : Nat) (P : Nat → Nat → Prop) : Prop := ∀ v a, v < 10 → a < 16 → (∀ k, P k v → k < sN S → sNm S k = a → sSi S k ≤ v → v ≤ sTi S k → s 38 i (16 * v + a) = nI k) ∧ ((∀ k, P k v → k < sN S → ¬ (sNm S k = a ∧ sSi S k ≤ v ∧ v ≤ sTi S k)) → s 38 i (16 * v + a) = -9)
theorem ixP.cg {S : aSh} {s : tI} {i : Nat} {P P2 : Nat → Nat → Prop} (h : ixP S s i P) (hP : ∀ k v, k < sN S → sSi S k ≤ v → v ≤ sTi S k → (P k v ↔ P2 k v)) : ixP S s i P2 := by
  intro v a hv ha
  obtain ⟨h1, h2⟩ := h v a hv ha
  refine ⟨fun k hp hk e1 e2 e3 => h1 k ((hP k v hk e2 e3).mpr hp) hk e1 e2 e3, fun hn => h2 (fun k hp hk hh => hn k ((hP k v hk hh.2.1 hh.2.2).mp hp) hk hh)⟩
theorem ixP.st {S : aSh} {s : tI} {i k w : Nat} (hS : ShOK S) (hk : k < sN S) (hw : sSi S k ≤ w) (hw2 : w ≤ sTi S k) (h : ixP S s i (fun q v => q < k ∨ (q = k ∧ v < w))) : ixP S (u3 s 38 i (16 * w + sNm S k) (nI k)) i (fun q v => q < k ∨ (q = k ∧ v < w + 1)) := by
  have hb := (hS.2.1 k hk).1
  intro v a hv ha
  obtain ⟨h1, h2⟩ := h v a hv ha
  by_cases e : v = w ∧ a = sNm S k
  · obtain ⟨rfl, rfl⟩ := e
    rw [u3_eq]
    refine ⟨fun q hp hq e1 e2 e3 => ?_, fun hn => absurd ⟨rfl, hw, hw2⟩ (hn k (Or.inr ⟨rfl, by omega⟩) hk)⟩
    by_cases eq : q = k
    · rw [eq]
    · have := hS.2.2 q k hq hk eq e1
      omega
  · rw [u3_j _ _ (by omega)]
    refine ⟨fun q hp hq e1 e2 e3 => ?_, fun hn => ?_⟩
    · refine h1 q ?_ hq e1 e2 e3
      rcases hp with hp | ⟨hp, hp2⟩
      · exact Or.inl hp
      · refine Or.inr ⟨hp, ?_⟩
        by_cases hvw : v = w
        · exact absurd ⟨hvw, by rw [← e1, hp]⟩ e
        · omega
    · refine h2 (fun q hp hq hh => hn q ?_ hq hh)
      rcases hp with hp | ⟨hp, hp2⟩
      · exact Or.inl hp
      · exact Or.inr ⟨hp, by omega⟩
theorem x_ix1 {Q : tQ} {i : Nat} (K : ∀ s, ixf σ s i → (∀ j, j < 160 → s 38 i j = -9) → am_G l 76 Q 0 0 23 [(1, aI (nI 160)), (0, aR 9 i)] [] s τ (rX t) cX lX) : ∀ (d k : Nat) (s : tI), k + d = 160 → ixf σ s i → (∀ j, j < k → s 38 i j = -9) → am_G l 76 Q 0 0 2 [(1, aI (nI k)), (0, aR 9 i)] [] s τ (rX t) cX lX
  | 0, k, s, h, hf, hz => by
    obtain rfl : k = 160 := by omega
    refine am_vc_ok am_k76 [2, 23] 100 ?_
    exact And.intro (fun _ => K s hf hz) (fun h1 => absurd (show (160 : Int32) ≤ nI 160 by decide) h1)
  | d + 1, k, s, h, hf, hz => by
    have K2 := x_ix1 K d (k + 1) (u3 s 38 i k (-9)) (by omega) hf.u (fun j hj => by
      by_cases e : j = k
      · rw [e, u3_eq]
      · rw [u3_j _ _ e]; exact hz j (by omega))
    refine am_vc_ok am_k76 [2, 23] 100 ?_
    refine And.intro (fun h1 => absurd h1 (nI_ge (b := 160) (by omega) (by decide))) (fun _ => ?_)
    refine And.intro (vp_in_nI (N := 160) (by omega) (by decide)) ?_
    rw [nI_clamp (n := k) (by omega)]
    rw [← nI_1 k] at K2
    exact K2
theorem x_ix2 {Q : tQ} {i k : Nat} {S : aSh} (hS : ShOK S) (hk : k < sN S) (hX : XItems σ i S) (K : ∀ s w, ixf σ s i → ixP S s i (fun q v => q < k ∨ (q = k ∧ v < sTi S k + 1)) → am_G l 76 Q 0 0 73 [(2, aI w), (1, aI (nI k)), (0, aR 9 i)] [] s τ (rX t) cX lX) : ∀ (d w : Nat) (s : tI), w + d = sTi S k + 1 → sSi S k ≤ w → ixf σ s i → ixP S s i (fun q v => q < k ∨ (q = k ∧ v < w)) → am_G l 76 Q 0 0 40 [(2, aI (nI w)), (1, aI (nI k)), (0, aR 9 i)] [] s τ (rX t) cX lX
  | 0, w, s, h, hw, hf, hz => by
    obtain rfl : w = sTi S k + 1 := by omega
    have s12 := hS.1
    have b9 := (hS.2.1 k hk).2.2.2.2.2.1
    have e36 : s 36 i k = nI (sTi S k) := by rw [hf.1 36 (by decide)]; exact (hX k hk).2.2.2.2.1
    refine am_vc_ok am_k76 [40, 73] 100 ?_
    refine And.intro (vp_in_nI (N := 12) (by omega) (by decide)) ?_
    rw [nI_clamp (n := k) (by omega), e36]
    exact And.intro (fun _ => K s _ hf hz) (fun h1 => absurd (nI_lt (by omega) (by omega)) h1)
  | d + 1, w, s, h, hw, hf, hz => by
    have s12 := hS.1
    have b9 := (hS.2.1 k hk).2.2.2.2.2.1
    have b1 := (hS.2.1 k hk).1
    have e36 : s 36 i k = nI (sTi S k) := by rw [hf.1 36 (by decide)]; exact (hX k hk).2.2.2.2.1
    have e32 : s 32 i k = nI (sNm S k) := by rw [hf.1 32 (by decide)]; exact (hX k hk).1
    have ei : nI w * 16 + nI (sNm S k) = nI (16 * w + sNm S k) := by rw [show (16 : Int32) = nI 16 from rfl, pk_mul, nI_add, Nat.mul_comm]
    have K2 := x_ix2 hS hk hX K d (w + 1) (u3 s 38 i (16 * w + sNm S k) (nI k)) (by omega) (by omega) hf.u (hz.st hS hk hw (by omega))
    refine am_vc_ok am_k76 [40, 73] 100 ?_
    refine And.intro (vp_in_nI (N := 12) (by omega) (by decide)) ?_
    rw [nI_clamp (n := k) (by omega), e36]
    refine And.intro (fun h1 => absurd h1 (Int32.not_lt.mpr (nI_le (by omega) (by omega)))) (fun _ => ?_)
    refine And.intro (vp_in_nI (N := 12) (by omega) (by decide)) ?_
    rw [nI_clamp (n := k) (by omega), e32]
    refine And.intro (by rw [ei]; exact vp_in_nI (N := 160) (by omega) (by decide)) ?_
    rw [ei, nI_clamp (n := 16 * w + sNm S k) (by omega)]
    rw [← nI_1 w] at K2
    exact K2
theorem x_ix3 {Q : tQ} {i : Nat} {S : aSh} (hS : ShOK S) (h9 : σ 9 i 1 = nI (sN S)) (hX : XItems σ i S) (K : ∀ s, ixf σ s i → ixP S s i (fun q _ => q < sN S) → Q none s τ (rX t) cX lX) : ∀ (d k : Nat) (s : tI), k + d = sN S → ixf σ s i → ixP S s i (fun q _ => q < k) → am_G l 76 Q 0 0 25 [(1, aI (nI k)), (0, aR 9 i)] [] s τ (rX t) cX lX
  | 0, k, s, h, hf, hz => by
    obtain rfl : k = sN S := by omega
    have s12 := hS.1
    have e9 : s 9 i 1 = nI (sN S) := by rw [hf.1 9 (by decide)]; exact h9
    refine am_vc_ok am_k76 [25] 100 ?_
    refine And.intro (fun _ => ?_) (fun h1 => absurd (by rw [e9]; exact nI_le (Nat.le_refl _) (by omega)) h1)
    exact am_vV am_k76 am_r76 rfl (K s hf hz)
  | d + 1, k, s, h, hf, hz => by
    have hk : k < sN S := by omega
    have s12 := hS.1
    have e9 : s 9 i 1 = nI (sN S) := by rw [hf.1 9 (by decide)]; exact h9
    obtain ⟨-, -, -, -, b5, b6, -⟩ := hS.2.1 k hk
    have e35 : s 35 i k = nI (sSi S k) := by rw [hf.1 35 (by decide)]; exact (hX k hk).2.2.2.1
    refine am_vc_ok am_k76 [25, 40] 100 ?_
    refine And.intro (fun h1 => absurd h1 (by rw [e9]; exact nI_ge hk (by omega))) (fun _ => ?_)
    refine And.intro (vp_in_nI (N := 12) (by omega) (by decide)) ?_
    rw [nI_clamp (n := k) (by omega), e35]
    refine x_ix2 hS hk hX ?_ (sTi S k + 1 - sSi S k) (sSi S k) s (by omega) (Nat.le_refl _) hf (hz.cg fun q v _ h1 _ => ⟨Or.inl, fun z => z.elim id (fun z => by obtain ⟨rfl, z⟩ := z; omega)⟩)
    intro s2 w hf2 hz2
    have K2 := x_ix3 hS h9 hX K d (k + 1) s2 (by omega) hf2 (hz2.cg fun q v hq h1 h2 => ⟨fun z => by omega, fun z => by
      by_cases e : q = k
      · subst e; exact Or.inr ⟨rfl, by omega⟩
      · exact Or.inl (by omega)⟩)
    refine am_vc_ok am_k76 [25] 100 ?_
    rw [← nI_1 k] at K2
    exact am_Gp [0, 2] rfl K2
theorem x_index {i : Nat} {S : aSh} (hS : ShOK S) (h9 : σ 9 i 1 = nI (sN S)) (hX : XItems σ i S) : am_T l 76 [aR 9 i] σ τ t (fun r s τ2 t2 => r = none ∧ τ2 = τ ∧ t2 = t ∧ ixf σ s i ∧ XIndex s i S) := by
  refine am_T_of am_o76 am_l76 rfl ?_
  refine am_vc_ok am_k76 [2] 100 ?_
  refine x_ix1 ?_ 160 0 σ (by omega) ⟨fun _ _ => rfl, fun _ _ => rfl⟩ (fun j hj => absurd hj (by omega))
  intro s hf hz
  refine am_vc_ok am_k76 [25] 100 ?_
  refine x_ix3 hS h9 hX ?_ (sN S) 0 s (by omega) hf (fun v a hv ha => ⟨fun k hk => absurd hk (by omega), fun _ => hz _ (by omega)⟩)
  intro s2 hf2 hz2
  refine ⟨t, rfl, rfl, rfl, rfl, rfl, rfl, hf2, fun v a hv ha => ?_⟩
  obtain ⟨h1, h2⟩ := hz2 v a hv ha
  exact ⟨fun k hk => h1 k hk hk, fun hn => h2 (fun k _ hk => hn k hk)⟩
theorem cp3_kk {k1 o1 k0 o0 sp dp n a : Nat} (h : a ≠ k1) : cp3 σ k1 o1 k0 o0 sp dp n a = σ a := by
  funext b c
  simp [cp3, h]
theorem cp3_ii {k1 o1 k0 o0 sp dp n a b : Nat} (h : b ≠ o1) : cp3 σ k1 o1 k0 o0 sp dp n a b = σ a b := by
  funext c
  simp [cp3, h]
theorem cp3_at {k1 o1 k0 o0 n c : Nat} (h : c < n) : cp3 σ k1 o1 k0 o0 0 0 n k1 o1 c = σ k0 o0 c := by
  simp [cp3, h]
/-- shape i is another one -/
def bcf (σ s : tI) (i : Nat) : Prop := (∀ q, q ≠ 9 → ¬ (32 ≤ q ∧ q ≤ 38) → s q = σ q) ∧ ∀ q j, j ≠ i → s q j = σ q j
theorem x_become {i : Nat} {S : aSh} (hi : i ≠ 0) (hS : ShOK S) (h9 : σ 9 0 1 = nI (sN S)) (hX : XItems σ 0 S) : am_T l 75 [aR 9 i, aR 9 0] σ τ t (fun r s τ2 t2 => r = none ∧ τ2 = τ ∧ t2 = t ∧ bcf σ s i ∧ s 9 i 0 = 1 ∧ s 9 i 1 = nI (sN S) ∧ XItems s i S ∧ XIndex s i S) := by
  have s12 := hS.1
  have hi2 : 0 ≠ i := fun z => hi z.symm
  refine am_T_of am_o75 am_l75 rfl ?_
  refine am_vc_ok am_k75 [] 100 ?_
  refine And.intro (Or.inr rfl) ?_
  refine am_vA am_k75 am_h75 rfl rfl rfl rfl (by decide) (by decide) (by decide) (by decide) ?_ ?_
  · show (12 : Nat) ≤ 12; decide
  refine am_vc_ok am_k75 [] 100 ?_
  refine am_vA am_k75 am_h75 rfl rfl rfl rfl (by decide) (by decide) (by decide) (by decide) ?_ ?_
  · show (12 : Nat) ≤ 12; decide
  refine am_vc_ok am_k75 [] 100 ?_
  refine am_vA am_k75 am_h75 rfl rfl rfl rfl (by decide) (by decide) (by decide) (by decide) ?_ ?_
  · show (12 : Nat) ≤ 12; decide
  refine am_vc_ok am_k75 [] 100 ?_
  refine am_vA am_k75 am_h75 rfl rfl rfl rfl (by decide) (by decide) (by decide) (by decide) ?_ ?_
  · show (12 : Nat) ≤ 12; decide
  refine am_vc_ok am_k75 [] 100 ?_
  refine am_vA am_k75 am_h75 rfl rfl rfl rfl (by decide) (by decide) (by decide) (by decide) ?_ ?_
  · show (12 : Nat) ≤ 12; decide
  refine am_vc_ok am_k75 [] 100 ?_
  refine am_vA am_k75 am_h75 rfl rfl rfl rfl (by decide) (by decide) (by decide) (by decide) ?_ ?_
  · show (12 : Nat) ≤ 12; decide
  rw [show Int32.toNatClampNeg 0 = 0 from rfl, show Int32.toNatClampNeg 12 = 12 from rfl]
  generalize hs0 : u3 (u3 σ 9 i 0 1) 9 i 1 (u3 σ 9 i 0 1 9 0 1) = s0
  generalize hs1 : cp3 (cp3 (cp3 (cp3 (cp3 (cp3 s0 32 i 32 0 0 0 12) 33 i 33 0 0 0 12) 34 i 34 0 0 0 12) 35 i 35 0 0 0 12) 36 i 36 0 0 0 12) 37 i 37 0 0 0 12 = s1
  have f0 : ∀ q, q ≠ 9 → s0 q = σ q := fun q hq => by rw [← hs0, u3_kk _ _ hq, u3_kk _ _ hq]
  have f0i : ∀ q j, j ≠ i → s0 q j = σ q j := fun q j hj => by rw [← hs0]; funext c; rw [u3_i _ _ hj, u3_i _ _ hj]
  have g1 : ∀ q, q ≠ 32 → q ≠ 33 → q ≠ 34 → q ≠ 35 → q ≠ 36 → q ≠ 37 → s1 q = s0 q := fun q a1 a2 a3 a4 a5 a6 => by rw [← hs1, cp3_kk a6, cp3_kk a5, cp3_kk a4, cp3_kk a3, cp3_kk a2, cp3_kk a1]
  have g1i : ∀ q j, j ≠ i → s1 q j = σ q j := fun q j hj => by rw [← hs1, cp3_ii hj, cp3_ii hj, cp3_ii hj, cp3_ii hj, cp3_ii hj, cp3_ii hj]; exact f0i q j hj
  have e9 : s1 9 = s0 9 := g1 9 (by decide) (by decide) (by decide) (by decide) (by decide) (by decide)
  have h90 : s1 9 i 0 = 1 := by rw [e9, ← hs0, u3_j _ _ (by decide), u3_eq]
  have h91 : s1 9 i 1 = nI (sN S) := by rw [e9, ← hs0, u3_eq, u3_i _ _ hi2]; exact h9
  have hX1 : XItems s1 i S := by
    intro k hk
    have h12 : k < 12 := by omega
    have z := hX k hk
    rw [← f0i 32 0 hi2, ← f0i 33 0 hi2, ← f0i 34 0 hi2, ← f0i 35 0 hi2, ← f0i 36 0 hi2, ← f0i 37 0 hi2] at z
    rw [← hs1]
    refine ⟨?_, ?_, ?_, ?_, ?_, ?_⟩
    · rw [cp3_kk (by decide), cp3_kk (by decide), cp3_kk (by decide), cp3_kk (by decide), cp3_kk (by decide), cp3_at h12]; exact z.1
    · rw [cp3_kk (by decide), cp3_kk (by decide), cp3_kk (by decide), cp3_kk (by decide), cp3_at h12, cp3_kk (by decide)]; exact z.2.1
    · rw [cp3_kk (by decide), cp3_kk (by decide), cp3_kk (by decide), cp3_at h12, cp3_kk (by decide), cp3_kk (by decide)]; exact z.2.2.1
    · rw [cp3_kk (by decide), cp3_kk (by decide), cp3_at h12, cp3_kk (by decide), cp3_kk (by decide), cp3_kk (by decide)]; exact z.2.2.2.1
    · rw [cp3_kk (by decide), cp3_at h12, cp3_kk (by decide), cp3_kk (by decide), cp3_kk (by decide), cp3_kk (by decide)]; exact z.2.2.2.2.1
    · rw [cp3_at h12, cp3_kk (by decide), cp3_kk (by decide), cp3_kk (by decide), cp3_kk (by decide), cp3_kk (by decide)]; exact z.2.2.2.2.2
  refine am_vc_ok am_k75 [] 100 ?_
  refine am_vOT am_k75 am_h75 rfl rfl rfl rfl (x_index hS h91 hX1) ?_
  rintro r s2 τ2 t2 ⟨rfl, rfl, rfl, hf, hI⟩
  refine am_vc_ok am_k75 [] 100 ?_
  refine am_vV am_k75 am_r75 rfl ⟨t2, rfl, rfl, rfl, rfl, rfl, rfl, ⟨fun q a1 a2 => ?_, fun q j hj => ?_⟩, ?_, ?_, ?_, hI⟩
  · rw [hf.1 q (by omega), g1 q (by omega) (by omega) (by omega) (by omega) (by omega) (by omega), f0 q a1]
  · by_cases e : q = 38
    · subst e
      rw [hf.2 j hj]
      exact g1i 38 j hj
    · rw [hf.1 q e]
      exact g1i q j hj
  · rw [hf.1 9 (by decide)]; exact h90
  · rw [hf.1 9 (by decide)]; exact h91
  · exact hX1.fr (Nat.le_refl _) (fun q k a b _ => by rw [hf.1 q (by omega)])
end L56
