/-! CASES OF THE LAW: unlike, fits (the class's side) -/
section L26
variable {l : Launch} {σ σ2 s : tI} {τ τ2 : tL} {t : Option (Nat × Nat)}
/-- the first of a, a + 1 .. with p, d of them -/
def fstI (p : Nat → Bool) : Nat → Nat → Int32
  | 0, _ => -9
  | d + 1, a => if p a = true then nI a else fstI p d (a + 1)
theorem fstI_cg {p q : Nat → Bool} : ∀ (d a : Nat), (∀ b, a ≤ b → b < a + d → p b = q b) → fstI p d a = fstI q d a
  | 0, _, _ => rfl
  | d + 1, a, h => by
    unfold fstI
    rw [h a (by omega) (by omega), fstI_cg d (a + 1) (fun b h1 h2 => h b (by omega) (by omega))]
theorem fstI_none {p : Nat → Bool} : ∀ (d a : Nat), a + d ≤ 1000 → (fstI p d a = -9 ↔ ∀ b, a ≤ b → b < a + d → p b = false)
  | 0, a, _ => ⟨fun _ b h1 h2 => absurd h2 (by omega), fun _ => rfl⟩
  | d + 1, a, hd => by
    unfold fstI
    by_cases e : p a = true
    · rw [if_pos e]
      refine ⟨fun z => absurd z (n9_4 (by omega)), fun g => ?_⟩
      have := g a (by omega) (by omega)
      rw [e] at this
      cases this
    · rw [if_neg e, fstI_none d (a + 1) (by omega)]
      constructor
      · intro g b h1 h2
        by_cases hb : b = a
        · subst hb; exact Bool.not_eq_true _ ▸ e
        · exact g b (by omega) (by omega)
      · intro g b h1 h2
        exact g b (by omega) (by omega)
theorem fstI_pos {p : Nat → Bool} : ∀ (d a : Nat), a + d ≤ 1000 → ¬ fstI p d a = -9 → 0 ≤ fstI p d a
  | 0, _, _, h => absurd rfl h
  | d + 1, a, hd, h => by
    unfold fstI at h ⊢
    by_cases e : p a = true
    · rw [if_pos e]; exact nI_pos' (by omega)
    · rw [if_neg e] at h ⊢; exact fstI_pos d (a + 1) (by omega) h
theorem x_unlike_lp {Q : tQ} {acc a1 a2 a3 r : Int32} (hQ : Q (some (aI (fstI (fun a => decide (¬ acc &&& bt a = 0)) 16 0))) σ τ (rX t) cX lX) : ∀ (d a : Nat), a + d = 16 → fstI (fun a => decide (¬ acc &&& bt a = 0)) d a = fstI (fun a => decide (¬ acc &&& bt a = 0)) 16 0 → am_G l 110 Q 0 0 35 [(6, aI (nI a)), (5, aI acc), (4, aI r), (0, aR 11 0), (1, aI a1), (2, aI a2), (3, aI a3)] [] σ τ (rX t) cX lX
  | 0, a, h, hf => by
    obtain rfl : a = 16 := by omega
    refine am_vc_ok am_k110 [35] 100 ?_
    refine And.intro (fun _ => ?_) (fun h1 => absurd (show (16 : Int32) ≤ nI 16 by decide) h1)
    refine am_vI am_k110 am_r110 rfl ?_
    rw [← hf] at hQ
    exact hQ
  | d + 1, a, h, hf => by
    refine am_vc_ok am_k110 [35] 100 ?_
    refine And.intro (fun h1 => absurd h1 (nI_ge (b := 16) (by omega) (by decide))) (fun _ => ?_)
    refine And.intro (fun e => ?_) (fun e => ?_)
    · have e : acc &&& bt a = 0 := e
      have K2 := x_unlike_lp (a1 := a1) (a2 := a2) (a3 := a3) (r := r) hQ d (a + 1) (by omega) (by
        rw [← hf, fstI, if_neg (by simp [e])])
      rw [← nI_1 a] at K2
      exact K2
    · have e : ¬ acc &&& bt a = 0 := e
      refine am_vI am_k110 am_r110 rfl ?_
      rw [← hf, fstI, if_pos (by simp [e])] at hQ
      exact hQ
theorem x_refVer_ok {s : Nat} {w v : Int32} (hs : s < 4) (hw : 0 ≤ w ∧ w < 10) (hv : 0 ≤ v ∧ v < 10) (h0 : ¬ σ 9 (1 + s) 0 = 0) : am_D l 145 [aR 11 0, aI (nI s), aI w, aI v] σ τ (rX t) cX lX (some (aI (-9))) σ τ (rX t) := by
  refine am_D_of am_o145 am_l145 rfl ?_
  refine am_vc_ok am_k145 [] 100 ?_
  refine am_vS am_k145 am_h145 rfl rfl rfl rfl (x_within) ?_
  refine am_vc_ok am_k145 [] 100 ?_
  refine And.intro (fun g => absurd (in4 hs) (bI_0.mp g)) (fun _ => ?_)
  refine am_vS am_k145 am_h145 rfl rfl rfl rfl (x_within) ?_
  refine am_vc_ok am_k145 [] 100 ?_
  refine And.intro (fun g => absurd hw (bI_0.mp g)) (fun _ => ?_)
  refine am_vS am_k145 am_h145 rfl rfl rfl rfl (x_within) ?_
  refine am_vc_ok am_k145 [] 100 ?_
  refine And.intro (fun g => absurd hv (bI_0.mp g)) (fun _ => ?_)
  refine And.intro (vp_in_nI (N := 4) hs (by decide)) ?_
  rw [nI_clamp (n := s) (by omega)]
  refine And.intro (fun g => absurd g h0) (fun _ => ?_)
  exact am_vI am_k145 am_r145 rfl ⟨rfl, rfl, rfl, rfl, rfl, rfl⟩
theorem in10 {v : Nat} (h : v < 10) : (0 : Int32) ≤ nI v ∧ nI v < 10 := ⟨nI_pos' (by omega), nI_lt (b := 10) h (by decide)⟩
/-- the names of those that have u, as a predicate of the name -/
def nmB (u : Nat → Bool) (nm : Nat → Int32) (n : Nat) : Nat → Bool := fun a => decide (∃ q, q < n ∧ u q = true ∧ nm q = nI a)
theorem JB.nm {u : Nat → Bool} {nm : Nat → Int32} {acc : Int32} {n a : Nat} (h : JB u nm acc n) (ha : a < 16) : decide (¬ acc &&& bt a = 0) = nmB u nm n a := by
  unfold nmB
  refine decide_eq_decide.mpr ?_
  rw [h.2 a ha]
  constructor
  · intro g
    refine Classical.byContradiction fun g2 => g (fun q hq zu e => g2 ⟨q, hq, zu, e⟩)
  · rintro ⟨q, hq, zu, e⟩ g
    exact g q hq zu e
theorem JB.z0 {u : Nat → Bool} {nm : Nat → Int32} {acc : Int32} {n : Nat} (h : JB u nm acc n) (hX : ∀ k, k < n → ∃ b, b < 16 ∧ nm k = nI b) : acc = 0 ↔ fstI (nmB u nm n) 16 0 = -9 := by
  rw [h.1, fstI_none 16 0 (by omega)]
  constructor
  · intro g b _ _
    unfold nmB
    refine decide_eq_false ?_
    rintro ⟨q, hq, zu, -⟩
    rw [g q hq] at zu
    cases zu
  · intro g q hq
    obtain ⟨b, hb, eb⟩ := hX q hq
    have z := of_decide_eq_false (g b (by omega) (by omega))
    cases hu : u q with
    | false => rfl
    | true => exact absurd ⟨q, hq, hu, eb⟩ z
theorem x_unlike {s n w v : Nat} (hs : s < 4) (hw : w < 10) (hv : v < 10) (h0 : ¬ σ 9 (1 + s) 0 = 0) (hn : σ 9 (1 + s) 1 = nI n) (hn2 : n ≤ 12) (hX : ∀ k, k < n → ∃ b, b < 16 ∧ σ 32 (1 + s) k = nI b) (hI : ∀ b, b < 16 → σ 38 (1 + s) (16 * w + b) = pI (lastM (inP (σ 35 (1 + s)) (σ 36 (1 + s)) (σ 32 (1 + s)) (nI w) (nI b)) n)) : am_T l 110 [aR 11 0, aI (nI s), aI (nI w), aI (nI v)] σ τ t (fun r s2 τ2 t2 => r = some (aI (fstI (nmB (ulV σ (1 + s) (nI w) (nI v) n) (σ 32 (1 + s)) n) 16 0)) ∧ s2 = σ ∧ τ2 = τ ∧ t2 = t) := by
  refine am_T_of am_o110 am_l110 rfl ?_
  refine am_vc_ok am_k110 [35] 100 ?_
  refine am_vO am_k110 am_h110 rfl rfl rfl rfl (x_refVer_ok hs (in10 hw) (in10 hv) h0) ?_
  refine am_vc_ok am_k110 [35] 100 ?_
  refine And.intro (fun _ => ?_) (fun g => absurd rfl g)
  refine And.intro (vp_in_nI (N := 4) hs (by decide)) ?_
  rw [nI_clamp (n := s) (by omega)]
  refine am_vOT am_k110 am_h110 rfl rfl rfl rfl (x_unlikeNames (i := 1 + s) hw hn hn2 hX hI) ?_
  rintro r s2 τ2 t2 ⟨⟨acc, rfl, hJ⟩, rfl, rfl, rfl⟩
  refine am_vc_ok am_k110 [35] 100 ?_
  refine x_unlike_lp ?_ 16 0 (by omega) rfl
  refine ⟨_, rfl, rfl, rfl, ?_, rfl, rfl, rfl⟩
  rw [fstI_cg 16 0 (fun b _ hb => hJ.nm (by omega))]
theorem x_fits {s n w v : Nat} (hs : s < 4) (hw : w < 10) (hv : v < 10) (h0 : ¬ σ 9 (1 + s) 0 = 0) (hn : σ 9 (1 + s) 1 = nI n) (hn2 : n ≤ 12) (hX : ∀ k, k < n → ∃ b, b < 16 ∧ σ 32 (1 + s) k = nI b) (hI : ∀ b, b < 16 → σ 38 (1 + s) (16 * w + b) = pI (lastM (inP (σ 35 (1 + s)) (σ 36 (1 + s)) (σ 32 (1 + s)) (nI w) (nI b)) n)) : am_T l 109 [aR 11 0, aI (nI s), aI (nI w), aI (nI v)] σ τ t (fun r s2 τ2 t2 => r = some (aI (if fstI (nmB (ulV σ (1 + s) (nI w) (nI v) n) (σ 32 (1 + s)) n) 16 0 = -9 then 1 else 0)) ∧ s2 = σ ∧ τ2 = τ ∧ t2 = t) := by
  refine am_T_of am_o109 am_l109 rfl ?_
  refine am_vc_ok am_k109 [] 100 ?_
  refine am_vO am_k109 am_h109 rfl rfl rfl rfl (x_refVer_ok hs (in10 hw) (in10 hv) h0) ?_
  refine am_vc_ok am_k109 [] 100 ?_
  refine And.intro (fun _ => ?_) (fun g => absurd rfl g)
  refine And.intro (vp_in_nI (N := 4) hs (by decide)) ?_
  rw [nI_clamp (n := s) (by omega)]
  refine am_vOT am_k109 am_h109 rfl rfl rfl rfl (x_unlikeNames (i := 1 + s) hw hn hn2 hX hI) ?_
  rintro r s2 τ2 t2 ⟨⟨acc, rfl, hJ⟩, rfl, rfl, rfl⟩
  refine am_vc_ok am_k109 [] 100 ?_
  refine And.intro (fun e => ?_) (fun e => ?_)
  · have e : acc = 0 := e
    refine am_vI am_k109 am_r109 rfl ⟨_, rfl, rfl, rfl, ?_, rfl, rfl, rfl⟩
    rw [if_pos ((hJ.z0 hX).mp e)]
  · have e : ¬ acc = 0 := e
    refine am_vI am_k109 am_r109 rfl ⟨_, rfl, rfl, rfl, ?_, rfl, rfl, rfl⟩
    rw [if_neg (fun z => e ((hJ.z0 hX).mpr z))]
end L26
