/-! CASES OF THE LAW: unlike, fits (the class's side) -/
section L26
variable {l : Launch} {σ σ2 s : tI} {τ τ2 : tL} {t : Option (Nat × Nat)}
/-- the first of a, a + 1 .. with p, d of them -/
def fstI (p : Nat → Bool) : Nat → Nat → Int32
  | 0, _ => -9
  | d + 1, a => if p a = true then nI a else fstI p d (a + 1)
theorem fstI_cg {p q : Nat → Bool} : ∀ (d a : Nat), (∀ b, a ≤ b → b < a + d → p b = q b) → fstI p d a = fstI q d a
  | 0, _, _ => rfl
  | d + 1, a, h => by
    unfold fstI
    rw [h a (by omega) (by omega), fstI_cg d (a + 1) (fun b h1 h2 => h b (by omega) (by omega))]
theorem fstI_none {p : Nat → Bool} : ∀ (d a : Nat), a + d ≤ 1000 → (fstI p d a = -9 ↔ ∀ b, a ≤ b → b < a + d → p b = false)
  | 0, a, _ => ⟨fun _ b h1 h2 => absurd h2 (by omega), fun _ => rfl⟩
  | d + 1, a, hd => by
    unfold fstI
    by_cases e : p a = true
    · rw [if_pos e]
      refine ⟨fun z => absurd z (n9_4 (by omega)), fun g => ?_⟩
      have := g a (by omega) (by omega)
      rw [e] at this
      cases this
    · rw [if_neg e, fstI_none d (a + 1) (by omega)]
      constructor
      · intro g b h1 h2
        by_cases hb : b = a
        · subst hb; exact Bool.not_eq_true _ ▸ e
        · exact g b (by omega) (by omega)
      · intro g b h1 h2
        exact g b (by omega) (by omega)
theorem fstI_pos {p : Nat → Bool} : ∀ (d a : Nat), a + d ≤ 1000 → ¬ fstI p d a = -9 → 0 ≤ fstI p d a
  | 0, _, _, h => absurd rfl h
  | d + 1, a, hd, h => by
    unfold fstI at h ⊢
    by_cases e : p a = true
    · rw [if_pos e]; exact nI_pos' (by omega)
    · rw [if_neg e] at h ⊢; exact fstI_pos d (a + 1) (by omega) h
theorem x_unlike_lp {Q : tQ} {acc a1 a2 a3 r : Int32} (hQ : Q (some (aI (fstI (fun a => decide (¬ acc &&& bt a = 0)) 16 0))) σ τ (rX t) cX lX) : ∀ (d a : Nat), a + d = 16 → fstI (fun a => decide (¬ acc &&& bt a = 0)) d a = fstI (fun a => decide (¬ acc &&& bt a = 0)) 16 0 → am_G l 110 Q 0 0 35 [(6, aI (nI a)), (5, aI acc), (4, aI r), (0, aR 11 0), (1, aI a1), (2, aI a2), (3, aI a3)] [] σ τ (rX t) cX lX
  | 0, a, h, hf => by
    obtain rfl : a = 16 := by omega
    refine am_vc_ok am_k110 [35] 100 ?_
    refine And.intro (fun _ => ?_) (fun h1 => absurd (show (16 : Int32) ≤ nI 16 by decide) h1)
    refine am_vI am_k110 am_r110 rfl ?_
    rw [← hf] at hQ
    exact hQ
  | d + 1, a, h, hf => by
    refine am_vc_ok am_k110 [35] 100 ?_
    refine And.intro (fun h1 => absurd h1 (nI_ge (b := 16) (by omega) (by decide))) (fun _ => ?_)
    refine And.intro (fun e => ?_) (fun e => ?_)
    · have e : acc &&& bt a = 0 := e
      have K2 := x_unlike_lp (l := l) (a1 := a1) (a2 := a2) (a3 := a3) (r := r) hQ d (a + 1) (by omega) (by
        rw [← hf, fstI, if_neg (by simp [e])])
      rw [← nI_1 a] at K2
      exact K2
    · have e : ¬ acc &&& bt a = 0 := e
      refine am_vI am_k110 am_r110 rfl ?_
      rw [← hf, fstI, if_pos (by simp [e])] at hQ
      exact hQ
end L26
