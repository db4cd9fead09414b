/-! ticks: class cells of one state, model cells of another; changes of one call's cells -/
section L80
variable {l : Launch} {σ σ2 s A : tI} {τ τ2 : tL} {t : Option (Nat × Nat)} {T n m lo k c : Nat}
/-- kinds of the class -/
def isC : Nat → Bool := fun q => Nat.ble q 11 || (Nat.ble 13 q && Nat.ble q 42)
/-- class cells of σ, model cells of A -/
def mrg (σ A : tI) : tI := fun q => bif isC q then σ q else A q
theorem mrg_x {q i j : Nat} {v : Int32} (h : isC q = true) : mrg (u3 σ q i j v) A = u3 (mrg σ A) q i j v := by
  funext a b d
  by_cases e : a = q
  · subst e
    simp [mrg, u3, h]
  · cases ha : isC a <;> simp [mrg, u3, e, ha]
theorem mrg_m {q i j : Nat} {v : Int32} (h : isC q = false) : mrg σ (u3 A q i j v) = u3 (mrg σ A) q i j v := by
  funext a b d
  by_cases e : a = q
  · subst e
    simp [mrg, u3, h]
  · cases ha : isC a <;> simp [mrg, u3, e, ha]
theorem mrg_self : mrg σ σ = σ := by
  funext a
  unfold mrg
  cases isC a <;> rfl
theorem mrg_c {q : Nat} (h : isC q = true) : mrg σ A q = σ q := by unfold mrg; rw [h]; rfl
theorem mrg_n {q : Nat} (h : isC q = false) : mrg σ A q = A q := by unfold mrg; rw [h]; rfl
/-- kinds that a change of one call leaves as they were -/
def ccK : Nat → Bool := fun q => Nat.beq q 1 || Nat.beq q 2 || Nat.beq q 12 || (Nat.ble 14 q && Nat.ble q 23) || (Nat.ble 62 q && Nat.ble q 69) || Nat.beq q 74 || (Nat.ble 84 q && Nat.ble q 93)
/-- only call c's own cells, services' counts and the count of open ones may have changed -/
def ccF (σ s : tI) (c : Nat) : Prop := (∀ q, ccK q = true → s q = σ q) ∧ (∀ c2, c2 ≠ c → s 0 c2 = σ 0 c2 ∧ s 13 c2 = σ 13 c2) ∧ (∀ q c2, 70 ≤ q → q ≤ 83 → q ≠ 80 → c2 ≠ c → s q 0 c2 = σ q 0 c2) ∧ (∀ c2 j, c2 ≠ c → j < 4 → s 80 0 (4 * c2 + j) = σ 80 0 (4 * c2 + j)) ∧ (∀ j, j ≠ 6 → s 3 0 j = σ 3 0 j) ∧ (∀ a j, j ≠ 5 → j ≠ 6 → s 8 a j = σ 8 a j) ∧ s 0 c 11 = σ 0 c 11
theorem Rnet0.cc (h : Rnet0 σ T n m lo k) (hc : c < n) (E : ccF σ s c) (hR : Rcall s c) (hO : Ocall s c) (h6 : s 3 0 6 = nI (cntN (fun c => decide (s 71 0 c = 0)) n)) (h85 : ∀ a, a < 6 → s 8 a 5 = nI (cntN (fun c => decide (s 66 0 c = nI a ∧ s 77 0 c = 1)) n) ∧ s 8 a 6 = nI (cntN (fun c => decide (s 66 0 c = nI a ∧ s 77 0 c = 2)) n)) (h90 : ∀ f, lo ≤ f → f < m → σ 84 0 f = 1 → σ 89 0 f = nI c → s 72 0 c = σ 72 0 c) : Rnet0 s T n m lo k := by
  obtain ⟨E1, E2, E3, E4, E5, E6, E7⟩ := E
  obtain ⟨g1, g2, g3, g4, g5, g6, g7, g8, g9, g10, g11, g12⟩ := h
  have hn := g2.2.2
  have eM : ∀ q c2, 65 ≤ q → q ≤ 83 → q ≠ 80 → c2 ≠ c → s q 0 c2 = σ q 0 c2 := by
    intro q c2 h1 h2 h3 h4
    by_cases h : 70 ≤ q
    · exact E3 q c2 h h2 h3 h4
    · rw [E1 q (by simp only [ccK, Bool.or_eq_true, Bool.and_eq_true, Nat.ble_eq, Nat.beq_eq]; omega)]
  refine ⟨?_, ?_, fun c2 hc2 => ?_, fun c2 h1 h2 => ?_, h6, fun a ha => ?_, ?_, ?_, ?_, ?_, ?_, ?_⟩
  · rw [E5 4 (by decide), E1 12 rfl]; exact g1
  · rw [E5 5 (by decide), E1 12 rfl]; exact g2
  · have eU : undU s lo m c2 = undU σ lo m c2 := by unfold undU; rw [E1 89 rfl]
    rw [eU]
    obtain ⟨k1, k2, k3⟩ := g3 c2 hc2
    by_cases e : c2 = c
    · subst e
      exact ⟨hR, hO, E7.trans k3⟩
    · refine ⟨?_, ?_, by rw [(E2 c2 e).1]; exact k3⟩
      · unfold Rcall at k1 ⊢
        rw [(E2 c2 e).1, (E2 c2 e).2, eM 65 c2 (by decide) (by decide) (by decide) e, eM 66 c2 (by decide) (by decide) (by decide) e, eM 67 c2 (by decide) (by decide) (by decide) e, eM 68 c2 (by decide) (by decide) (by decide) e, eM 69 c2 (by decide) (by decide) (by decide) e, eM 70 c2 (by decide) (by decide) (by decide) e, eM 71 c2 (by decide) (by decide) (by decide) e, eM 72 c2 (by decide) (by decide) (by decide) e, eM 73 c2 (by decide) (by decide) (by decide) e, eM 74 c2 (by decide) (by decide) (by decide) e, eM 75 c2 (by decide) (by decide) (by decide) e, eM 76 c2 (by decide) (by decide) (by decide) e, eM 77 c2 (by decide) (by decide) (by decide) e, eM 78 c2 (by decide) (by decide) (by decide) e, eM 79 c2 (by decide) (by decide) (by decide) e, eM 81 c2 (by decide) (by decide) (by decide) e, eM 82 c2 (by decide) (by decide) (by decide) e, eM 83 c2 (by decide) (by decide) (by decide) e]
        obtain ⟨a0, a1, a2, a3, a4, a5, a6, a7, a8, a9, b0, b1, b2, b3, b4, b5, b6, b7, b8⟩ := k1
        exact ⟨a0, a1, a2, a3, a4, a5, a6, a7, a8, a9, b0, b1, b2, b3, b4, b5, b6, b7, fun j hj => by rw [E4 c2 j e hj]; exact b8 j hj⟩
      · unfold Ocall at k2 ⊢
        rw [eM 65 c2 (by decide) (by decide) (by decide) e, eM 66 c2 (by decide) (by decide) (by decide) e, eM 67 c2 (by decide) (by decide) (by decide) e, eM 68 c2 (by decide) (by decide) (by decide) e, eM 70 c2 (by decide) (by decide) (by decide) e, eM 71 c2 (by decide) (by decide) (by decide) e, eM 72 c2 (by decide) (by decide) (by decide) e, eM 77 c2 (by decide) (by decide) (by decide) e, eM 78 c2 (by decide) (by decide) (by decide) e, eM 81 c2 (by decide) (by decide) (by decide) e, eM 82 c2 (by decide) (by decide) (by decide) e]
        exact k2
  · have e : c2 ≠ c := by omega
    have k1 := g4 c2 h1 h2
    unfold Fcall at k1 ⊢
    rw [(E2 c2 e).1, (E2 c2 e).2, eM 72 c2 (by decide) (by decide) (by decide) e, eM 73 c2 (by decide) (by decide) (by decide) e, eM 77 c2 (by decide) (by decide) (by decide) e, eM 81 c2 (by decide) (by decide) (by decide) e, eM 82 c2 (by decide) (by decide) (by decide) e, eM 83 c2 (by decide) (by decide) (by decide) e]
    obtain ⟨a0, a1, a2, a3, a4, a5, a6, a7, a8, a9, b0, b1, b2, b3, b4, b5, b6⟩ := k1
    exact ⟨a0, a1, a2, a3, a4, a5, a6, a7, a8, a9, b0, b1, b2, b3, b4, b5, fun j hj => ⟨(b6 j hj).1, by rw [E4 c2 j e hj]; exact (b6 j hj).2⟩⟩
  · rw [E6 a 2 (by decide) (by decide), E6 a 3 (by decide) (by decide), E6 a 4 (by decide) (by decide), E1 62 rfl, E1 63 rfl, E1 64 rfl]
    obtain ⟨k1, k2, k3, k4, k5, k6, -, -⟩ := g6 a ha
    exact ⟨k1, k2, k3, k4, k5, k6, (h85 a ha).1, (h85 a ha).2⟩
  · rw [E1 1 rfl, E1 12 rfl]; exact g7
  · unfold Rframe Oframe at g8 ⊢
    rw [E1 14 rfl, E1 15 rfl, E1 16 rfl, E1 17 rfl, E1 18 rfl, E1 19 rfl, E1 20 rfl, E1 84 rfl, E1 85 rfl, E1 86 rfl, E1 87 rfl, E1 88 rfl, E1 89 rfl, E1 90 rfl]
    exact g8
  · rw [E1 1 rfl, E1 88 rfl]; exact g9
  · rw [E1 1 rfl, E1 88 rfl]; exact g10
  · intro f c2 a1 a2 a3 a4 a5
    rw [E1 84 rfl] at a3
    rw [E1 89 rfl] at a4
    rw [E1 90 rfl, g11 f c2 a1 a2 a3 a4 a5]
    by_cases e : c2 = c
    · subst e
      exact (h90 f a1 a2 a3 a4).symm
    · exact (eM 72 c2 (by decide) (by decide) (by decide) e).symm
  · rw [E1 2 rfl, E1 12 rfl, E1 21 rfl, E1 22 rfl, E1 23 rfl, E1 91 rfl, E1 92 rfl, E1 93 rfl]; exact g12
/-- the accounting, with so much left over of call c -/
def RaccS (σ : tI) (n m lo c x : Nat) : Prop :=
  ∃ P S : Nat, ∃ Rp Kc : Nat → Nat, σ 3 0 7 = nI P ∧ σ 12 0 62 = nI P ∧ P ≤ 100 ∧ σ 3 0 8 = nI S ∧ σ 12 0 63 = nI S ∧ S ≤ 200 ∧ m = P + S + sumN (fun c => (σ 72 0 c).toNatClampNeg + 1 + Rp c + Kc c) n ∧
    ∀ c2, c2 < n → Rp c2 + (if σ 77 0 c2 = 0 then 0 else 1) + asksU σ lo m c2 + (if c2 = c then x else 0) ≤ (σ 72 0 c2).toNatClampNeg + 1 ∧ Kc c2 ≤ (if σ 71 0 c2 = 0 then 0 else 1) ∧ (σ 81 0 c2).toNatClampNeg ≤ 9 * lo
theorem Racc.S {x : Nat} (h : RaccS σ n m lo c x) : Racc σ n m lo := by
  obtain ⟨P, S, Rp, Kc, g1, g2, g3, g4, g5, g6, g7, g8⟩ := h
  exact ⟨P, S, Rp, Kc, g1, g2, g3, g4, g5, g6, g7, fun c2 hc2 => ⟨by have := (g8 c2 hc2).1; omega, (g8 c2 hc2).2⟩⟩
theorem Racc.S0 (h : Racc σ n m lo) : RaccS σ n m lo c 0 := by
  obtain ⟨P, S, Rp, Kc, g1, g2, g3, g4, g5, g6, g7, g8⟩ := h
  exact ⟨P, S, Rp, Kc, g1, g2, g3, g4, g5, g6, g7, fun c2 hc2 => ⟨by have := (g8 c2 hc2).1; rw [show (if c2 = c then 0 else 0) = 0 from ite_self 0]; omega, (g8 c2 hc2).2⟩⟩
/-- call c's cells change: what is left over of it changes by what is placed -/
theorem RaccS.cc {x x2 : Nat} (h : RaccS σ n m lo c x) (E : ccF σ s c) (h72 : s 72 0 c = σ 72 0 c) (h77 : (if s 77 0 c = 0 then 0 else 1) + x2 ≤ (if σ 77 0 c = 0 then 0 else 1) + x) (h71 : (if σ 71 0 c = 0 then 0 else 1) ≤ (if s 71 0 c = 0 then 0 else 1)) (h81 : (s 81 0 c).toNatClampNeg ≤ 9 * lo) : RaccS s n m lo c x2 := by
  obtain ⟨E1, E2, E3, E4, E5, E6, E7⟩ := E
  obtain ⟨P, S, Rp, Kc, g1, g2, g3, g4, g5, g6, g7, g8⟩ := h
  have e72 : ∀ c2, s 72 0 c2 = σ 72 0 c2 := fun c2 => by
    by_cases e : c2 = c
    · rw [e, h72]
    · exact E3 72 c2 (by decide) (by decide) (by decide) e
  have eA : ∀ c2, asksU s lo m c2 = asksU σ lo m c2 := fun c2 => by unfold asksU; rw [E1 84 rfl, E1 89 rfl]
  refine ⟨P, S, Rp, Kc, by rw [E5 7 (by decide)]; exact g1, by rw [E1 12 rfl]; exact g2, g3, by rw [E5 8 (by decide)]; exact g4, by rw [E1 12 rfl]; exact g5, g6, by simp only [e72]; exact g7, fun c2 hc2 => ?_⟩
  obtain ⟨k1, k2, k3⟩ := g8 c2 hc2
  rw [e72, eA]
  by_cases e : c2 = c
  · subst e
    rw [if_pos rfl] at k1 ⊢
    exact ⟨by omega, by omega, h81⟩
  · rw [if_neg e] at k1 ⊢
    rw [E3 77 c2 (by decide) (by decide) (by decide) e, E3 71 c2 (by decide) (by decide) (by decide) e, E3 81 c2 (by decide) (by decide) (by decide) e]
    exact ⟨k1, k2, k3⟩
/-- counts: where one call changes -/
theorem cntN_inc {p q : Nat → Bool} {c : Nat} (hp : p c = false) (hq : q c = true) (h : ∀ x, x ≠ c → p x = q x) {n : Nat} (hc : c < n) : cntN q n = cntN p n + 1 := cntN_dec hq hp (fun x hx => (h x hx).symm) hc
theorem cntN_same {p q : Nat → Bool} {c : Nat} (hpq : p c = q c) (h : ∀ x, x ≠ c → p x = q x) {n : Nat} : cntN p n = cntN q n := cntN_cg (fun x _ => by
  by_cases e : x = c
  · rw [e, hpq]
  · exact h x e)
end L80
