/-! copy: the arithmetic -/
section L15
theorem span_iff {f k : Int32} {n : Nat} (hk : 0 ≤ k) (hn : n ≤ 60) : (0 ≤ f ∧ f ≤ nI n ∧ k ≤ nI n - f) ↔ (¬ f < 0 ∧ f.toInt64 + k.toInt64 ≤ (nI n).toInt64) := by
  have e : (nI n).toInt = n := nI_toInt (by omega)
  have f1 := Int32.le_toInt f
  have f2 := Int32.toInt_lt f
  have k1 := Int32.le_toInt k
  have k2 := Int32.toInt_lt k
  have z : (0 : Int32).toInt = 0 := rfl
  rw [Int32.le_iff_toInt_le, z] at hk
  have s64 : (f.toInt64 + k.toInt64).toInt = f.toInt + k.toInt := by
    rw [Int64.toInt_add, Int32.toInt_toInt64, Int32.toInt_toInt64]
    exact Int.bmod_eq_of_le (by omega) (by omega)
  rw [Int32.not_lt, Int64.le_iff_toInt_le, s64, Int32.toInt_toInt64, Int32.le_iff_toInt_le, Int32.le_iff_toInt_le, Int32.le_iff_toInt_le, e, z]
  constructor
  · rintro ⟨a, b, c⟩
    rw [Int32.toInt_sub, e, Int.bmod_eq_of_le (by omega) (by omega)] at c
    exact ⟨a, by omega⟩
  · rintro ⟨a, b⟩
    refine ⟨a, by omega, ?_⟩
    rw [Int32.toInt_sub, e, Int.bmod_eq_of_le (by omega) (by omega)]
    omega
theorem Rall.c46 {σ σ2 : tI} {τ : tL} (h : Rall σ τ) (hk : ∀ k, k ≠ 46 → σ2 k = σ k) : Rall σ2 τ := by
  obtain ⟨h1, h2, h3, h4, h5, h6, T, n, m, lo, kk, h7⟩ := h
  have g6 := hk 6 (by decide)
  have g30 := hk 30 (by decide)
  have g12 := hk 12 (by decide)
  have g8 := hk 8 (by decide)
  have g49 := hk 49 (by decide)
  exact ⟨h1.fr (fun r _ => by rw [g6]) (fun r _ => by rw [g30]) (hk 44 (by decide)) (hk 45 (by decide)), h2.fr (fun r _ => by rw [g6]) (fun r _ => by rw [g30]) (hk 47 (by decide)) (hk 48 (by decide)), h3.fr (fun k z => hk k (kNe z rfl)), h4.fr (hk 4 (by decide)) (hk 55 (by decide)) (hk 56 (by decide)) (by rw [g6]) (by rw [g30]) (by rw [g12]), h5.fr (fun a _ => by rw [g8]; exact ⟨rfl, rfl⟩) (hk 57 (by decide)) (hk 58 (by decide)) (hk 31 (by decide)) (hk 59 (by decide)) (fun s _ z => by rw [g49]; exact z), h6.fr (hk 11 (by decide)) (hk 42 (by decide)) (hk 43 (by decide)) (by rw [g12]) (by rw [g12]), T, n, m, lo, kk, h7.fr (fun k z => hk k (kNe z rfl)) (fun j _ => by rw [g12]) (fun a j _ _ => by rw [g8])⟩
end L15
