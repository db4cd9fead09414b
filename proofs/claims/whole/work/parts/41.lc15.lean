/-! copy: the arithmetic -/
section L15
theorem span_iff {f k : Int32} {n : Nat} (hk : 0 ≤ k) (hn : n ≤ 60) : (0 ≤ f ∧ f ≤ nI n ∧ k ≤ nI n - f) ↔ (¬ f < 0 ∧ f.toInt64 + k.toInt64 ≤ (nI n).toInt64) := by
  have e : (nI n).toInt = n := nI_toInt (by omega)
  have f1 := Int32.le_toInt f
  have f2 := Int32.toInt_lt f
  have k1 := Int32.le_toInt k
  have k2 := Int32.toInt_lt k
  have z : (0 : Int32).toInt = 0 := rfl
  rw [Int32.le_iff_toInt_le, z] at hk
  have s64 : (f.toInt64 + k.toInt64).toInt = f.toInt + k.toInt := by
    rw [Int64.toInt_add, Int32.toInt_toInt64, Int32.toInt_toInt64]
    exact Int.bmod_eq_of_le (by omega) (by omega)
  rw [Int32.not_lt, Int64.le_iff_toInt_le, s64, Int32.toInt_toInt64, Int32.le_iff_toInt_le, Int32.le_iff_toInt_le, Int32.le_iff_toInt_le, e, z]
  constructor
  · rintro ⟨a, b, c⟩
    rw [Int32.toInt_sub, e, Int.bmod_eq_of_le (by omega) (by omega)] at c
    exact ⟨a, by omega⟩
  · rintro ⟨a, b⟩
    refine ⟨a, by omega, ?_⟩
    rw [Int32.toInt_sub, e, Int.bmod_eq_of_le (by omega) (by omega)]
    omega
end L15
