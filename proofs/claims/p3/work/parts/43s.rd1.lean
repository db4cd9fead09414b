/-! reading: bits, bytes, one pure reader -/
section L64
/-- the bit of name a -/
def bb (x : Int32) (a : Nat) : Bool := x.toBitVec.getLsbD a
theorem sh_n : ∀ a, a < 16 → ((nI a &&& 31).toBitVec.smod 32).toNat = a := by decide +kernel
theorem bt_bv : ∀ a, a < 16 → (bt a).toBitVec = BitVec.twoPow 32 a := by decide +kernel
theorem bb_x {x : Int32} {a : Nat} (ha : a < 16) : x &&& bt a = 0 ↔ bb x a = false := by
  unfold bb
  rw [← Int32.toBitVec_inj, Int32.toBitVec_and, bt_bv a ha, BitVec.and_twoPow]
  cases h : x.toBitVec.getLsbD a with
  | false => exact ⟨fun _ => rfl, fun _ => rfl⟩
  | true =>
    refine ⟨fun e => ?_, fun e => by cases e⟩
    have e2 : bt a = 0 := by
      rw [← Int32.toBitVec_inj, bt_bv a ha]
      exact e
    exact absurd e2 (bt_ne ha)
theorem bb_m {x : Int32} {a : Nat} (ha : a < 16) : (x >>> (nI a &&& 31)) &&& 1 = 1 ↔ bb x a = true := by
  unfold bb
  rw [← Int32.toBitVec_inj, Int32.toBitVec_and, Int32.toBitVec_shiftRight]
  show (x.toBitVec.sshiftRight ((nI a &&& 31).toBitVec.smod 32).toNat) &&& 1#32 = 1#32 ↔ _
  rw [sh_n a ha, BitVec.and_one_eq_setWidth_ofBool_getLsbD, BitVec.getLsbD_sshiftRight]
  have h1 : a + 0 < 32 := by omega
  simp only [h1, if_true]
  cases x.toBitVec.getLsbD (a + 0) <;> simp
theorem bb_or {x : Int32} {a b : Nat} (ha : a < 16) (hb : b < 16) : bb (x ||| bt b) a = (bb x a || decide (a = b)) := by
  unfold bb
  rw [Int32.toBitVec_or, BitVec.getLsbD_or, bt_bv b hb, BitVec.getLsbD_twoPow]
  have h1 : (decide (b < 32)) = true := by simp; omega
  rw [h1, Bool.true_and]
  by_cases e : a = b
  · simp [e]
  · have e2 : ¬ b = a := fun z => e z.symm
    simp [e, e2]
theorem bb_or2 {x y : Int32} {a : Nat} : bb (x ||| y) a = (bb x a || bb y a) := by
  unfold bb
  rw [Int32.toBitVec_or, BitVec.getLsbD_or]
theorem bb_0 {a : Nat} : bb 0 a = false := by
  unfold bb
  exact BitVec.getLsbD_zero
/-- a byte without its sign -/
def ub (x : Int32) : Nat := (x &&& 255).toNatClampNeg
theorem ub_all : ∀ k, k < 256 → (nI k - 128) &&& 255 = nI (ub (nI k - 128)) ∧ ub (nI k - 128) < 256 ∧ ((¬ (nI k - 128 < 0) ∧ nI k - 128 < 64) ↔ ub (nI k - 128) < 64) ∧ (ub (nI k - 128) < 64 → nI k - 128 = nI (ub (nI k - 128))) := by decide +kernel
theorem isB_k {x : Int32} (h : isB x) : ∃ k, k < 256 ∧ x = nI k - 128 := by
  obtain ⟨h1, h2⟩ := h
  rw [i_le] at h1 h2
  have e1 : (-128 : Int32).toInt = -128 := by decide
  have e2 : (127 : Int32).toInt = 127 := by decide
  have e3 : (128 : Int32).toInt = 128 := by decide
  rw [e1] at h1
  rw [e2] at h2
  refine ⟨(x.toInt + 128).toNat, by omega, ?_⟩
  apply Int32.toInt_inj.mp
  rw [Int32.toInt_sub, nI_toInt (by omega), e3, Int.bmod_eq_of_le (by omega) (by omega)]
  omega
theorem ub_ok {x : Int32} (h : isB x) : x &&& 255 = nI (ub x) ∧ ub x < 256 ∧ ((¬ (x < 0) ∧ x < 64) ↔ ub x < 64) ∧ (ub x < 64 → x = nI (ub x)) := by
  obtain ⟨k, hk, rfl⟩ := isB_k h
  exact ub_all k hk
theorem d16 : ∀ k, k < 256 → nI k / 16 = nI (k / 16) ∧ nI k - nI k / 16 * 16 = nI (k % 16) := by decide +kernel
end L64
