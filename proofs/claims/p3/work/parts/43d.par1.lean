/-! the language of shapes: one pure reader (nothing of the machine here) -/
section L48
def fgO (v : Int32) : Option Nat := if 48 ≤ v ∧ v ≤ 57 then some (v.toNatClampNeg - 48) else none
def soO (v : Int32) : Option Nat := if v = 66 then some 0 else if v = 83 then some 1 else if v = 82 then some 2 else if v = 67 then some 3 else none
def mkO (v : Int32) : Option Nat := if v = 43 then some 0 else if v = 45 then some 1 else if v = 61 then some 2 else none
def nmO (v : Int32) : Option Nat := if 97 ≤ v ∧ v ≤ 112 then some (v.toNatClampNeg - 97) else none
theorem fgO_s {v : Int32} {d : Nat} (h : fgO v = some d) : d ≤ 9 ∧ v = nI (d + 48) := by
  unfold fgO at h
  split at h
  · rename_i hv
    obtain ⟨j, hj, rfl⟩ := ix_le (k := v) (N := 57) (n := 58) (by decide) ⟨Int32.le_trans (by decide) hv.1, hv.2⟩
    have h1 := hv.1
    rw [show (48 : Int32) = nI 48 from rfl, nI_leI (by decide) (by omega)] at h1
    rw [nI_clamp (by omega)] at h
    cases h
    exact ⟨by omega, by rw [show j - 48 + 48 = j by omega]⟩
  · cases h
theorem fgO_n {v : Int32} (h : fgO v = none) : ¬ (48 ≤ v ∧ v ≤ 57) := by
  unfold fgO at h
  split at h
  · cases h
  · assumption
theorem fgO_r {v : Int32} {d : Nat} (h : fgO v = some d) : 48 ≤ v ∧ v ≤ 57 := by
  unfold fgO at h
  split at h
  · assumption
  · cases h
theorem nmO_s {v : Int32} {d : Nat} (h : nmO v = some d) : d < 16 ∧ v = nI (d + 97) := by
  unfold nmO at h
  split at h
  · rename_i hv
    obtain ⟨j, hj, rfl⟩ := ix_le (k := v) (N := 112) (n := 113) (by decide) ⟨Int32.le_trans (by decide) hv.1, hv.2⟩
    have h1 := hv.1
    rw [show (97 : Int32) = nI 97 from rfl, nI_leI (by decide) (by omega)] at h1
    rw [nI_clamp (by omega)] at h
    cases h
    exact ⟨by omega, by rw [show j - 97 + 97 = j by omega]⟩
  · cases h
theorem nmO_n {v : Int32} (h : nmO v = none) : ¬ (97 ≤ v ∧ v ≤ 112) := by
  unfold nmO at h
  split at h
  · cases h
  · assumption
theorem fgO9 : fgO (-9) = none := by decide
theorem mkO9 : mkO (-9) = none := by decide
theorem soO9 : soO (-9) = none := by decide
theorem nmO9 : nmO (-9) = none := by decide
theorem soO_s {v : Int32} {d : Nat} (h : soO v = some d) : d < 4 ∧ ((d = 0 ∧ v = 66) ∨ (d = 1 ∧ v = 83) ∨ (d = 2 ∧ v = 82) ∨ (d = 3 ∧ v = 67)) := by
  unfold soO at h
  split at h
  · cases h; exact ⟨by decide, Or.inl ⟨rfl, by assumption⟩⟩
  split at h
  · cases h; exact ⟨by decide, Or.inr (Or.inl ⟨rfl, by assumption⟩)⟩
  split at h
  · cases h; exact ⟨by decide, Or.inr (Or.inr (Or.inl ⟨rfl, by assumption⟩))⟩
  split at h
  · cases h; exact ⟨by decide, Or.inr (Or.inr (Or.inr ⟨rfl, by assumption⟩))⟩
  · cases h
theorem soO_n {v : Int32} (h : soO v = none) : ¬ v = 66 ∧ ¬ v = 83 ∧ ¬ v = 82 ∧ ¬ v = 67 := by
  unfold soO at h
  split at h
  · cases h
  split at h
  · cases h
  split at h
  · cases h
  split at h
  · cases h
  · refine ⟨?_, ?_, ?_, ?_⟩ <;> assumption
theorem mkO_s {v : Int32} {d : Nat} (h : mkO v = some d) : d < 3 ∧ ((d = 0 ∧ v = 43) ∨ (d = 1 ∧ v = 45) ∨ (d = 2 ∧ v = 61)) := by
  unfold mkO at h
  split at h
  · cases h; exact ⟨by decide, Or.inl ⟨rfl, by assumption⟩⟩
  split at h
  · cases h; exact ⟨by decide, Or.inr (Or.inl ⟨rfl, by assumption⟩)⟩
  split at h
  · cases h; exact ⟨by decide, Or.inr (Or.inr ⟨rfl, by assumption⟩)⟩
  · cases h
theorem mkO_n {v : Int32} (h : mkO v = none) : ¬ v = 43 ∧ ¬ v = 45 ∧ ¬ v = 61 := by
  unfold mkO at h
  split at h
  · cases h
  split at h
  · cases h
  split at h
  · cases h
  · refine ⟨?_, ?_, ?_⟩ <;> assumption
/-- so many figures at most, from p on -/
def tkF (sg : Nat → Int32) : Nat → Nat → Nat → Nat × Nat
  | 0, a, p => (a, p)
  | k + 1, a, p => match fgO (sg p) with
    | none => (a, p)
    | some d => tkF sg k (10 * a + d) (p + 1)
theorem tkF_n {sg : Nat → Int32} {k a p : Nat} (h : fgO (sg p) = none) : tkF sg k a p = (a, p) := by
  cases k with
  | zero => rfl
  | succ k => unfold tkF; rw [h]
theorem tkF_y {sg : Nat → Int32} {k a p d : Nat} (h : fgO (sg p) = some d) : tkF sg (k + 1) a p = tkF sg k (10 * a + d) (p + 1) := by rw [tkF, h]
theorem tkF_le {sg : Nat → Int32} : ∀ (k a p b : Nat), a < b → (tkF sg k a p).1 < b * 10 ^ k
  | 0, a, p, b, h => by simpa [tkF] using h
  | k + 1, a, p, b, h => by
    cases e : fgO (sg p) with
    | none =>
      rw [tkF_n e]
      exact Nat.lt_of_lt_of_le h (Nat.le_mul_of_pos_right b (Nat.pow_pos (by decide)))
    | some d =>
      rw [tkF_y e]
      have hd := (fgO_s e).1
      have := tkF_le (sg := sg) k (10 * a + d) (p + 1) (b * 10) (by omega)
      rw [Nat.pow_succ, Nat.mul_comm (10 ^ k) 10, ← Nat.mul_assoc]
      exact this
theorem tkF_p {sg : Nat → Int32} : ∀ (k a p : Nat), p ≤ (tkF sg k a p).2
  | 0, _, p => Nat.le_refl p
  | k + 1, a, p => by
    cases e : fgO (sg p) with
    | none => rw [tkF_n e]; exact Nat.le_refl _
    | some d =>
      rw [tkF_y e]
      have := tkF_p (sg := sg) k (10 * a + d) (p + 1)
      omega
theorem tkF_N {sg : Nat → Int32} {N : Nat} (hN : ∀ p, N ≤ p → sg p = -9) : ∀ (k a p : Nat), p ≤ N → (tkF sg k a p).2 ≤ N
  | 0, _, p, h => h
  | k + 1, a, p, h => by
    cases e : fgO (sg p) with
    | none => rw [tkF_n e]; exact h
    | some d =>
      rw [tkF_y e]
      refine tkF_N hN k _ _ ?_
      by_cases hp : N ≤ p
      · rw [hN p hp, fgO9] at e
        cases e
      · omega
abbrev aM : Type := Nat × Nat × Option Nat
def umM (it : aM) (m v : Nat) : aM := if m = 0 then (v, it.2) else if m = 1 then (it.1, v, it.2.2) else (it.1, it.2.1, some v)
abbrev nFig (m : Nat) : Nat := if m = 2 then 3 else 1
/-- the marks of an item -/
def mkP (sg : Nat → Int32) (so : Nat) : Nat → Nat → aM → Nat → Nat ⊕ (aM × Nat)
  | 0, _, _, p => .inl p
  | d + 1, told, it, p => match mkO (sg p) with
    | none => .inr (it, p)
    | some m => if mb told m = true ∨ (m = 2 ∧ so = 2) then .inl p else match fgO (sg (p + 1)) with
      | none => .inl (p + 1)
      | some _ => mkP sg so d (ad told m) (umM it m (tkF sg (nFig m) 0 (p + 1)).1) (tkF sg (nFig m) 0 (p + 1)).2
abbrev aIt : Type := Nat × Nat × Nat × aM
def pshF {α : Type} (f : Nat → α) (n : Nat) (v : α) : Nat → α := fun k => if k = n then v else f k
/-- an item more -/
def psh (S : aSh) (i : aIt) : aSh := (sN S + 1, pshF (sNm S) (sN S) i.1, pshF (sSo S) (sN S) i.2.1, pshF (sCh S) (sN S) i.2.2.1, pshF (sSi S) (sN S) i.2.2.2.1, pshF (sTi S) (sN S) i.2.2.2.2.1, pshF (sPr S) (sN S) i.2.2.2.2.2)
/-- an item may stand behind S -/
def itOK (S : aSh) (i : aIt) : Prop := i.2.2.2.1 ≤ i.2.2.2.2.1 ∧ (∀ d, i.2.2.2.2.2 = some d → (i.2.1 = 0 → d ≤ 255) ∧ (i.2.1 = 3 → d < i.2.2.1)) ∧ ∀ k, k < sN S → sNm S k = i.1 → sTi S k < i.2.2.2.1 ∨ i.2.2.2.2.1 < sSi S k
/-- an item's marks, and whether it stands -/
noncomputable def itE (sg : Nat → Int32) (S : aSh) (nm so ch q0 : Nat) : Nat ⊕ (aIt × Nat) := match mkP sg so 4 0 (0, 9, none) q0 with
  | .inl q => .inl q
  | .inr (it, q) => @ite _ (itOK S (nm, so, ch, it)) (Classical.propDecidable _) (.inr ((nm, so, ch, it), q)) (.inl q)
/-- an item from p on: what comes of it -/
noncomputable def itP (sg : Nat → Int32) (S : aSh) (p : Nat) : Nat ⊕ (aIt × Nat) := match nmO (sg p) with
  | none => .inl p
  | some nm => if sN S = 12 then .inl p else match soO (sg (p + 1)) with
    | none => .inl (p + 1)
    | some so => match (if so = 3 then fgO (sg (p + 2)) else some 1) with
      | none => .inl (p + 2)
      | some c => if c = 0 then .inl (p + 2) else itE sg S nm so (if so = 3 then c else 0) (if so = 3 then p + 3 else p + 2)
/-- the whole from p on -/
noncomputable def pP (sg : Nat → Int32) (N : Nat) : Nat → aSh → Nat → Nat ⊕ aSh
  | 0, S, _ => .inr S
  | n + 1, S, p => if N ≤ p then .inr S else if sg p = 32 then pP sg N n S (p + 1) else match itP sg S p with
    | .inl q => .inl q
    | .inr (i, q) => pP sg N n (psh S i) q
theorem mkP_p {sg : Nat → Int32} {so : Nat} : ∀ (d told : Nat) (it it2 : aM) (p q : Nat), mkP sg so d told it p = .inr (it2, q) → p ≤ q
  | 0, _, _, _, p, q, h => by cases h
  | d + 1, told, it, it2, p, q, h => by
    unfold mkP at h
    split at h
    · cases h; exact Nat.le_refl _
    · rename_i m e
      split at h
      · cases h
      · split at h
        · cases h
        · have h1 := mkP_p d _ _ _ _ _ h
          have h2 := tkF_p (sg := sg) (nFig m) 0 (p + 1)
          omega
theorem itP_p {sg : Nat → Int32} {S : aSh} {p q : Nat} {i : aIt} (h : itP sg S p = .inr (i, q)) : p + 2 ≤ q := by
  unfold itP at h
  split at h
  · cases h
  rename_i nm e1
  split at h
  · cases h
  split at h
  · cases h
  rename_i so e3
  split at h
  · cases h
  rename_i c e4
  split at h
  · cases h
  unfold itE at h
  split at h
  · cases h
  · rename_i it q2 e
    by_cases hok : itOK S (nm, so, (if so = 3 then c else 0), it)
    · rw [if_pos hok] at h
      cases h
      have := mkP_p _ _ _ _ _ _ e
      split at this <;> omega
    · rw [if_neg hok] at h
      cases h
theorem pP_st {sg : Nat → Int32} {N : Nat} : ∀ (n m : Nat) (S : aSh) (p : Nat), N < p + n → N < p + m → pP sg N n S p = pP sg N m S p
  | 0, 0, _, _, _, _ => rfl
  | 0, m + 1, S, p, h, _ => by
    unfold pP
    rw [if_pos (by omega)]
  | n + 1, 0, S, p, _, h => by
    unfold pP
    rw [if_pos (by omega)]
  | n + 1, m + 1, S, p, h1, h2 => by
    unfold pP
    split
    · rfl
    split
    · exact pP_st n m S (p + 1) (by omega) (by omega)
    · split
      · rfl
      · rename_i e
        have := itP_p e
        exact pP_st n m _ _ (by omega) (by omega)
/-- without a count of steps -/
noncomputable def pA (sg : Nat → Int32) (N : Nat) (S : aSh) (p : Nat) : Nat ⊕ aSh := pP sg N (N + 1) S p
theorem pA_end {sg : Nat → Int32} {N p : Nat} {S : aSh} (h : N ≤ p) : pA sg N S p = .inr S := by
  unfold pA pP
  rw [if_pos h]
theorem pA_bl {sg : Nat → Int32} {N p : Nat} {S : aSh} (h : p < N) (hb : sg p = 32) : pA sg N S p = pA sg N S (p + 1) := by
  show pP sg N (N + 1) S p = pP sg N (N + 1) S (p + 1)
  rw [pP, if_neg (by omega), if_pos hb]
  exact pP_st _ _ _ _ (by omega) (by omega)
theorem pA_no {sg : Nat → Int32} {N p q : Nat} {S : aSh} (h : p < N) (hb : ¬ sg p = 32) (hi : itP sg S p = .inl q) : pA sg N S p = .inl q := by
  show pP sg N (N + 1) S p = .inl q
  rw [pP, if_neg (by omega), if_neg hb, hi]
theorem pA_it {sg : Nat → Int32} {N p q : Nat} {S : aSh} {i : aIt} (h : p < N) (hb : ¬ sg p = 32) (hi : itP sg S p = .inr (i, q)) : pA sg N S p = pA sg N (psh S i) q := by
  show pP sg N (N + 1) S p = pP sg N (N + 1) (psh S i) q
  rw [pP, if_neg (by omega), if_neg hb, hi]
  have := itP_p hi
  exact pP_st _ _ _ _ (by omega) (by omega)
end L48
