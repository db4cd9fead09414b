/-! one pure reader -/
section L65
/-- bytes of a text; behind its end 0 -/
def ut (G : Nat → Int32) (N p : Nat) : Nat := if p < N then ub (G p) else 0
/-- the item of a version with a name -/
def itO (S : aSh) (v a : Nat) : Option Nat := lastM (fun k => decide (sNm S k = a ∧ sSi S k ≤ v ∧ v ≤ sTi S k)) (sN S)
def lkO (S : aSh) (v a so : Nat) : Option Nat := match itO S v a with
  | none => none
  | some k => if sSo S k = so then some k else none
theorem itO_s {S : aSh} {v a k : Nat} (h : itO S v a = some k) : k < sN S ∧ sNm S k = a ∧ sSi S k ≤ v ∧ v ≤ sTi S k := by
  obtain ⟨h1, h2⟩ := lastM_some h
  exact ⟨h1, of_decide_eq_true h2⟩
theorem itO_u {S : aSh} {v k : Nat} (hS : ShOK S) (hk : k < sN S) (h1 : sSi S k ≤ v) (h2 : v ≤ sTi S k) : itO S v (sNm S k) = some k := by
  cases e : itO S v (sNm S k) with
  | none => exact absurd (decide_eq_true ⟨rfl, h1, h2⟩) (lastM_none e k hk)
  | some q =>
    obtain ⟨g1, g2, g3, g4⟩ := itO_s e
    by_cases eq : q = k
    · rw [eq]
    · have := hS.2.2 q k g1 hk eq g2
      omega
theorem lkO_s {S : aSh} {v a so k : Nat} (h : lkO S v a so = some k) : itO S v a = some k ∧ sSo S k = so := by
  unfold lkO at h
  split at h
  · cases h
  · split at h
    · rename_i h2
      cases h
      exact ⟨by assumption, h2⟩
    · cases h
abbrev rS : Type := Int32 × Int32 × (Nat → Nat) × wO
abbrev rRd (s : rS) : Int32 := s.1
abbrev rKp (s : rS) : Int32 := s.2.1
abbrev rVp (s : rS) : Nat → Nat := s.2.2.1
abbrev rUn (s : rS) : wO := s.2.2.2
/-- bytes p .. are kept -/
def kpN (G : Nat → Int32) : Nat → Nat → wO → wO
  | 0, _, o => o
  | d + 1, p, o => kpN G d (p + 1) (wps o (G p))
theorem kpN_len {G : Nat → Int32} : ∀ (d p : Nat) (o : wO), (kpN G d p o).1 = o.1 + d
  | 0, _, o => rfl
  | d + 1, p, o => by
    rw [kpN, kpN_len d (p + 1) (wps o (G p))]
    show o.1 + 1 + d = _
    omega
def wdN (so u : Nat) : Nat := if so = 1 then 3 else if so = 2 then 2 + u else 2
/-- a number that is none -/
def bdC (S : aSh) (so : Nat) (k : Option Nat) (u : Nat) : Prop := (so = 2 ∧ 9 < u) ∨ (so = 3 ∧ ∃ q, k = some q ∧ sCh S q ≤ u)
def tkR (G : Nat → Int32) (st : rS) (k : Option Nat) (a p e : Nat) : rS := match k with
  | some _ => (rRd st ||| bt a, rKp st, pshF (rVp st) a (p + 1), rUn st)
  | none => (rRd st, rKp st ||| bt a, rVp st, kpN G (e - p) p (rUn st))
/-- a field from p on -/
noncomputable def fdR (S : aSh) (v : Nat) (G : Nat → Int32) (N : Nat) (st : rS) (p : Nat) : Nat ⊕ (rS × Nat) :=
  if ¬ ut G N p < 64 ∨ bb (rRd st ||| rKp st) (ut G N p % 16) = true then .inl p else
  @ite _ (bdC S (ut G N p / 16) (lkO S v (ut G N p % 16) (ut G N p / 16)) (ut G N (p + 1))) (Classical.propDecidable _) (.inl (p + 1)) (
  if N < p + wdN (ut G N p / 16) (ut G N (p + 1)) then .inl N else .inr (tkR G st (lkO S v (ut G N p % 16) (ut G N p / 16)) (ut G N p % 16) p (p + wdN (ut G N p / 16) (ut G N (p + 1))), p + wdN (ut G N p / 16) (ut G N (p + 1))))
/-- a needed field did not come -/
def lkN (S : aSh) (v : Nat) (rd : Int32) (n : Nat) : Prop := ∃ i, i < n ∧ (sSi S i ≤ v ∧ v ≤ sTi S i) ∧ sPr S i = none ∧ bb rd (sNm S i) = false
theorem lkN_s {S : aSh} {v n : Nat} {rd : Int32} : lkN S v rd (n + 1) ↔ lkN S v rd n ∨ ((sSi S n ≤ v ∧ v ≤ sTi S n) ∧ sPr S n = none ∧ bb rd (sNm S n) = false) := by
  constructor
  · rintro ⟨i, hi, h⟩
    by_cases e : i = n
    · rw [e] at h; exact Or.inr h
    · exact Or.inl ⟨i, by omega, h⟩
  · rintro (⟨i, hi, h⟩ | h)
    · exact ⟨i, by omega, h⟩
    · exact ⟨n, by omega, h⟩
noncomputable def rdP (S : aSh) (v : Nat) (G : Nat → Int32) (N : Nat) : Nat → rS → Nat → Nat ⊕ rS
  | 0, st, _ => .inr st
  | d + 1, st, p => if N ≤ p then @ite _ (lkN S v (rRd st) (sN S)) (Classical.propDecidable _) (.inl N) (.inr st) else match fdR S v G N st p with
    | .inl q => .inl q
    | .inr (st2, q) => rdP S v G N d st2 q
theorem wdN_2 {so u : Nat} : 2 ≤ wdN so u := by
  unfold wdN
  split
  · omega
  · split <;> omega
theorem fdR_p {S : aSh} {v N p q : Nat} {G : Nat → Int32} {st st2 : rS} (h : fdR S v G N st p = .inr (st2, q)) : ¬ (¬ ut G N p < 64 ∨ bb (rRd st ||| rKp st) (ut G N p % 16) = true) ∧ ¬ bdC S (ut G N p / 16) (lkO S v (ut G N p % 16) (ut G N p / 16)) (ut G N (p + 1)) ∧ q = p + wdN (ut G N p / 16) (ut G N (p + 1)) ∧ q ≤ N ∧ st2 = tkR G st (lkO S v (ut G N p % 16) (ut G N p / 16)) (ut G N p % 16) p q := by
  unfold fdR at h
  by_cases h1 : ¬ ut G N p < 64 ∨ bb (rRd st ||| rKp st) (ut G N p % 16) = true
  · rw [if_pos h1] at h; cases h
  rw [if_neg h1] at h
  by_cases h2 : bdC S (ut G N p / 16) (lkO S v (ut G N p % 16) (ut G N p / 16)) (ut G N (p + 1))
  · rw [if_pos h2] at h; cases h
  rw [if_neg h2] at h
  by_cases h3 : N < p + wdN (ut G N p / 16) (ut G N (p + 1))
  · rw [if_pos h3] at h; cases h
  rw [if_neg h3] at h
  cases h
  exact ⟨h1, h2, rfl, by omega, rfl⟩
theorem fdR_f {S : aSh} {v N p q : Nat} {G : Nat → Int32} {st : rS} (hp : p < N) (h : fdR S v G N st p = .inl q) : q ≤ N := by
  unfold fdR at h
  by_cases h1 : ¬ ut G N p < 64 ∨ bb (rRd st ||| rKp st) (ut G N p % 16) = true
  · rw [if_pos h1] at h; cases h; omega
  rw [if_neg h1] at h
  by_cases h2 : bdC S (ut G N p / 16) (lkO S v (ut G N p % 16) (ut G N p / 16)) (ut G N (p + 1))
  · rw [if_pos h2] at h; cases h; omega
  rw [if_neg h2] at h
  by_cases h3 : N < p + wdN (ut G N p / 16) (ut G N (p + 1))
  · rw [if_pos h3] at h; cases h; exact Nat.le_refl _
  rw [if_neg h3] at h
  cases h
theorem rdP_st {S : aSh} {v N : Nat} {G : Nat → Int32} : ∀ (n m : Nat) (st : rS) (p : Nat), N < p + n → N < p + m → 1 ≤ n → 1 ≤ m → rdP S v G N n st p = rdP S v G N m st p
  | 0, _, _, _, _, _, h, _ => absurd h (by omega)
  | _, 0, _, _, _, _, _, h => absurd h (by omega)
  | n + 1, m + 1, st, p, h1, h2, _, _ => by
    unfold rdP
    split
    · rfl
    · split
      · rfl
      · rename_i e
        have := fdR_p e
        have w := wdN_2 (so := ut G N p / 16) (u := ut G N (p + 1))
        exact rdP_st n m _ _ (by omega) (by omega) (by omega) (by omega)
noncomputable def rdA (S : aSh) (v : Nat) (G : Nat → Int32) (N : Nat) (st : rS) (p : Nat) : Nat ⊕ rS := rdP S v G N (N + 1) st p
theorem rdA_end {S : aSh} {v N p : Nat} {G : Nat → Int32} {st : rS} (h : N ≤ p) : (lkN S v (rRd st) (sN S) → rdA S v G N st p = .inl N) ∧ (¬ lkN S v (rRd st) (sN S) → rdA S v G N st p = .inr st) := by
  unfold rdA rdP
  rw [if_pos h]
  exact ⟨fun z => if_pos z, fun z => if_neg z⟩
theorem rdA_no {S : aSh} {v N p q : Nat} {G : Nat → Int32} {st : rS} (h : p < N) (e : fdR S v G N st p = .inl q) : rdA S v G N st p = .inl q := by
  unfold rdA rdP
  rw [if_neg (by omega), e]
theorem rdA_st {S : aSh} {v N p q : Nat} {G : Nat → Int32} {st st2 : rS} (h : p < N) (e : fdR S v G N st p = .inr (st2, q)) : rdA S v G N st p = rdA S v G N st2 q := by
  show rdP S v G N (N + 1) st p = rdP S v G N (N + 1) st2 q
  rw [rdP, if_neg (by omega), e]
  have := fdR_p e
  have w := wdN_2 (so := ut G N p / 16) (u := ut G N (p + 1))
  exact rdP_st _ _ _ _ (by omega) (by omega) (by omega) (by omega)
/-- what has come stands in the text -/
def rIn (S : aSh) (v : Nat) (G : Nat → Int32) (N : Nat) (st : rS) (p : Nat) : Prop := (∀ a, a < 16 → bb (rRd st) a = true → ∃ k, itO S v a = some k ∧ 1 ≤ rVp st a ∧ rVp st a < N ∧ (sSo S k = 1 → rVp st a + 1 < N) ∧ (sSo S k = 2 → ut G N (rVp st a) ≤ 9 ∧ rVp st a + ut G N (rVp st a) < N)) ∧ (rUn st).1 ≤ p ∧ ∀ j, j < (rUn st).1 → isB ((rUn st).2 j)
theorem kpN_B {G : Nat → Int32} {N : Nat} (hB : ∀ j, j < N → isB (G j)) : ∀ (d p : Nat) (o : wO), p + d ≤ N → wOB o → wOB (kpN G d p o)
  | 0, _, o, _, h => h
  | d + 1, p, o, hp, h => kpN_B hB d (p + 1) _ (by omega) (h.ps (hB p (by omega)))
theorem rIn.st {S : aSh} {v N p q : Nat} {G : Nat → Int32} {st st2 : rS} (hB : ∀ j, j < N → isB (G j)) (h : rIn S v G N st p) (hp : p < N) (e : fdR S v G N st p = .inr (st2, q)) : rIn S v G N st2 q := by
  obtain ⟨h1, h2, h3, h4, rfl⟩ := fdR_p e
  have w := wdN_2 (so := ut G N p / 16) (u := ut G N (p + 1))
  obtain ⟨g1, g2, g3⟩ := h
  have ha16 : ut G N p % 16 < 16 := Nat.mod_lt _ (by decide)
  cases ek : lkO S v (ut G N p % 16) (ut G N p / 16) with
  | none =>
    refine ⟨fun a ha hb => g1 a ha hb, ?_, ?_⟩
    · show (kpN G (q - p) p (rUn st)).1 ≤ q
      rw [kpN_len]
      omega
    · exact kpN_B hB (q - p) p _ (by omega) g3
  | some k =>
    obtain ⟨e1, e2⟩ := lkO_s ek
    refine ⟨fun a ha hb => ?_, by show (rUn st).1 ≤ q; omega, g3⟩
    have hb : bb (rRd st ||| bt (ut G N p % 16)) a = true := hb
    show ∃ k, itO S v a = some k ∧ 1 ≤ pshF (rVp st) (ut G N p % 16) (p + 1) a ∧ pshF (rVp st) (ut G N p % 16) (p + 1) a < N ∧ (sSo S k = 1 → pshF (rVp st) (ut G N p % 16) (p + 1) a + 1 < N) ∧ (sSo S k = 2 → ut G N (pshF (rVp st) (ut G N p % 16) (p + 1) a) ≤ 9 ∧ pshF (rVp st) (ut G N p % 16) (p + 1) a + ut G N (pshF (rVp st) (ut G N p % 16) (p + 1) a) < N)
    by_cases ea : a = ut G N p % 16
    · rw [show pshF (rVp st) (ut G N p % 16) (p + 1) a = p + 1 from if_pos ea, ea]
      refine ⟨k, e1, by omega, by omega, fun z => ?_, fun z => ?_⟩
      · rw [e2] at z
        unfold wdN at h3
        rw [if_pos z] at h3
        omega
      · rw [e2] at z
        unfold wdN at h3
        rw [if_neg (by omega), if_pos z] at h3
        exact ⟨Nat.le_of_not_lt (fun y => h2 (Or.inl ⟨z, y⟩)), by omega⟩
    · rw [show pshF (rVp st) (ut G N p % 16) (p + 1) a = rVp st a from if_neg ea]
      refine g1 a ha ?_
      rw [bb_or ha ha16, decide_eq_false ea, Bool.or_false] at hb
      exact hb
theorem rdP_in {S : aSh} {v N : Nat} {G : Nat → Int32} (hB : ∀ j, j < N → isB (G j)) : ∀ (d p : Nat) (st st2 : rS), N < p + d → p ≤ N → rIn S v G N st p → rdP S v G N d st p = .inr st2 → rIn S v G N st2 N
  | 0, p, st, st2, h, hp, hI, e => absurd h (by omega)
  | d + 1, p, st, st2, h, hp, hI, e => by
    unfold rdP at e
    split at e
    · by_cases hl : lkN S v (rRd st) (sN S)
      · rw [if_pos hl] at e; cases e
      · rw [if_neg hl] at e
        cases e
        exact ⟨hI.1, Nat.le_trans hI.2.1 hp, hI.2.2⟩
    · split at e
      · cases e
      · rename_i e2
        have := fdR_p e2
        have w := wdN_2 (so := ut G N p / 16) (u := ut G N (p + 1))
        exact rdP_in hB d _ _ _ (by omega) (by omega) (hI.st hB (by omega) e2) e
theorem rdP_f {S : aSh} {v N : Nat} {G : Nat → Int32} : ∀ (d p q : Nat) (st : rS), rdP S v G N d st p = .inl q → q ≤ N
  | 0, p, q, st, e => by cases e
  | d + 1, p, q, st, e => by
    unfold rdP at e
    split at e
    · by_cases hl : lkN S v (rRd st) (sN S)
      · rw [if_pos hl] at e; cases e; exact Nat.le_refl _
      · rw [if_neg hl] at e; cases e
    · split at e
      · rename_i e2
        cases e
        exact fdR_f (by omega) e2
      · exact rdP_f d _ q _ e
def st0 : rS := (0, 0, fun _ => 0, o0)
theorem st0_in {S : aSh} {v N : Nat} {G : Nat → Int32} : rIn S v G N st0 0 := ⟨(fun a _ h => by
  rw [show rRd st0 = 0 from rfl, bb_0] at h
  cases h), Nat.le_refl _, fun j hj => absurd hj (Nat.not_lt_zero j)⟩
/-- a field's values -/
def vlM (G : Nat → Int32) (N p : Nat) : Nat → Nat → wO → wO
  | 0, _, o => o
  | d + 1, k, o => vlM G N p d (k + 1) (wps o (nI (ut G N (p + k))))
theorem vlM_len {G : Nat → Int32} {N p : Nat} : ∀ (d k : Nat) (o : wO), (vlM G N p d k o).1 = o.1 + d
  | 0, _, o => rfl
  | d + 1, k, o => by
    rw [vlM, vlM_len d (k + 1)]
    show o.1 + 1 + d = _
    omega
def vlF (G : Nat → Int32) (N so p : Nat) (o : wO) : wO := vlM G N p (if so = 2 then ut G N p else 0) 1 (wps o (nI (if so = 1 then 256 * ut G N p + ut G N (p + 1) else ut G N p)))
def dcP (S : aSh) (v : Nat) (G : Nat → Int32) (N : Nat) (st : rS) : Nat → Nat → Int32 → wO → Int32 × wO
  | 0, _, df, o => (df, o)
  | d + 1, i, df, o => if sSi S i ≤ v ∧ v ≤ sTi S i then (if bb (rRd st) (sNm S i) = true then dcP S v G N st d (i + 1) df (vlF G N (sSo S i) (rVp st (sNm S i)) o) else dcP S v G N st d (i + 1) (df ||| bt (sNm S i)) (wps o (pI (sPr S i)))) else dcP S v G N st d (i + 1) df o
end L65
