/-! the class's Reading: fields -/
section L66
variable {l : Launch} {σ σ2 : tI} {τ τ2 : tL} {t : Option (Nat × Nat)} {r N p : Nat} {G : Nat → Int32}
theorem x_un {q : Nat} (h : K0 σ r N G) (hB : ∀ j, j < N → isB (G j)) (hq : q < 1000) : am_D l 62 [aR 6 r, aI (nI q)] σ τ (rX t) cX lX (some (aI (nI (ut G N q)))) σ τ (rX t) := by
  obtain ⟨h1, h2, h3, rfl⟩ := h
  have hx := x_unsignedAt (l := l) (τ := τ) (t := t) (i := nI q) h1 (by rw [lX_row h3]; exact h2) (by rw [lX_row h3]; decide)
  have e : (if 0 ≤ nI q ∧ nI q < nI N then σ 30 r (nI q).toNatClampNeg &&& 255 else 0) = nI (ut (σ 30 r) N q) := by
    unfold ut
    by_cases hqN : q < N
    · rw [if_pos hqN, if_pos ⟨nI_pos' (by omega), nI_lt hqN (by omega)⟩, nI_clamp (by omega)]
      exact (ub_ok (hB q hqN)).1
    · rw [if_neg hqN, if_neg (fun z => hqN ((nI_ltI (by omega) (by omega)).mp z.2))]
      rfl
  rw [e] at hx
  exact hx
theorem ut_lt {q : Nat} (hB : ∀ j, j < N → isB (G j)) : ut G N q < 256 := by
  unfold ut
  split
  · exact (ub_ok (hB q (by assumption))).2.1
  · omega
theorem x_width {so : Nat} (h : K0 σ r N G) (hB : ∀ j, j < N → isB (G j)) (hp : p < 900) (hso : so < 4) : am_D l 39 [aR 6 r, aI (nI p), aI (nI so)] σ τ (rX t) cX lX (some (aI (nI (wdN so (ut G N (p + 1)))))) σ τ (rX t) := by
  have hu := x_un (l := l) (τ := τ) (t := t) (q := p + 1) h hB (by omega)
  rw [← nI_1 p] at hu
  unfold wdN
  refine am_D_of am_o39 am_l39 rfl ?_
  refine am_vc_ok am_k39 [] 100 ?_
  refine And.intro (fun z => ?_) (fun z => ?_)
  · have z : so = 1 := nI_inj' (by omega) (by decide) (show nI so = nI 1 from z)
    rw [if_pos z]
    exact am_vI am_k39 am_r39 rfl ⟨rfl, rfl, rfl, rfl, rfl, rfl⟩
  · have z1 : ¬ so = 1 := fun y => z (by rw [y]; rfl)
    rw [if_neg z1]
    refine And.intro (fun z => ?_) (fun z => ?_)
    · have z : so = 2 := nI_inj' (by omega) (by decide) (show nI so = nI 2 from z)
      rw [if_pos z]
      refine am_vO am_k39 am_h39 rfl rfl rfl rfl (hu) ?_
      refine am_vc_ok am_k39 [] 100 ?_
      refine am_vI am_k39 am_r39 rfl ⟨?_, rfl, rfl, rfl, rfl, rfl⟩
      exact congrArg (fun x => some (aI x)) (nI_add 2 _)
    · have z2 : ¬ so = 2 := fun y => z (by rw [y]; rfl)
      rw [if_neg z2]
      exact am_vI am_k39 am_r39 rfl ⟨rfl, rfl, rfl, rfl, rfl, rfl⟩
def chI (S : aSh) (so : Nat) (k : Option Nat) : Int32 := if so = 2 then 10 else if so = 3 then (match k with
  | some q => nI (sCh S q)
  | none => 256) else 256
theorem chI_bd {S : aSh} {so u : Nat} {k : Option Nat} (hS : ShOK S) (hk : ∀ q, k = some q → q < sN S ∧ sSo S q = so) (hu : u < 256) : chI S so k ≤ nI u ↔ bdC S so k u := by
  unfold chI bdC
  by_cases h2 : so = 2
  · rw [if_pos h2, show (10 : Int32) = nI 10 from rfl, nI_leI (by decide) (by omega)]
    constructor
    · intro z; exact Or.inl ⟨h2, by omega⟩
    · rintro (z | z)
      · omega
      · omega
  · rw [if_neg h2]
    have n256 : ¬ (256 : Int32) ≤ nI u := by
      rw [show (256 : Int32) = nI 256 from rfl, nI_leI (by decide) (by omega)]
      omega
    by_cases h3 : so = 3
    · rw [if_pos h3]
      cases k with
      | none =>
        refine ⟨fun z => absurd z n256, ?_⟩
        rintro (z | ⟨-, q, hq, -⟩)
        · exact absurd z.1 h2
        · cases hq
      | some q =>
        obtain ⟨q1, q2⟩ := hk q rfl
        have b := (hS.2.1 q q1).2.2.1 (by omega)
        show nI (sCh S q) ≤ nI u ↔ _
        rw [nI_leI (by omega) (by omega)]
        constructor
        · intro z; exact Or.inr ⟨h3, q, rfl, z⟩
        · rintro (z | ⟨-, q2, hq, z⟩)
          · exact absurd z.1 h2
          · cases hq; exact z
    · rw [if_neg h3]
      refine ⟨fun z => absurd z n256, ?_⟩
      rintro (z | z)
      · exact absurd z.1 h2
      · exact absurd z.1 h3
theorem x_choices {i so : Nat} {k : Option Nat} {S : aSh} (hS : ShOK S) (hX : XItems σ i S) (hk : ∀ q, k = some q → q < sN S) (hso : so < 4) : am_D l 37 [aR 9 i, aI (pI k), aI (nI so)] σ τ (rX t) cX lX (some (aI (chI S so k))) σ τ (rX t) := by
  have s12 := hS.1
  unfold chI
  refine am_D_of am_o37 am_l37 rfl ?_
  refine am_vc_ok am_k37 [] 100 ?_
  refine And.intro (fun z => ?_) (fun z => ?_)
  · have z : so = 2 := nI_inj' (by omega) (by decide) (show nI so = nI 2 from z)
    rw [if_pos z]
    exact am_vI am_k37 am_r37 rfl ⟨rfl, rfl, rfl, rfl, rfl, rfl⟩
  · have z2 : ¬ so = 2 := fun y => z (by rw [y]; rfl)
    rw [if_neg z2]
    refine And.intro (fun z => ?_) (fun z => ?_)
    · have z : so = 3 := nI_inj' (by omega) (by decide) (show nI so = nI 3 from z)
      rw [if_pos z]
      cases k with
      | none =>
        refine And.intro (fun _ => ?_) (fun y => absurd rfl y)
        exact am_vI am_k37 am_r37 rfl ⟨rfl, rfl, rfl, rfl, rfl, rfl⟩
      | some q =>
        have hq := hk q rfl
        refine And.intro (fun y => absurd y (n9_4 (by omega))) (fun _ => ?_)
        refine And.intro (vp_in_nI (N := 12) (by omega) (by decide)) ?_
        rw [show pI (some q) = nI q from rfl, nI_clamp (n := q) (by omega), (hX q hq).2.2.1]
        exact am_vI am_k37 am_r37 rfl ⟨rfl, rfl, rfl, rfl, rfl, rfl⟩
    · have z3 : ¬ so = 3 := fun y => z (by rw [y]; rfl)
      rw [if_neg z3]
      exact am_vI am_k37 am_r37 rfl ⟨rfl, rfl, rfl, rfl, rfl, rfl⟩
theorem x_wrongIn {so : Nat} {c : Int32} (h : K0 σ r N G) (hB : ∀ j, j < N → isB (G j)) (hp : p < 900) (hso : so < 4) : am_D l 38 [aR 6 r, aI (nI p), aI (nI so), aI c] σ τ (rX t) cX lX (some (aI (if c ≤ nI (ut G N (p + 1)) then nI (p + 1) else if N < p + wdN so (ut G N (p + 1)) then nI N else -9))) σ τ (rX t) := by
  have hN := h.2.1
  have hu := x_un (l := l) (τ := τ) (t := t) (q := p + 1) h hB (by omega)
  rw [← nI_1 p] at hu
  have h256 := ut_lt (q := p + 1) hB
  have hw : wdN so (ut G N (p + 1)) < 300 := by
    unfold wdN
    split
    · omega
    · split <;> omega
  refine am_D_of am_o38 am_l38 rfl ?_
  refine am_vc_ok am_k38 [] 100 ?_
  refine am_vO am_k38 am_h38 rfl rfl rfl rfl (hu) ?_
  refine am_vc_ok am_k38 [] 100 ?_
  refine And.intro (fun z => ?_) (fun z => ?_)
  · have z : nI (ut G N (p + 1)) < c := z
    rw [if_neg (Int32.not_le.mpr z)]
    refine am_vS am_k38 am_h38 rfl rfl rfl rfl (x_width h hB hp hso) ?_
    refine am_vc_ok am_k38 [] 100 ?_
    refine And.intro (fun y => ?_) (fun y => ?_)
    · have y : nI p + nI (wdN so (ut G N (p + 1))) ≤ σ 6 r 1 := y
      rw [nI_add, h.1, nI_leI (by omega) (by omega)] at y
      rw [if_neg (by omega)]
      exact am_vI am_k38 am_r38 rfl ⟨rfl, rfl, rfl, rfl, rfl, rfl⟩
    · have y : ¬ nI p + nI (wdN so (ut G N (p + 1))) ≤ σ 6 r 1 := y
      rw [nI_add, h.1, nI_leI (by omega) (by omega)] at y
      rw [if_pos (by omega)]
      refine am_vI am_k38 am_r38 rfl ⟨congrArg (fun x => some (aI x)) h.1, rfl, rfl, rfl, rfl, rfl⟩
  · have z : ¬ nI (ut G N (p + 1)) < c := z
    rw [if_pos (Int32.not_lt.mp z)]
    refine am_vI am_k38 am_r38 rfl ⟨congrArg (fun x => some (aI x)) (nI_1 p), rfl, rfl, rfl, rfl, rfl⟩
/-- only what is read with has changed -/
def rxF (σ s : tI) : Prop := (∀ q, q ≠ 4 → q ≠ 6 → q ≠ 26 → q ≠ 30 → s q = σ q) ∧ (∀ q i, (q = 6 ∨ q = 30) → i ≠ 1 → i ≠ 3 → s q i = σ q i) ∧ ∀ j, j < 7 → s 4 0 j = σ 4 0 j
theorem rxF.refl : rxF σ σ := ⟨fun _ _ _ _ _ => rfl, fun _ _ _ _ _ => rfl, fun _ _ => rfl⟩
theorem rxF.tr {s s2 : tI} (h : rxF σ s) (h2 : rxF s s2) : rxF σ s2 := ⟨fun q a b c d => (h2.1 q a b c d).trans (h.1 q a b c d), fun q i a b c => (h2.2.1 q i a b c).trans (h.2.1 q i a b c), fun j a => (h2.2.2 j a).trans (h.2.2 j a)⟩
theorem rxF.u4 {s : tI} {j : Nat} {v : Int32} (h : rxF σ s) (hj : 7 ≤ j) : rxF σ (u3 s 4 0 j v) := ⟨fun q a b c d => by rw [u3_kk _ _ a]; exact h.1 q a b c d, fun q i a b c => by rw [u3_kk _ _ (by omega)]; exact h.2.1 q i a b c, fun k hk => by rw [u3_j _ _ (by omega)]; exact h.2.2 k hk⟩
theorem rxF.u26 {s : tI} {j : Nat} {v : Int32} (h : rxF σ s) : rxF σ (u3 s 26 0 j v) := ⟨fun q a b c d => by rw [u3_kk _ _ c]; exact h.1 q a b c d, fun q i a b c => by rw [u3_kk _ _ (by omega)]; exact h.2.1 q i a b c, fun k hk => by rw [u3_k _ _ (by decide)]; exact h.2.2 k hk⟩
theorem rxF.u6 {s : tI} {q i j : Nat} {v : Int32} (h : rxF σ s) (hq : q = 6 ∨ q = 30) (hi : i = 1 ∨ i = 3) : rxF σ (u3 s q i j v) := by
  refine ⟨fun k a b c d => by rw [u3_kk _ _ (by omega)]; exact h.1 k a b c d, fun k m a b c => ?_, fun k hk => by rw [u3_k _ _ (by omega)]; exact h.2.2 k hk⟩
  rw [← h.2.1 k m a b c]
  funext x
  rw [u3_i _ _ (by omega)]
def rC (s : tI) (st : rS) : Prop := s 4 0 7 = rRd st ∧ s 4 0 8 = rKp st ∧ (∀ a, a < 16 → bb (rRd st) a = true → s 26 0 a = nI (rVp st a)) ∧ s 6 3 1 = nI (rUn st).1 ∧ ∀ j, j < (rUn st).1 → s 30 3 j = (rUn st).2 j
theorem K0.rx {s : tI} (h : K0 σ r N G) (hr : 4 ≤ r) (hs : rxF σ s) : K0 s r N G := by
  obtain ⟨h1, h2, h3, h4⟩ := h
  exact ⟨by rw [hs.2.1 6 r (Or.inl rfl) (by omega) (by omega)]; exact h1, h2, h3, by rw [hs.2.1 30 r (Or.inr rfl) (by omega) (by omega)]; exact h4⟩
theorem x_tk2 {Q : tQ} {e a : Nat} {st : rS} (h : K0 σ r N G) (hr : 4 ≤ r) (he : e ≤ N) {O : wO} (hQ : ∀ s, rxF σ s → rC s (rRd st, rKp st, rVp st, O) → Q none s τ (rX t) cX lX) : ∀ (d p : Nat) (o : wO) (s : tI), p + d = e → o.1 ≤ p → kpN G d p o = O → rxF σ s → rC s (rRd st, rKp st, rVp st, o) → am_G l 40 Q 0 0 45 [(6, aI (nI p)), (3, aI (nI e)), (0, aR 4 0), (1, aR 6 r)] [] s τ (rX t) cX lX
  | 0, p, o, s, hp, ho, hO, hf, hC => by
    have hN := h.2.1
    obtain rfl : p = e := by omega
    subst hO
    refine am_vc_ok am_k40 [45] 100 ?_
    refine And.intro (fun _ => ?_) (fun z => absurd (nI_le (Nat.le_refl _) (by omega)) z)
    exact am_vV am_k40 am_r40 rfl (hQ s hf hC)
  | d + 1, p, o, s, hp, ho, hO, hf, hC => by
    have hN := h.2.1
    have hK := h.rx hr hf
    have c4 : s 6 3 1 = nI o.1 := hC.2.2.2.1
    have c5 : ∀ j, j < o.1 → s 30 3 j = o.2 j := hC.2.2.2.2
    have K2 := x_tk2 (st := st) (a := a) h hr he hQ d (p + 1) (wps o (G p)) (u3 (u3 s 30 3 o.1 (G p)) 6 3 1 (nI (o.1 + 1))) (by omega) (by show o.1 + 1 ≤ p + 1; omega) hO ((hf.u6 (Or.inr rfl) (Or.inr rfl)).u6 (Or.inl rfl) (Or.inr rfl)) ⟨by rw [u3_k _ _ (by decide), u3_k _ _ (by decide)]; exact hC.1, by rw [u3_k _ _ (by decide), u3_k _ _ (by decide)]; exact hC.2.1, fun a ha hb => by rw [u3_k _ _ (by decide), u3_k _ _ (by decide)]; exact hC.2.2.1 a ha hb, u3_eq _ _ _ _ _, fun j hj => by
      have hj : j < o.1 + 1 := hj
      rw [u3_k _ _ (by decide)]
      show _ = pshF o.2 o.1 (G p) j
      unfold pshF
      by_cases e : j = o.1
      · rw [if_pos e, e, u3_eq]
      · rw [if_neg e, u3_j _ _ e]
        exact c5 j (by omega)⟩
    refine am_vc_ok am_k40 [45] 100 ?_
    refine And.intro (fun z => absurd z (nI_ge (by omega) (by omega))) (fun _ => ?_)
    refine And.intro (by rw [lX_row hK.2.2.1]; exact vp_in_nI (by omega) (by decide)) ?_
    rw [nI_clamp (n := p) (by omega), hK.2.2.2]
    refine am_vO am_k40 am_h40 rfl rfl rfl rfl (x_add (r := 3) c4 (show o.1 < 60 by omega) (by decide)) ?_
    refine am_vc_ok am_k40 [45] 100 ?_
    rw [← nI_1 p] at K2
    exact K2
theorem x_take {e a : Nat} {k : Option Nat} {st : rS} (h : K0 σ r N G) (hr : 4 ≤ r) (hpe : p ≤ e) (he : e ≤ N) (ha : a < 16) (hu : (rUn st).1 ≤ p) (hC : rC σ st) {kv : Int32} (hkv : kv = if k = none then 0 else 1) : am_T l 40 [aR 4 0, aR 6 r, aI (nI p), aI (nI e), aI (nI a), aI kv] σ τ t (fun v s τ2 t2 => v = none ∧ τ2 = τ ∧ t2 = t ∧ rxF σ s ∧ rC s (tkR G st k a p e)) := by
  have hN := h.2.1
  cases k with
  | some q =>
    rw [if_neg (by simp)] at hkv
    subst hkv
    refine am_T_of am_o40 am_l40 rfl ?_
    refine am_vc_ok am_k40 [] 100 ?_
    refine And.intro (fun z => absurd z (by decide)) (fun _ => ?_)
    refine And.intro (vp_in_nI (N := 16) ha (by decide)) ?_
    rw [nI_clamp (n := a) (by omega)]
    refine am_vV am_k40 am_r40 rfl ⟨_, rfl, rfl, rfl, rfl, rfl, rfl, (rxF.refl.u4 (by decide)).u26, ?_⟩
    refine ⟨by rw [u3_k _ _ (by decide), u3_eq, hC.1]; rfl, by rw [u3_k _ _ (by decide), u3_j _ _ (by decide)]; exact hC.2.1, fun b hb h1 => ?_, by rw [u3_k _ _ (by decide), u3_k _ _ (by decide)]; exact hC.2.2.2.1, fun j hj => by rw [u3_k _ _ (by decide), u3_k _ _ (by decide)]; exact hC.2.2.2.2 j hj⟩
    show _ = nI (pshF (rVp st) a (p + 1) b)
    unfold pshF
    by_cases e : b = a
    · rw [if_pos e, e, u3_eq, nI_1]
    · rw [if_neg e, u3_j _ _ e, u3_k _ _ (by decide)]
      refine hC.2.2.1 b hb ?_
      have h1 : bb (rRd st ||| bt a) b = true := h1
      rw [bb_or hb ha, decide_eq_false e, Bool.or_false] at h1
      exact h1
  | none =>
    rw [if_pos rfl] at hkv
    subst hkv
    refine am_T_of am_o40 am_l40 rfl ?_
    refine am_vc_ok am_k40 [45] 100 ?_
    refine And.intro (fun _ => ?_) (fun z => absurd rfl z)
    refine am_Gp (ls2 := [(6, aI (nI p)), (3, aI (nI e)), (0, aR 4 0), (1, aR 6 r)]) [0, 4, 1, 2] rfl ?_
    refine x_tk2 (σ := σ) (a := a) (st := (rRd st, rKp st ||| bt a, rVp st, rUn st)) h hr he (O := kpN G (e - p) p (rUn st)) ?_ (e - p) p (rUn st) _ (by omega) hu rfl (rxF.refl.u4 (by decide)) ⟨by rw [u3_j _ _ (by decide)]; exact hC.1, by rw [u3_eq, hC.2.1], fun b hb h1 => by rw [u3_k _ _ (by decide)]; exact hC.2.2.1 b hb h1, by rw [u3_k _ _ (by decide)]; exact hC.2.2.2.1, fun j hj => by rw [u3_k _ _ (by decide)]; exact hC.2.2.2.2 j hj⟩
    intro s hf hC2
    exact ⟨_, rfl, rfl, rfl, rfl, rfl, rfl, hf, hC2⟩
end L66
