/-! the model's goThrough -/
section L69
variable {l : Launch} {σ σ2 : tI} {τ τ2 : tL} {t : Option (Nat × Nat)} {x N p : Nat} {G : Nat → Int32}
def rmF (σ s : tI) : Prop := (∀ q, q ≠ 12 → q ≠ 52 → q ≠ 53 → q ≠ 54 → s q = σ q) ∧ ∀ j, j ≠ 16 → j ≠ 19 → j ≠ 20 → j ≠ 21 → s 12 0 j = σ 12 0 j
theorem rmF.refl : rmF σ σ := ⟨fun _ _ _ _ _ => rfl, fun _ _ _ _ _ => rfl⟩
theorem rmF.tr {s s2 : tI} (h : rmF σ s) (h2 : rmF s s2) : rmF σ s2 := ⟨fun q a b c d => (h2.1 q a b c d).trans (h.1 q a b c d), fun j a b c d => (h2.2 j a b c d).trans (h.2 j a b c d)⟩
theorem rmF.u {s : tI} {q j : Nat} {v : Int32} (h : rmF σ s) (hq : q = 52 ∨ q = 53 ∨ q = 54) : rmF σ (u3 s q 0 j v) := ⟨fun k a b c d => by rw [u3_kk _ _ (by omega)]; exact h.1 k a b c d, fun k a b c d => by rw [u3_k _ _ (by omega)]; exact h.2 k a b c d⟩
theorem rmF.w {s : tI} {j : Nat} {v : Int32} (h : rmF σ s) (hj : j = 16 ∨ j = 19 ∨ j = 20 ∨ j = 21) : rmF σ (u3 s 12 0 j v) := ⟨fun k a b c d => by rw [u3_kk _ _ a]; exact h.1 k a b c d, fun k a b c d => by rw [u3_j _ _ (by omega)]; exact h.2 k a b c d⟩
def rM (s : tI) (st : rS) : Prop := s 12 0 19 = rRd st ∧ s 12 0 20 = rKp st ∧ (∀ a, a < 16 → bb (rRd st) a = true → s 53 0 a = nI (rVp st a)) ∧ s 12 0 21 = nI (rUn st).1 ∧ ∀ j, j < (rUn st).1 → s 54 0 j = (rUn st).2 j
theorem M0.rm {s : tI} (h : M0 σ x N G) (hs : rmF σ s) : M0 s x N G := h.fr (hs.1 47 (by decide) (by decide) (by decide) (by decide)) (hs.1 48 (by decide) (by decide) (by decide) (by decide))
theorem m_byteAt {q : Nat} (h : M0 σ x N G) (hB : ∀ j, j < N → isB (G j)) (hq : q < N) : am_D l 189 [aR 12 0, aI (nI x), aI (nI q)] σ τ (rX t) cX lX (some (aI (nI (ut G N q)))) σ τ (rX t) := by
  have hN := h.2.1
  have hx := h.2.2.1
  refine am_D_of am_o189 am_l189 rfl ?_
  refine am_vc_ok am_k189 [] 100 ?_
  refine And.intro (by rw [i60]; exact vp_in_nI (N := 360) (by omega) (by decide)) ?_
  rw [i60, nI_clamp (n := 60 * x + q) (by omega), h.2.2.2 q hq]
  refine am_vI am_k189 am_r189 rfl ⟨?_, rfl, rfl, rfl, rfl, rfl⟩
  refine congrArg (fun x => some (aI x)) ?_
  rw [ut, if_pos hq]
  exact (ub_ok (hB q hq)).1
theorem m_itO {sh v a : Nat} {S : aSh} (hsh : sh < 4) (hS : ShOK S) (h49 : σ 49 0 sh = nI (sN S)) (hX : MItems σ sh S) (hv : v < 10) (ha : a < 16) : am_D l 185 [aR 12 0, aI (nI sh), aI (nI v), aI (nI a)] σ τ (rX t) cX lX (some (aI (pI (itO S v a)))) σ τ (rX t) := by
  have h := m_named (l := l) (τ := τ) (t := t) (v := nI v) (a := nI a) hsh h49 hS.1
  have e : lastM (inP (mA σ sh 3) (mA σ sh 4) (mA σ sh 0) (nI v) (nI a)) (sN S) = itO S v a := by
    refine lastM_cg (fun k hk => ?_)
    obtain ⟨b1, b2, b3, b4, b5, b6, b7⟩ := hS.2.1 k hk
    unfold inP
    rw [show mA σ sh 3 k = nI (sSi S k) from hX k 3 hk (by decide), show mA σ sh 4 k = nI (sTi S k) from hX k 4 hk (by decide), show mA σ sh 0 k = nI (sNm S k) from hX k 0 hk (by decide)]
    refine decide_eq_decide.mpr ?_
    rw [nI_leI (by omega) (by omega), nI_leI (by omega) (by omega), nI_eq (by omega) (by omega)]
    exact ⟨fun z => ⟨z.2, z.1⟩, fun z => ⟨z.2, z.1⟩⟩
  rw [e] at h
  exact h
theorem m_kp_lp {Q : tQ} {e a sh v : Nat} {l11 l10 l9 l8 l7 l6 : Int32} {st : rS} (h11 : l11 = 0) (h : M0 σ x N G) (he : e ≤ N) {O : wO} (K : ∀ s q, rmF σ s → rM s (rRd st, rKp st, rVp st, O) → am_G l 190 Q 0 0 336 [(13, aI q), (12, aI (nI e)), (11, aI l11), (10, aI l10), (9, aI l9), (8, aI l8), (7, aI l7), (6, aI l6), (4, aI (nI a)), (5, aI (nI N)), (0, aR 12 0), (1, aI (nI sh)), (2, aI (nI v)), (3, aI (nI x))] [] s τ (rX t) cX lX) : ∀ (d q : Nat) (o : wO) (s : tI), q + d = e → o.1 ≤ q → kpN G d q o = O → rmF σ s → rM s (rRd st, rKp st, rVp st, o) → am_G l 190 Q 0 0 287 [(13, aI (nI q)), (12, aI (nI e)), (11, aI l11), (10, aI l10), (9, aI l9), (8, aI l8), (7, aI l7), (6, aI l6), (4, aI (nI a)), (5, aI (nI N)), (0, aR 12 0), (1, aI (nI sh)), (2, aI (nI v)), (3, aI (nI x))] [] s τ (rX t) cX lX
  | 0, q, o, s, hq, ho, hO, hf, hC => by
    have hN := h.2.1
    obtain rfl : q = e := by omega
    subst hO
    refine am_vc_ok am_k190 [287, 336] 100 ?_
    exact And.intro (fun _ => K s _ hf hC) (fun z => absurd (nI_le (Nat.le_refl _) (by omega)) z)
  | d + 1, q, o, s, hq, ho, hO, hf, hC => by
    have hN := h.2.1
    have hx := h.2.2.1
    have hM := h.rm hf
    have c4 : s 12 0 21 = nI o.1 := hC.2.2.2.1
    have c5 : ∀ j, j < o.1 → s 54 0 j = o.2 j := hC.2.2.2.2
    have K2 := m_kp_lp (st := st) h11 h he K d (q + 1) (wps o (G q)) (u3 (u3 s 54 0 o.1 (G q)) 12 0 21 (nI (o.1 + 1))) (by omega) (by show o.1 + 1 ≤ q + 1; omega) hO ((hf.u (by decide)).w (by decide)) ⟨by rw [u3_j _ _ (by decide), u3_k _ _ (by decide)]; exact hC.1, by rw [u3_j _ _ (by decide), u3_k _ _ (by decide)]; exact hC.2.1, fun a ha hb => by rw [u3_k _ _ (by decide), u3_k _ _ (by decide)]; exact hC.2.2.1 a ha hb, u3_eq _ _ _ _ _, fun j hj => by
      have hj : j < o.1 + 1 := hj
      rw [u3_k _ _ (by decide)]
      show _ = pshF o.2 o.1 (G q) j
      unfold pshF
      by_cases e : j = o.1
      · rw [if_pos e, e, u3_eq]
      · rw [if_neg e, u3_j _ _ e]
        exact c5 j (by omega)⟩
    refine am_vc_ok am_k190 [287, 336] 100 ?_
    refine And.intro (fun z => absurd z (nI_ge (by omega) (by omega))) (fun _ => ?_)
    refine And.intro (fun _ => ?_) (fun z => absurd h11 z)
    refine And.intro (by rw [i60]; exact vp_in_nI (N := 360) (by omega) (by decide)) ?_
    rw [i60, nI_clamp (n := 60 * x + q) (by omega), hM.2.2.2 q (by omega), c4]
    refine And.intro (vp_in_nI (N := 60) (by omega) (by decide)) ?_
    rw [nI_clamp (n := o.1) (by omega)]
    rw [← nI_1 q] at K2
    exact am_Gs (by rw [u3_k (a := 12) (b := 0) (c := 21) _ _ (show 12 ≠ 54 by decide), c4, nI_1]) (am_Gp [0, 1, 2, 3, 4, 5, 6, 7, 8, 9, 10, 11, 12, 13] rfl K2)
/-- a field is taken -/
theorem m_tk {Q : tQ} {u a so sh v : Nat} {ko : Option Nat} {l10 l6 rv : Int32} {st : rS} {s : tI} (h : M0 σ x N G) (hB : ∀ j, j < N → isB (G j)) (hf : rmF σ s) (hC : rM s st) (hp : p + 1 < N) (hu : ut G N (p + 1) = u) (ha : a < 16) (hso : so < 4) (hun : (rUn st).1 ≤ p) (hrv : rv = if ko = none then 0 else 1) (hna : bb (rRd st) a = false) (hN1 : N < p + wdN so u → ∀ s2, rmF σ s2 → Q (some (aI (nI N))) s2 τ (rX t) cX lX) (K : p + wdN so u ≤ N → ∀ s2, rmF σ s2 → rM s2 (tkR G st ko a p (p + wdN so u)) → am_G l 190 Q 0 0 26 [(4, aI (nI (p + wdN so u))), (5, aI (nI N)), (0, aR 12 0), (1, aI (nI sh)), (2, aI (nI v)), (3, aI (nI x))] [] s2 τ (rX t) cX lX) : am_G l 190 Q 0 0 186 [(11, aI rv), (10, aI l10), (9, aI (nI (p + 1))), (8, aI (nI so)), (7, aI (nI a)), (6, aI l6), (4, aI (nI p)), (5, aI (nI N)), (0, aR 12 0), (1, aI (nI sh)), (2, aI (nI v)), (3, aI (nI x))] [] s τ (rX t) cX lX := by
  have hN := h.2.1
  have hx := h.2.2.1
  have hM := h.rm hf
  have hu256 : u < 256 := by rw [← hu]; exact ut_lt hB
  have hw2 := wdN_2 (so := so) (u := u)
  have hby := m_byteAt (l := l) (τ := τ) (t := t) (q := p + 1) hM hB hp
  rw [hu] at hby
  generalize he : p + wdN so u = e at *
  have go : ∀ w : Int32, nI (p + 1) + w = nI e → am_G l 190 Q 0 0 217 [(11, aI rv), (10, aI l10), (9, aI (nI (p + 1))), (8, aI (nI so)), (7, aI (nI a)), (6, aI l6), (4, aI (nI p)), (5, aI (nI N)), (0, aR 12 0), (1, aI (nI sh)), (2, aI (nI v)), (3, aI (nI x))] [aI w, aI (nI (p + 1))] s τ (rX t) cX lX := by
    intro w hw
    have he2 : e < 1000 := by
      rw [← he]
      unfold wdN
      split
      · omega
      · split <;> omega
    have hle : nI (p + 1) + w ≤ nI N ↔ e ≤ N := by rw [hw, nI_leI (by omega) (by omega)]
    refine am_vc_ok am_k190 [287] 100 ?_
    refine And.intro (fun z => ?_) (fun z => ?_)
    rotate_left
    · have z : ¬ e ≤ N := fun y => z (hle.mpr y)
      exact am_vI am_k190 am_r190 rfl (hN1 (by omega) s hf)
    have z : e ≤ N := hle.mp z
    have K1 := K z
    refine And.intro (vp_in_nI (N := 16) ha (by decide)) ?_
    rw [nI_clamp (n := a) (by omega), hw]
    have hf1 : rmF σ (u3 s 53 0 a (nI (p + 1))) := hf.u (by decide)
    cases ko with
    | some k =>
      rw [if_neg (by simp)] at hrv
      subst hrv
      refine And.intro (fun y => absurd y (by decide)) (fun _ => ?_)
      refine And.intro (fun y => absurd y (by decide)) (fun _ => ?_)
      generalize hs2 : u3 (u3 (u3 s 53 0 a (nI (p + 1))) 12 0 19 (u3 s 53 0 a (nI (p + 1)) 12 0 19 ||| (1 : Int32) <<< (nI a &&& 31))) 12 0 20 (u3 (u3 s 53 0 a (nI (p + 1))) 12 0 19 (u3 s 53 0 a (nI (p + 1)) 12 0 19 ||| (1 : Int32) <<< (nI a &&& 31)) 12 0 20 ||| 0) = s2
      have hf2 : rmF σ s2 := by rw [← hs2]; exact (hf1.w (by decide)).w (by decide)
      have hC2 : rM s2 (tkR G st (some k) a p e) := by
        refine ⟨?_, ?_, fun b hb h1 => ?_, ?_, fun j hj => ?_⟩
        · rw [← hs2, u3_j _ _ (by decide), u3_eq, u3_k _ _ (by decide), hC.1]; rfl
        · rw [← hs2, u3_eq, u3_j _ _ (by decide), u3_k _ _ (by decide), hC.2.1, Int32.or_zero]; rfl
        · show _ = nI (pshF (rVp st) a (p + 1) b)
          rw [← hs2, u3_k _ _ (by decide), u3_k _ _ (by decide)]
          unfold pshF
          by_cases e : b = a
          · rw [if_pos e, e, u3_eq]
          · rw [if_neg e, u3_j _ _ e]
            refine hC.2.2.1 b hb ?_
            have h1 : bb (rRd st ||| bt a) b = true := h1
            rw [bb_or hb ha, decide_eq_false e, Bool.or_false] at h1
            exact h1
        · rw [← hs2, u3_j _ _ (by decide), u3_j _ _ (by decide), u3_k _ _ (by decide)]; exact hC.2.2.2.1
        · rw [← hs2, u3_k _ _ (by decide), u3_k _ _ (by decide), u3_k _ _ (by decide)]; exact hC.2.2.2.2 j hj
      have K2 := K1 s2 hf2 hC2
      have fin : am_G l 190 Q 0 0 287 [(13, aI (nI p)), (12, aI (nI e)), (11, aI 1), (10, aI l10), (9, aI (nI (p + 1))), (8, aI (nI so)), (7, aI (nI a)), (6, aI l6), (4, aI (nI p)), (5, aI (nI N)), (0, aR 12 0), (1, aI (nI sh)), (2, aI (nI v)), (3, aI (nI x))] [] s2 τ (rX t) cX lX := by
        refine am_vc_ok am_k190 [26] 100 ?_
        refine And.intro (fun y => absurd y (nI_ge (by omega) (by omega))) (fun _ => ?_)
        refine And.intro (fun y => absurd y (by decide)) (fun _ => ?_)
        exact am_Gp [0, 9, 10, 11, 12, 13] rfl K2
      exact am_Gs hs2 (am_Gp [0, 1, 2, 3, 4, 5, 6, 7, 8, 9, 10, 11, 12, 13] rfl fin)
    | none =>
      rw [if_pos rfl] at hrv
      subst hrv
      refine And.intro (fun _ => ?_) (fun y => absurd rfl y)
      refine And.intro (fun _ => ?_) (fun y => absurd rfl y)
      generalize hs2 : u3 (u3 (u3 s 53 0 a (nI (p + 1))) 12 0 19 (u3 s 53 0 a (nI (p + 1)) 12 0 19 ||| 0)) 12 0 20 (u3 (u3 s 53 0 a (nI (p + 1))) 12 0 19 (u3 s 53 0 a (nI (p + 1)) 12 0 19 ||| 0) 12 0 20 ||| (1 : Int32) <<< (nI a &&& 31)) = s2
      have hf2 : rmF σ s2 := by rw [← hs2]; exact (hf1.w (by decide)).w (by decide)
      have hC2 : rM s2 (rRd st, rKp st ||| bt a, rVp st, rUn st) := by
        refine ⟨?_, ?_, fun b hb h1 => ?_, ?_, fun j hj => ?_⟩
        · rw [← hs2, u3_j _ _ (by decide), u3_eq, u3_k _ _ (by decide), hC.1, Int32.or_zero]
        · rw [← hs2, u3_eq, u3_j _ _ (by decide), u3_k _ _ (by decide), hC.2.1]
        · rw [← hs2, u3_k _ _ (by decide), u3_k _ _ (by decide)]
          have e : b ≠ a := by
            rintro rfl
            have h1 : bb (rRd st) b = true := h1
            rw [hna] at h1
            cases h1
          rw [u3_j _ _ e]
          exact hC.2.2.1 b hb h1
        · rw [← hs2, u3_j _ _ (by decide), u3_j _ _ (by decide), u3_k _ _ (by decide)]; exact hC.2.2.2.1
        · rw [← hs2, u3_k _ _ (by decide), u3_k _ _ (by decide), u3_k _ _ (by decide)]; exact hC.2.2.2.2 j hj
      refine am_Gs hs2 ?_
      refine am_Gp (ls2 := [(13, aI (nI p)), (12, aI (nI e)), (11, aI 0), (10, aI l10), (9, aI (nI (p + 1))), (8, aI (nI so)), (7, aI (nI a)), (6, aI l6), (4, aI (nI p)), (5, aI (nI N)), (0, aR 12 0), (1, aI (nI sh)), (2, aI (nI v)), (3, aI (nI x))]) [0, 1, 2, 3, 4, 5, 6, 7, 8, 9, 10, 11, 12, 13] rfl ?_
      refine m_kp_lp (σ := σ) (st := (rRd st, rKp st ||| bt a, rVp st, rUn st)) rfl h z (O := kpN G (e - p) p (rUn st)) (fun s3 q hf3 hC3 => ?_) (e - p) p (rUn st) s2 (by omega) hun rfl hf2 hC2
      have K2 := K1 s3 hf3 hC3
      refine am_vc_ok am_k190 [26] 100 ?_
      exact am_Gp [0, 9, 10, 11, 12, 13] rfl K2
  unfold wdN at he
  refine am_vc_ok am_k190 [217] 100 ?_
  refine And.intro (fun z => ?_) (fun z => ?_)
  · have z : so = 1 := nI_inj' (by omega) (by decide) (show nI so = nI 1 from z)
    rw [if_pos z] at he
    exact go 2 (by rw [show (2 : Int32) = nI 2 from rfl, nI_add, ← he])
  have z1 : ¬ so = 1 := fun y => z (by rw [y]; rfl)
  rw [if_neg z1] at he
  refine And.intro (fun z => ?_) (fun z => ?_)
  · have z : so = 2 := nI_inj' (by omega) (by decide) (show nI so = nI 2 from z)
    rw [if_pos z] at he
    refine am_vO am_k190 am_h190 rfl rfl rfl rfl (hby) ?_
    refine am_vc_ok am_k190 [217] 100 ?_
    exact go _ (by rw [show (1 : Int32) = nI 1 from rfl, nI_add, nI_add, ← he]; congr 1; omega)
  · have z2 : ¬ so = 2 := fun y => z (by rw [y]; rfl)
    rw [if_neg z2] at he
    exact go 1 (by rw [nI_1, ← he])
end L69
