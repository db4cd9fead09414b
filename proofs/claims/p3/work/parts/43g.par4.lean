/-! the class's Scan: an item, the whole text -/
section L51
variable {l : Launch} {σ σ2 : tI} {τ τ2 : tL} {t : Option (Nat × Nat)} {r N p : Nat} {G : Nat → Int32}
theorem am_wl_cg {ca : Nat → ClassId} {ad : tM} {ρ ρ2 : tR} {ln : tM} {L : List (Nat × Nat)} (h : ∀ q ∈ L, ρ q.1 q.2 = ρ2 q.1 q.2) : am_wl ca ad σ τ ρ ln L = am_wl ca ad σ τ ρ2 ln L := by
  unfold am_wl
  refine List.map_congr_left fun q hq => ?_
  unfold am_ce am_fv
  rw [h q hq]
/-- references of objects that are not there may be anything -/
theorem am_Gr {y : Nat} {Q : tQ} {u w pc : Nat} {ls : am_ls} {st : List am_V} {ρ ρ2 : tR} {cn : tN} {ln : tM} (h : ∀ k i j, i < cn k → ρ k i j = ρ2 k i j) (K : am_G l y Q u w pc ls st σ τ ρ2 cn ln) : am_G l y Q u w pc ls st σ τ ρ cn ln := by
  intro p e s m args below meth cc D ca ad0 L0 A ad L H locs lsA hX hL hY hS hl hVl hV
  obtain ⟨y1, y2, y3, y4⟩ := hY
  have e : am_wl ca ad σ τ ρ ln L = am_wl ca ad σ τ ρ2 ln L := am_wl_cg (fun q hq => funext fun j => h q.1 q.2 j ((y1 q).mp hq))
  rw [e] at y3 y4
  exact K p _ s m args below meth cc D ca ad0 L0 A ad L H locs lsA hX hL ⟨y1, fun k i j q h1 h2 h3 => y2 k i j q h1 h2 ((h k i j h1).trans h3), y3, y4⟩ hS hl hVl hV
theorem rX_ne {v : Option (Nat × Nat)} {k i j : Nat} (h : k ≠ 7) : rX t k i j = rX v k i j := by
  have hb : Nat.beq k 7 = false := by cases hh : Nat.beq k 7 with | false => rfl | true => exact absurd (am_beq hh) h
  unfold rX
  simp only [hb, cond_false]
theorem rX_7 {v : Option (Nat × Nat)} : ∀ {j : Nat}, j ≠ 1 → rX t 7 0 j = rX v 7 0 j
  | 0, _ => rfl
  | 1, h => absurd rfl h
  | _ + 2, _ => rfl
theorem rX_set {v : Option (Nat × Nat)} : ∀ k i j, i < cX k → u3 (rX t) 7 0 1 v k i j = rX v k i j := by
  intro k i j hi
  by_cases hk : k = 7
  · subst hk
    have h1 : cX 7 = 1 := rfl
    obtain rfl : i = 0 := by omega
    by_cases hj : j = 1
    · subst hj
      rw [u3_eq]
      rfl
    · rw [u3_j _ _ hj]
      exact rX_7 hj
  · rw [u3_k _ _ hk]
    exact rX_ne hk
/-- only the scan's own cells have changed -/
def scP (σ s : tI) : Prop := (∀ q, q ≠ 7 → q ≠ 9 → ¬ (32 ≤ q ∧ q ≤ 37) → s q = σ q) ∧ ∀ q i, q ≠ 7 → i ≠ 0 → s q i = σ q i
theorem scP.refl : scP σ σ := ⟨fun _ _ _ _ => rfl, fun _ _ _ _ => rfl⟩
theorem scP.tr {s s2 : tI} (h : scP σ s) (h2 : scP s s2) : scP σ s2 := ⟨fun q a b c => (h2.1 q a b c).trans (h.1 q a b c), fun q i a b => (h2.2 q i a b).trans (h.2 q i a b)⟩
theorem scP.u {s : tI} {q j : Nat} {v : Int32} (h : scP σ s) (hq : q = 7 ∨ q = 9 ∨ (32 ≤ q ∧ q ≤ 37)) : scP σ (u3 s q 0 j v) := by
  refine ⟨fun k a b c => by rw [u3_kk _ _ (by omega)]; exact h.1 k a b c, fun k i a b => ?_⟩
  rw [← h.2 k i a b]
  funext x
  rw [u3_i _ _ b]
theorem mkf.sc {s : tI} {c : Nat} (h : mkf σ s c) : scP σ s := by
  refine ⟨fun q a b c => h.1 q a (by omega) (by omega) (by omega), fun q i a b => ?_⟩
  by_cases hq : 35 ≤ q ∧ q ≤ 37
  · funext x
    exact h.2 q i x (Or.inl b) hq.1 hq.2
  · rw [h.1 q a (by omega) (by omega) (by omega)]
theorem mkP_b {sg : Nat → Int32} {so N : Nat} (hN : ∀ p, N ≤ p → sg p = -9) : ∀ (d told : Nat) (it it2 : aM) (p q : Nat), p ≤ N → mkP sg so d told it p = .inr (it2, q) → (it.1 ≤ 9 ∧ it.2.1 ≤ 9 ∧ ∀ x, it.2.2 = some x → x ≤ 999 ∧ so ≠ 2) → q ≤ N ∧ it2.1 ≤ 9 ∧ it2.2.1 ≤ 9 ∧ ∀ x, it2.2.2 = some x → x ≤ 999 ∧ so ≠ 2
  | 0, _, _, _, p, q, _, h, _ => by cases h
  | d + 1, told, it, it2, p, q, hp, h, hb => by
    unfold mkP at h
    split at h
    · cases h; exact ⟨hp, hb⟩
    · rename_i m e
      split at h
      · cases h
      · rename_i hn
        split at h
        · cases h
        · have hm := (mkO_s e).1
          have hp1 : p < N := by
            apply Nat.lt_of_not_le
            intro z
            rw [hN p z, mkO9] at e
            cases e
          refine mkP_b hN d _ _ _ _ _ (tkF_N hN _ _ _ (by omega)) h ?_
          obtain rfl | rfl | rfl : m = 0 ∨ m = 1 ∨ m = 2 := by omega
          · have := tkF_le (sg := sg) 1 0 (p + 1) 1 (by decide)
            exact ⟨by show (tkF sg 1 0 (p + 1)).1 ≤ 9; omega, hb.2.1, hb.2.2⟩
          · have := tkF_le (sg := sg) 1 0 (p + 1) 1 (by decide)
            exact ⟨hb.1, by show (tkF sg 1 0 (p + 1)).1 ≤ 9; omega, hb.2.2⟩
          · have := tkF_le (sg := sg) 3 0 (p + 1) 1 (by decide)
            refine ⟨hb.1, hb.2.1, fun x hx => ?_⟩
            have hx : (tkF sg 3 0 (p + 1)).1 = x := Option.some.inj hx
            exact ⟨by omega, fun z => hn (Or.inr ⟨rfl, z⟩)⟩
theorem mkP_f {sg : Nat → Int32} {so N : Nat} (hN : ∀ p, N ≤ p → sg p = -9) : ∀ (d told : Nat) (it : aM) (p q : Nat), p ≤ N → mkP sg so d told it p = .inl q → q ≤ N
  | 0, _, _, p, q, hp, h => by cases h; exact hp
  | d + 1, told, it, p, q, hp, h => by
    unfold mkP at h
    split at h
    · cases h
    · rename_i m e
      have hp1 : p < N := by
        apply Nat.lt_of_not_le
        intro z
        rw [hN p z, mkO9] at e
        cases e
      split at h
      · cases h; exact hp
      · split at h
        · cases h; omega
        · exact mkP_f hN d _ _ _ _ (tkF_N hN _ _ _ (by omega)) h
/-- what the reader takes is a good item -/
theorem itP_b {sg : Nat → Int32} {S : aSh} {N p q : Nat} {i : aIt} (hN : ∀ p, N ≤ p → sg p = -9) (h : itP sg S p = .inr (i, q)) : q ≤ N ∧ sN S ≠ 12 ∧ itB i ∧ (i.2.1 = 3 → 1 ≤ i.2.2.1) ∧ (i.2.1 ≠ 3 → i.2.2.1 = 0) ∧ (∀ d, i.2.2.2.2.2 = some d → i.2.1 ≠ 2) ∧ itOK S i := by
  unfold itP at h
  split at h
  · cases h
  rename_i nm e1
  split at h
  · cases h
  rename_i e2
  split at h
  · cases h
  rename_i so e3
  split at h
  · cases h
  rename_i c e4
  split at h
  · cases h
  rename_i e5
  unfold itE at h
  split at h
  · cases h
  · rename_i it q2 e6
    by_cases hok : itOK S (nm, so, (if so = 3 then c else 0), it)
    · rw [if_pos hok] at h
      cases h
      have n1 := nmO_s e1
      have n3 := soO_s e3
      have l1 : p + 1 < N := by
        apply Nat.lt_of_not_le
        intro z
        rw [hN _ z, soO9] at e3
        cases e3
      have l2 : (if so = 3 then p + 3 else p + 2) ≤ N ∧ (so = 3 → 1 ≤ c ∧ c ≤ 9) := by
        by_cases h3 : so = 3
        · rw [if_pos h3] at e4 ⊢
          have l3 : p + 2 < N := by
            apply Nat.lt_of_not_le
            intro z
            rw [hN _ z, fgO9] at e4
            cases e4
          have := (fgO_s e4).1
          exact ⟨by omega, fun _ => ⟨by omega, this⟩⟩
        · rw [if_neg h3]
          exact ⟨by omega, fun z => absurd z h3⟩
      obtain ⟨g1, g2, g3, g4⟩ := mkP_b hN 4 0 (0, 9, none) it _ q l2.1 e6 ⟨by decide, by decide, fun x hx => by cases hx⟩
      refine ⟨g1, e2, ⟨n1.1, n3.1, ?_, g2, g3, fun d hd => (g4 d hd).1⟩, fun z => ?_, fun z => ?_, fun d hd => (g4 d hd).2, hok⟩
      · show (if so = 3 then c else 0) ≤ 9
        split
        · exact (l2.2 (by assumption)).2
        · omega
      · show 1 ≤ (if so = 3 then c else 0)
        have z : so = 3 := z
        rw [if_pos z]
        exact (l2.2 z).1
      · show (if so = 3 then c else 0) = 0
        have z : so ≠ 3 := z
        rw [if_neg z]
    · rw [if_neg hok] at h
      cases h
theorem psh_lt {S : aSh} {i : aIt} {k : Nat} (h : k < sN S) : sNm (psh S i) k = sNm S k ∧ sSo (psh S i) k = sSo S k ∧ sCh (psh S i) k = sCh S k ∧ sSi (psh S i) k = sSi S k ∧ sTi (psh S i) k = sTi S k ∧ sPr (psh S i) k = sPr S k := by
  have e : ¬ k = sN S := by omega
  exact ⟨if_neg e, if_neg e, if_neg e, if_neg e, if_neg e, if_neg e⟩
theorem psh_eq {S : aSh} {i : aIt} : sNm (psh S i) (sN S) = i.1 ∧ sSo (psh S i) (sN S) = i.2.1 ∧ sCh (psh S i) (sN S) = i.2.2.1 ∧ sSi (psh S i) (sN S) = i.2.2.2.1 ∧ sTi (psh S i) (sN S) = i.2.2.2.2.1 ∧ sPr (psh S i) (sN S) = i.2.2.2.2.2 :=
  ⟨if_pos rfl, if_pos rfl, if_pos rfl, if_pos rfl, if_pos rfl, if_pos rfl⟩
theorem psh_ok {S : aSh} {i : aIt} (hS : ShOK S) (h2 : sN S ≠ 12) (h3 : itB i) (h4 : i.2.1 = 3 → 1 ≤ i.2.2.1) (h5 : i.2.1 ≠ 3 → i.2.2.1 = 0) (h6 : ∀ d, i.2.2.2.2.2 = some d → i.2.1 ≠ 2) (h7 : itOK S i) : ShOK (psh S i) := by
  obtain ⟨w1, w2, w3⟩ := hS
  obtain ⟨b1, b2, b3, b4, b5, b6⟩ := h3
  have en : sN (psh S i) = sN S + 1 := rfl
  refine ⟨by omega, fun k hk => ?_, fun k1 k2 hk1 hk2 hne => ?_⟩
  · by_cases e : k = sN S
    · subst e
      obtain ⟨p1, p2, p3, p4, p5, p6⟩ := psh_eq (S := S) (i := i)
      rw [p1, p2, p3, p4, p5, p6]
      exact ⟨b1, b2, fun z => ⟨h4 z, b3⟩, h5, h7.1, b5, fun d hd => ⟨b6 d hd, h6 d hd, (h7.2.1 d hd).1, (h7.2.1 d hd).2⟩⟩
    · obtain ⟨p1, p2, p3, p4, p5, p6⟩ := psh_lt (S := S) (i := i) (k := k) (by omega)
      rw [p1, p2, p3, p4, p5, p6]
      exact w2 k (by omega)
  · obtain ⟨q1, q2, q3, q4, q5, q6⟩ := psh_eq (S := S) (i := i)
    by_cases e1 : k1 = sN S
    · subst e1
      obtain ⟨p1, p2, p3, p4, p5, p6⟩ := psh_lt (S := S) (i := i) (k := k2) (by omega)
      rw [q1, p1, q5, q4, p5, p4]
      intro z
      exact (h7.2.2 k2 (by omega) z.symm).elim Or.inr Or.inl
    · obtain ⟨p1, p2, p3, p4, p5, p6⟩ := psh_lt (S := S) (i := i) (k := k1) (by omega)
      by_cases e2 : k2 = sN S
      · subst e2
        rw [q1, p1, q5, q4, p5, p4]
        intro z
        exact h7.2.2 k1 (by omega) z
      · obtain ⟨o1, o2, o3, o4, o5, o6⟩ := psh_lt (S := S) (i := i) (k := k2) (by omega)
        rw [p1, o1, p5, o4, o5, p4]
        exact w3 k1 k2 (by omega) (by omega) hne
theorem XItems.fr {s : tI} {S : aSh} {i c : Nat} (h : XItems σ i S) (hc : sN S ≤ c) (hs : ∀ q k, 32 ≤ q → q ≤ 37 → k < c → s q i k = σ q i k) : XItems s i S := by
  intro k hk
  rw [hs 32 k (by decide) (by decide) (by omega), hs 33 k (by decide) (by decide) (by omega), hs 34 k (by decide) (by decide) (by omega), hs 35 k (by decide) (by decide) (by omega), hs 36 k (by decide) (by decide) (by omega), hs 37 k (by decide) (by decide) (by omega)]
  exact h k hk
theorem XItems.psh {S : aSh} {i : aIt} (h : XItems σ 0 S) (hi : itI σ (sN S) i) : XItems σ 0 (psh S i) := by
  intro k hk
  have hk : k < sN S + 1 := hk
  by_cases e : k = sN S
  · subst e
    obtain ⟨p1, p2, p3, p4, p5, p6⟩ := psh_eq (S := S) (i := i)
    rw [p1, p2, p3, p4, p5, p6]
    exact ⟨hi.1, hi.2.1, hi.2.2.1, hi.2.2.2.1, hi.2.2.2.2.1, hi.2.2.2.2.2⟩
  · obtain ⟨p1, p2, p3, p4, p5, p6⟩ := psh_lt (S := S) (i := i) (k := k) (by omega)
    rw [p1, p2, p3, p4, p5, p6]
    exact h k (by omega)
def itQ (σ : tI) (S : aSh) (R : Nat ⊕ (aIt × Nat)) (v : Option am_V) (s : tI) : Prop := scP σ s ∧ match R with
  | .inl q => v = some (aI (nI q))
  | .inr (i, q) => v = some (aI (-9)) ∧ s 7 0 2 = nI q ∧ s 9 0 1 = nI (sN S + 1) ∧ XItems s 0 (psh S i)
theorem x_si2 {Q : tQ} {s : tI} {S : aSh} {nm so ch q0 : Nat} {R : Nat ⊕ (aIt × Nat)} (h : K0 σ r N G) (hsc : scP σ s) (hq0 : q0 ≤ N) (h7 : s 7 0 2 = nI q0) (h9 : s 9 0 1 = nI (sN S)) (hS : ShOK S) (hc2 : sN S < 12) (hX : XItems s 0 S) (hnm : nm < 16) (hso : so < 4) (hch : ch ≤ 9) (hR : itE (sgN G N) S nm so ch q0 = R) (hQ : ∀ v s, itQ σ S R v s → Q v s τ (rX (some (6, r))) cX lX) : am_G l 68 Q 0 0 104 [(3, aI (nI ch)), (2, aI (nI so)), (1, aI (nI nm)), (0, aR 7 0)] [] s τ (rX (some (6, r))) cX lX := by
  have hN := h.2.1
  have hK : K0 s r N G := h.fr (hsc.1 6 (by decide) (by decide) (by decide)) (hsc.1 30 (by decide) (by decide) (by decide))
  refine am_vc_ok am_k68 [] 100 ?_
  refine am_vO am_k68 am_h68 rfl rfl rfl rfl (x_begin h9 hc2) ?_
  refine am_vc_ok am_k68 [] 100 ?_
  generalize hs1 : u3 (u3 (u3 (u3 (u3 (u3 s 32 0 (sN S) (nI nm)) 33 0 (sN S) (nI so)) 34 0 (sN S) (nI ch)) 35 0 (sN S) 0) 36 0 (sN S) 9) 37 0 (sN S) (-9) = s1
  have g1 : ∀ q, q ≠ 32 → q ≠ 33 → q ≠ 34 → q ≠ 35 → q ≠ 36 → q ≠ 37 → s1 q = s q := fun q a1 a2 a3 a4 a5 a6 => by rw [← hs1, u3_kk _ _ a6, u3_kk _ _ a5, u3_kk _ _ a4, u3_kk _ _ a3, u3_kk _ _ a2, u3_kk _ _ a1]
  have g9 := g1 9 (by decide) (by decide) (by decide) (by decide) (by decide) (by decide)
  have hsc1 : scP σ s1 := by
    rw [← hs1]
    exact (((((hsc.u (by decide)).u (by decide)).u (by decide)).u (by decide)).u (by decide)).u (by decide)
  have gX : XItems s1 0 S := hX.fr (Nat.le_refl _) (fun q k a b hk => by
    have e : k ≠ sN S := by omega
    rw [← hs1, u3_j _ _ e, u3_j _ _ e, u3_j _ _ e, u3_j _ _ e, u3_j _ _ e, u3_j _ _ e])
  have gI : itI s1 (sN S) (nm, so, ch, 0, 9, none) := by
    rw [← hs1]
    refine ⟨?_, ?_, ?_, ?_, ?_, ?_⟩
    · simp [u3]
    · simp [u3]
    · simp [u3]
    · show _ = nI 0; simp [u3]; rfl
    · show _ = nI 9; simp [u3]; rfl
    · show _ = pI none; simp [u3]; rfl
  have hK1 : K0 s1 r N G := hK.fr (g1 6 (by decide) (by decide) (by decide) (by decide) (by decide) (by decide)) (g1 30 (by decide) (by decide) (by decide) (by decide) (by decide) (by decide))
  refine am_vOT am_k68 am_h68 rfl rfl rfl rfl (x_marks hso hK1 (by rw [g1 7 (by decide) (by decide) (by decide) (by decide) (by decide) (by decide)]; exact h7) hq0 (by rw [g9]; exact h9) hc2 gI.2.2.2) ?_
  rintro v s2 τ2 t2 ⟨rfl, rfl, hM⟩
  obtain ⟨hf, hM⟩ := hM
  have hsc2 : scP σ s2 := hsc1.tr hf.sc
  have f9 : s2 9 0 1 = nI (sN S) := by rw [hf.1 9 (by decide) (by decide) (by decide) (by decide), g9]; exact h9
  unfold itE at hR
  cases e : mkP (sgN G N) so 4 0 (0, 9, none) q0 with
  | inl q =>
    rw [e] at hM hR
    have hM : v = some (aI (nI q)) := hM
    subst hM
    have hq : q < 1000 := by
      have := mkP_f (sg := sgN G N) (so := so) sgN_N 4 0 (0, 9, none) q0 q hq0 e
      omega
    refine am_vc_ok am_k68 [] 100 ?_
    refine And.intro (fun z => absurd z (n9_4 hq)) (fun _ => ?_)
    refine am_vI am_k68 am_r68 rfl (hQ _ _ ⟨hsc2, ?_⟩)
    rw [← hR]
  | inr iq =>
    obtain ⟨it, q⟩ := iq
    rw [e] at hM hR
    obtain ⟨rfl, f7, fI⟩ := hM
    obtain ⟨b1, b2, b3, b4⟩ := mkP_b sgN_N 4 0 (0, 9, none) it q0 q hq0 e ⟨by decide, by decide, fun x hx => by cases hx⟩
    have hI2 : itI s2 (sN S) (nm, so, ch, it) := ⟨by rw [hf.1 32 (by decide) (by decide) (by decide) (by decide)]; exact gI.1, by rw [hf.1 33 (by decide) (by decide) (by decide) (by decide)]; exact gI.2.1, by rw [hf.1 34 (by decide) (by decide) (by decide) (by decide)]; exact gI.2.2.1, fI⟩
    have hX2 : XItems s2 0 S := gX.fr (Nat.le_refl _) (fun q k a b hk => by
      by_cases hq : 35 ≤ q
      · exact hf.2 q 0 k (Or.inr (by omega)) hq b
      · rw [hf.1 q (by omega) (by omega) (by omega) (by omega)])
    refine am_vc_ok am_k68 [] 100 ?_
    refine And.intro (fun _ => ?_) (fun z => absurd rfl z)
    refine am_vO am_k68 am_h68 rfl rfl rfl rfl (x_last (S := S) (i := (nm, so, ch, it)) rfl hc2 f9 hX2 hS hI2 ⟨hnm, hso, hch, b2, b3, fun d hd => (b4 d hd).1⟩) ?_
    refine am_vc_ok am_k68 [] 100 ?_
    by_cases hok : itOK S (nm, so, ch, it)
    · rw [cI_t hok]
      refine And.intro (fun z => absurd z (by decide)) (fun _ => ?_)
      refine am_vI am_k68 am_r68 rfl (hQ _ _ ⟨hsc2.u (by decide), ?_⟩)
      have hR : (Sum.inr ((nm, so, ch, it), q) : Nat ⊕ (aIt × Nat)) = R := by
        rw [← hR]
        exact (if_pos hok).symm
      rw [← hR]
      exact ⟨rfl, by rw [u3_k _ _ (by decide)]; exact f7, by rw [u3_eq, f9, nI_1], (hX2.psh hI2).fr (Nat.le_refl _) (fun q k a b _ => by rw [u3_k _ _ (by omega)])⟩
    · rw [cI_f hok]
      refine And.intro (fun _ => ?_) (fun z => absurd rfl z)
      refine am_vI am_k68 am_r68 rfl (hQ _ _ ⟨hsc2, ?_⟩)
      have hR : (Sum.inl q : Nat ⊕ (aIt × Nat)) = R := by
        rw [← hR]
        exact (if_neg hok).symm
      rw [← hR]
      exact congrArg (fun x => some (aI x)) f7
end L51
