/-! the class's Scan: items, the whole -/
section L50
variable {l : Launch} {σ σ2 : tI} {τ τ2 : tL} {t : Option (Nat × Nat)} {r N p : Nat} {G : Nat → Int32}
theorem x_begin {c : Nat} {nm so ch : Int32} (hc : σ 9 0 1 = nI c) (hc2 : c < 12) : am_D l 77 [aR 9 0, aI nm, aI so, aI ch] σ τ (rX t) cX lX none (u3 (u3 (u3 (u3 (u3 (u3 σ 32 0 c nm) 33 0 c so) 34 0 c ch) 35 0 c 0) 36 0 c 9) 37 0 c (-9)) τ (rX t) := by
  have b : vp_in (nI c) 12 := vp_in_nI hc2 (by decide)
  have e : (σ 9 0 1).toNatClampNeg = c := by rw [hc, nI_clamp (by omega)]
  refine am_D_of am_o77 am_l77 rfl ?_
  refine am_vc_ok am_k77 [] 100 ?_
  refine And.intro (by rw [hc]; exact b) ?_
  rw [e]
  refine And.intro (by rw [u3_k _ _ (by decide), hc]; exact b) ?_
  rw [u3_k (a := 9) (b := 0) (c := 1) _ _ (by decide), e]
  refine And.intro (by rw [u3_k _ _ (by decide), u3_k _ _ (by decide), hc]; exact b) ?_
  rw [u3_k (a := 9) (b := 0) (c := 1) _ _ (by decide), u3_k (a := 9) (b := 0) (c := 1) _ _ (by decide), e]
  refine And.intro (by rw [u3_k _ _ (by decide), u3_k _ _ (by decide), u3_k _ _ (by decide), hc]; exact b) ?_
  rw [u3_k (a := 9) (b := 0) (c := 1) _ _ (by decide), u3_k (a := 9) (b := 0) (c := 1) _ _ (by decide), u3_k (a := 9) (b := 0) (c := 1) _ _ (by decide), e]
  refine And.intro (by rw [u3_k _ _ (by decide), u3_k _ _ (by decide), u3_k _ _ (by decide), u3_k _ _ (by decide), hc]; exact b) ?_
  rw [u3_k (a := 9) (b := 0) (c := 1) _ _ (by decide), u3_k (a := 9) (b := 0) (c := 1) _ _ (by decide), u3_k (a := 9) (b := 0) (c := 1) _ _ (by decide), u3_k (a := 9) (b := 0) (c := 1) _ _ (by decide), e]
  refine And.intro (by rw [u3_k _ _ (by decide), u3_k _ _ (by decide), u3_k _ _ (by decide), u3_k _ _ (by decide), u3_k _ _ (by decide), hc]; exact b) ?_
  rw [u3_k (a := 9) (b := 0) (c := 1) _ _ (by decide), u3_k (a := 9) (b := 0) (c := 1) _ _ (by decide), u3_k (a := 9) (b := 0) (c := 1) _ _ (by decide), u3_k (a := 9) (b := 0) (c := 1) _ _ (by decide), u3_k (a := 9) (b := 0) (c := 1) _ _ (by decide), e]
  exact am_vV am_k77 am_r77 rfl ⟨rfl, rfl, rfl, rfl, rfl, rfl⟩
/-- item c of the draft -/
def itI (σ : tI) (c : Nat) (i : aIt) : Prop := σ 32 0 c = nI i.1 ∧ σ 33 0 c = nI i.2.1 ∧ σ 34 0 c = nI i.2.2.1 ∧ mkI σ c i.2.2.2
/-- numbers of an item -/
def itB (i : aIt) : Prop := i.1 < 16 ∧ i.2.1 < 4 ∧ i.2.2.1 ≤ 9 ∧ i.2.2.2.1 ≤ 9 ∧ i.2.2.2.2.1 ≤ 9 ∧ ∀ d, i.2.2.2.2.2 = some d → d ≤ 999
def itA (S : aSh) (i : aIt) (n : Nat) : Prop := ∀ k, k < n → sNm S k = i.1 → sTi S k < i.2.2.2.1 ∨ i.2.2.2.2.1 < sSi S k
theorem itA_s {S : aSh} {i : aIt} {n : Nat} : itA S i (n + 1) ↔ itA S i n ∧ (sNm S n = i.1 → sTi S n < i.2.2.2.1 ∨ i.2.2.2.2.1 < sSi S n) := by
  constructor
  · intro h
    exact ⟨fun k hk => h k (by omega), h n (by omega)⟩
  · rintro ⟨h1, h2⟩ k hk
    by_cases e : k = n
    · rw [e]; exact h2
    · exact h1 k (by omega)
theorem x_ls_lp2 {Q : tQ} {S : aSh} {i : aIt} {c : Nat} (hc : sN S = c) (hc2 : c < 12) (h9 : σ 9 0 1 = nI c) (hX : XItems σ 0 S) (hS : ShOK S) (hi : itI σ c i) (hb : itB i) (K : ∀ v : Int32, v = cI (itA S i c) → Q (some (aI v)) σ τ (rX t) cX lX) : ∀ (d k : Nat), k + d = c → itA S i k → am_G l 78 Q 0 0 72 [(2, aI (nI k)), (1, aI (nI c)), (0, aR 9 0)] [] σ τ (rX t) cX lX
  | 0, k, h, hA => by
    obtain rfl : k = c := by omega
    refine am_vc_ok am_k78 [72] 100 ?_
    refine And.intro (fun _ => ?_) (fun h1 => absurd (by rw [h9]; exact nI_le (Nat.le_refl _) (by omega)) h1)
    exact am_vZ am_k78 am_r78 rfl (Or.inr rfl) (K 1 (cI_t hA).symm)
  | d + 1, k, h, hA => by
    have hk : k < c := by omega
    have bk : vp_in (nI k) 12 := vp_in_nI (by omega) (by decide)
    have bc : vp_in (nI c) 12 := vp_in_nI (by omega) (by decide)
    have ek : (nI k).toNatClampNeg = k := nI_clamp (by omega)
    have ec : (nI c).toNatClampNeg = c := nI_clamp (by omega)
    obtain ⟨x1, x2, x3, x4, x5, x6⟩ := hX k (by omega)
    obtain ⟨y1, y2, y3, y4, y5, y6⟩ := hi
    obtain ⟨b1, b2, b3, b4, b5, b6⟩ := hb
    obtain ⟨s1, s2, s3, s4, s5, s6, s7⟩ := hS.2.1 k (by omega)
    have go : itA S i (k + 1) → am_G l 78 Q 0 0 72 [(2, aI (nI k + 1)), (1, aI (nI c)), (0, aR 9 0)] [] σ τ (rX t) cX lX := by
      intro hA2
      rw [show nI k + 1 = nI (k + 1) from nI_1 k]
      exact x_ls_lp2 hc hc2 h9 hX hS ⟨y1, y2, y3, y4, y5, y6⟩ ⟨b1, b2, b3, b4, b5, b6⟩ K d (k + 1) (by omega) hA2
    refine am_vc_ok am_k78 [72] 100 ?_
    refine And.intro (fun h1 => absurd h1 (by rw [h9]; exact nI_ge hk (by omega))) (fun _ => ?_)
    refine And.intro (bk) ?_
    rw [ek]
    refine And.intro (bc) ?_
    rw [ec]
    refine And.intro (fun e => ?_) (fun e => ?_)
    · have e : sNm S k = i.1 := by
        have e : σ 32 0 k = σ 32 0 c := e
        rw [x1, y1] at e
        exact nI_inj' (by omega) (by omega) e
      refine And.intro (bk) ?_
      rw [ek]
      refine And.intro (bc) ?_
      rw [ec]
      refine And.intro (fun g => ?_) (fun g => ?_)
      · have g : σ 36 0 c < σ 35 0 k := g
        rw [x4, y5, nI_ltI (by omega) (by omega)] at g
        exact go (itA_s.mpr ⟨hA, fun _ => Or.inr g⟩)
      · have g : ¬ σ 36 0 c < σ 35 0 k := g
        rw [x4, y5, nI_ltI (by omega) (by omega)] at g
        refine And.intro (bc) ?_
        rw [ec]
        refine And.intro (bk) ?_
        rw [ek]
        refine And.intro (fun g2 => ?_) (fun g2 => ?_)
        · have g2 : σ 36 0 k < σ 35 0 c := g2
          rw [x5, y4, nI_ltI (by omega) (by omega)] at g2
          exact go (itA_s.mpr ⟨hA, fun _ => Or.inl g2⟩)
        · have g2 : ¬ σ 36 0 k < σ 35 0 c := g2
          rw [x5, y4, nI_ltI (by omega) (by omega)] at g2
          refine am_vZ am_k78 am_r78 rfl (Or.inl rfl) (K 0 (cI_f (fun z => ?_)).symm)
          rcases z k hk e with z | z
          · exact g2 z
          · exact g z
    · have e : ¬ sNm S k = i.1 := fun z => e (by
        show σ 32 0 k = σ 32 0 c
        rw [x1, y1, z])
      exact go (itA_s.mpr ⟨hA, fun z => absurd z e⟩)
theorem x_last {S : aSh} {i : aIt} {c : Nat} (hc : sN S = c) (hc2 : c < 12) (h9 : σ 9 0 1 = nI c) (hX : XItems σ 0 S) (hS : ShOK S) (hi : itI σ c i) (hb : itB i) : am_D l 78 [aR 9 0] σ τ (rX t) cX lX (some (aI (cI (itOK S i)))) σ τ (rX t) := by
  have bc : vp_in (nI c) 12 := vp_in_nI (by omega) (by decide)
  have ec : (nI c).toNatClampNeg = c := nI_clamp (by omega)
  have hi' := hi
  have hb' := hb
  obtain ⟨y1, y2, y3, y4, y5, y6⟩ := hi
  obtain ⟨b1, b2, b3, b4, b5, b6⟩ := hb
  have eA : itOK S i ↔ (i.2.2.2.1 ≤ i.2.2.2.2.1 ∧ (∀ d, i.2.2.2.2.2 = some d → (i.2.1 = 0 → d ≤ 255) ∧ (i.2.1 = 3 → d < i.2.2.1)) ∧ itA S i c) := by
    unfold itOK itA
    rw [hc]
  have hp : ∀ d, i.2.2.2.2.2 = some d → σ 37 0 c = nI d := fun d hd => by
    have z := y6
    rw [hd] at z
    exact z
  have hpn : i.2.2.2.2.2 = none → σ 37 0 c = -9 := fun hd => by
    have z := y6
    rw [hd] at z
    exact z
  refine am_D_of am_o78 am_l78 rfl ?_
  refine am_vc_ok am_k78 [72] 100 ?_
  refine And.intro (by rw [h9]; exact bc) ?_
  rw [h9, ec]
  refine And.intro (bc) ?_
  rw [ec]
  refine And.intro (fun e => ?_) (fun e => ?_)
  · have e : σ 35 0 c ≤ σ 36 0 c := e
    rw [y4, y5, nI_leI (by omega) (by omega)] at e
    have fin : (∀ d, i.2.2.2.2.2 = some d → (i.2.1 = 0 → d ≤ 255) ∧ (i.2.1 = 3 → d < i.2.2.1)) → am_G l 78 (fun v s t2 p2 c2 n2 => v = some (aI (cI (itOK S i))) ∧ s = σ ∧ t2 = τ ∧ p2 = rX t ∧ c2 = cX ∧ n2 = lX) 0 0 72 [(2, aI (nI 0)), (1, aI (nI c)), (0, aR 9 0)] [] σ τ (rX t) cX lX := by
      intro hd
      refine x_ls_lp2 hc hc2 h9 hX hS hi' hb' (fun v hv => ⟨?_, rfl, rfl, rfl, rfl, rfl⟩) c 0 (by omega) (fun k hk => absurd hk (by omega))
      rw [hv, eA]
      exact congrArg (fun x => some (aI x)) (cI_cg ⟨fun z => ⟨e, hd, z⟩, fun z => z.2.2⟩)
    refine And.intro (bc) ?_
    rw [ec]
    refine And.intro (fun g => ?_) (fun g => ?_)
    · have g : σ 33 0 c = 0 := g
      rw [y2] at g
      have g : i.2.1 = 0 := nI_inj' (by omega) (by decide) (show nI i.2.1 = nI 0 from g)
      refine And.intro (bc) ?_
      rw [ec]
      refine And.intro (fun g2 => ?_) (fun g2 => ?_)
      · have g2 : 255 < σ 37 0 c := g2
        refine am_vZ am_k78 am_r78 rfl (Or.inl rfl) ⟨?_, rfl, rfl, rfl, rfl, rfl⟩
        refine congrArg (fun x => some (aI x)) (cI_f (fun z => ?_)).symm
        cases hd : i.2.2.2.2.2 with
        | none => rw [hpn hd] at g2; exact absurd g2 (by decide)
        | some d =>
          have h1 := ((eA.mp z).2.1 d hd).1 g
          have h2 := b6 d hd
          rw [hp d hd, show (255 : Int32) = nI 255 from rfl, nI_ltI (by decide) (by omega)] at g2
          omega
      · have g2 : ¬ 255 < σ 37 0 c := g2
        refine And.intro (bc) ?_
        rw [ec]
        refine And.intro (fun g3 => ?_) (fun g3 => ?_)
        · have g3 : σ 33 0 c = 3 := g3
          rw [y2, g] at g3
          exact absurd g3 (by decide)
        · refine am_Gp [0, 1, 2] rfl (fin (fun d hd => ⟨fun _ => ?_, fun z => by omega⟩))
          have h2 := b6 d hd
          rw [hp d hd, show (255 : Int32) = nI 255 from rfl, nI_ltI (by decide) (by omega)] at g2
          omega
    · have g : ¬ σ 33 0 c = 0 := g
      rw [y2] at g
      have g : ¬ i.2.1 = 0 := fun z => g (by rw [z]; rfl)
      refine And.intro (bc) ?_
      rw [ec]
      refine And.intro (fun g3 => ?_) (fun g3 => ?_)
      · have g3 : σ 33 0 c = 3 := g3
        rw [y2] at g3
        have g3 : i.2.1 = 3 := nI_inj' (by omega) (by decide) (show nI i.2.1 = nI 3 from g3)
        refine And.intro (bc) ?_
        rw [ec]
        refine And.intro (bc) ?_
        rw [ec]
        refine And.intro (fun g4 => ?_) (fun g4 => ?_)
        · have g4 : σ 37 0 c < σ 34 0 c := g4
          refine am_Gp [0, 1, 2] rfl (fin (fun d hd => ⟨fun z => absurd z g, fun _ => ?_⟩))
          have h2 := b6 d hd
          rw [hp d hd, y3, nI_ltI (by omega) (by omega)] at g4
          exact g4
        · have g4 : ¬ σ 37 0 c < σ 34 0 c := g4
          refine am_vZ am_k78 am_r78 rfl (Or.inl rfl) ⟨?_, rfl, rfl, rfl, rfl, rfl⟩
          refine congrArg (fun x => some (aI x)) (cI_f (fun z => ?_)).symm
          cases hd : i.2.2.2.2.2 with
          | none => rw [hpn hd, y3] at g4; exact absurd (Int32.lt_of_lt_of_le (show (-9 : Int32) < 0 by decide) (nI_pos' (by omega))) g4
          | some d =>
            have h1 := ((eA.mp z).2.1 d hd).2 g3
            have h2 := b6 d hd
            rw [hp d hd, y3, nI_ltI (by omega) (by omega)] at g4
            omega
      · have g3 : ¬ σ 33 0 c = 3 := g3
        rw [y2] at g3
        have g3 : ¬ i.2.1 = 3 := fun z => g3 (by rw [z]; rfl)
        exact am_Gp [0, 1, 2] rfl (fin (fun d hd => ⟨fun z => absurd z g, fun z => absurd z g3⟩))
  · have e : ¬ σ 35 0 c ≤ σ 36 0 c := e
    rw [y4, y5, nI_leI (by omega) (by omega)] at e
    refine am_vZ am_k78 am_r78 rfl (Or.inl rfl) ⟨?_, rfl, rfl, rfl, rfl, rfl⟩
    exact congrArg (fun x => some (aI x)) (cI_f (fun z => e (eA.mp z).1)).symm
end L50
