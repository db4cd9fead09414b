/-! the model's isItem, readsItem, reads -/
section L54
variable {l : Launch} {σ σ2 : tI} {τ τ2 : tL} {t : Option (Nat × Nat)} {x N p : Nat} {G : Nat → Int32}
/-- items that are read -/
def RP (σ : tI) (S : aSh) : Prop := ∀ k w, k < sN S → w < 6 → σ 51 0 (6 * k + w) = sF S k w
def rpI (σ : tI) (c : Nat) (i : aIt) : Prop := σ 51 0 (6 * c) = nI i.1 ∧ σ 51 0 (6 * c + 1) = nI i.2.1 ∧ σ 51 0 (6 * c + 2) = nI i.2.2.1 ∧ mmI σ c i.2.2.2
theorem i72 {c w : Nat} (hc : c < 12) (hw : w < 6) : vp_in (nI (6 * c) + nI w) 72 := by
  rw [nI_add]
  exact vp_in_nI (by omega) (by decide)
theorem c72 {c w : Nat} (hc : c < 12) (hw : w < 6) : (nI (6 * c) + nI w).toNatClampNeg = 6 * c + w := by
  rw [nI_add, nI_clamp (by omega)]
theorem m_ii_lp {Q : tQ} {S : aSh} {i : aIt} {c : Nat} {B : Prop} {g0 s0 : Int32} (hc : sN S = c) (hc2 : c < 12) (hX : RP σ S) (hS : ShOK S) (hi : rpI σ c i) (hb : itB i) (K : ∀ v : Int32, v = cI (B ∧ itA S i c) → Q (some (aI v)) σ τ (rX t) cX lX) : ∀ (d k : Nat) (v : Int32), k + d = c → v = cI (B ∧ itA S i k) → am_G l 177 Q 0 0 84 [(5, aI (nI (6 * k))), (4, aI v), (3, aI g0), (2, aI s0), (0, aR 12 0), (1, aI (nI (6 * c)))] [] σ τ (rX t) cX lX
  | 0, k, v, h, hv => by
    obtain rfl : k = c := by omega
    refine am_vc_ok am_k177 [84] 100 ?_
    refine And.intro (fun _ => ?_) (fun h1 => absurd (nI_le (Nat.le_refl _) (by omega)) h1)
    refine am_vZ am_k177 am_r177 rfl ?_ (K v hv)
    rw [hv]
    exact cI_01
  | d + 1, k, v, h, hv => by
    have hk : k < c := by omega
    have x1 : σ 51 0 (6 * k) = nI (sNm S k) := hX k 0 (by omega) (by decide)
    have x4 : σ 51 0 (6 * k + 3) = nI (sSi S k) := hX k 3 (by omega) (by decide)
    have x5 : σ 51 0 (6 * k + 4) = nI (sTi S k) := hX k 4 (by omega) (by decide)
    obtain ⟨y1, y2, y3, y4, y5, y6⟩ := id hi
    obtain ⟨b1, b2, b3, b4, b5, b6⟩ := id hb
    obtain ⟨s1, s2, s3, s4, s5, s6, s7⟩ := hS.2.1 k (by omega)
    have fin : ∀ (w a : Int32), w = cI (B ∧ itA S i (k + 1)) → am_G l 177 Q 0 0 84 [(5, aI (nI (6 * k) + 6)), (4, aI w), (6, aI a), (3, aI g0), (2, aI s0), (0, aR 12 0), (1, aI (nI (6 * c)))] [] σ τ (rX t) cX lX := by
      intro w a hw
      rw [show nI (6 * k) + 6 = nI (6 * (k + 1)) by rw [show (6 : Int32) = nI 6 from rfl, nI_add]; rfl]
      exact am_Gp [0, 1, 3, 4, 5, 6] rfl (m_ii_lp hc hc2 hX hS hi hb K d (k + 1) w (by omega) hw)
    have hap : ∀ a : Prop, (a ↔ (sTi S k < i.2.2.2.1 ∨ i.2.2.2.2.1 < sSi S k)) → am_G l 177 Q 0 0 137 [(6, aI (cI a)), (5, aI (nI (6 * k))), (4, aI v), (3, aI g0), (2, aI s0), (0, aR 12 0), (1, aI (nI (6 * c)))] [] σ τ (rX t) cX lX := by
      intro a ha
      refine am_vc_ok am_k177 [84] 100 ?_
      rw [hv]
      refine And.intro (fun e => ?_) (fun e => ?_)
      · have e := cI_0.mp e
        exact fin 0 _ (cI_f (fun z => e ⟨z.1, (itA_s.mp z.2).1⟩)).symm
      · have e := cI_n0.mp e
        refine And.intro (vp_in_nI (N := 72) (by omega) (by decide)) ?_
        rw [nI_clamp (n := 6 * k) (by omega), x1]
        refine And.intro (vp_in_nI (N := 72) (by omega) (by decide)) ?_
        rw [nI_clamp (n := 6 * c) (by omega), y1]
        refine And.intro (fun g => ?_) (fun g => ?_)
        · have g : sNm S k = i.1 := nI_inj' (by omega) (by omega) g
          refine And.intro (fun f => ?_) (fun f => ?_)
          · have f := cI_0.mp f
            exact fin 0 _ (cI_f (fun z => f (ha.mpr ((itA_s.mp z.2).2 g)))).symm
          · have f := cI_n0.mp f
            exact fin 1 _ (cI_t ⟨e.1, itA_s.mpr ⟨e.2, fun _ => ha.mp f⟩⟩).symm
        · have g : ¬ sNm S k = i.1 := fun z => g (by rw [z])
          exact fin 1 _ (cI_t ⟨e.1, itA_s.mpr ⟨e.2, fun z => absurd z g⟩⟩).symm
    refine am_vc_ok am_k177 [84, 137] 100 ?_
    refine And.intro (fun h1 => absurd h1 (nI_ge (by omega) (by omega))) (fun _ => ?_)
    refine And.intro (i72 (w := 4) (by omega) (by decide)) ?_
    rw [show nI (6 * k) + 4 = nI (6 * k) + nI 4 from rfl, c72 (by omega) (by decide), x5]
    refine And.intro (i72 (w := 3) (by omega) (by decide)) ?_
    rw [show nI (6 * c) + 3 = nI (6 * c) + nI 3 from rfl, c72 (by omega) (by decide), y4]
    refine And.intro (fun g => ?_) (fun g => ?_)
    · have g : sTi S k < i.2.2.2.1 := (nI_ltI (by omega) (by omega)).mp g
      have K2 := hap True ⟨fun _ => Or.inl g, fun _ => trivial⟩
      rw [cI_t trivial] at K2
      exact K2
    · have g : ¬ sTi S k < i.2.2.2.1 := fun z => g ((nI_ltI (by omega) (by omega)).mpr z)
      refine And.intro (i72 (w := 4) (by omega) (by decide)) ?_
      rw [show nI (6 * c) + 4 = nI (6 * c) + nI 4 from rfl, c72 (by omega) (by decide), y5]
      refine And.intro (i72 (w := 3) (by omega) (by decide)) ?_
      rw [show nI (6 * k) + 3 = nI (6 * k) + nI 3 from rfl, c72 (by omega) (by decide), x4]
      refine And.intro (fun f => ?_) (fun f => ?_)
      · have f : ¬ i.2.2.2.2.1 < sSi S k := fun z => absurd f (nI_ge z (by omega))
        have K2 := hap False ⟨fun z => z.elim, fun z => z.elim g f⟩
        rw [cI_f (fun z => z)] at K2
        exact K2
      · have f : i.2.2.2.2.1 < sSi S k := (nI_ltI (by omega) (by omega)).mp (Int32.not_le.mp f)
        have K2 := hap True ⟨fun _ => Or.inr f, fun _ => trivial⟩
        rw [cI_t trivial] at K2
        exact K2
theorem m_isItem {S : aSh} {i : aIt} {c : Nat} (hc : sN S = c) (hc2 : c < 12) (hX : RP σ S) (hS : ShOK S) (hi : rpI σ c i) (hb : itB i) (h2 : ∀ d, i.2.2.2.2.2 = some d → i.2.1 ≠ 2) : am_D l 177 [aR 12 0, aI (nI (6 * c))] σ τ (rX t) cX lX (some (aI (cI (itOK S i)))) σ τ (rX t) := by
  obtain ⟨y1, y2, y3, y4, y5, y6⟩ := id hi
  obtain ⟨b1, b2, b3, b4, b5, b6⟩ := id hb
  have eA : itOK S i ↔ ((i.2.2.2.1 ≤ i.2.2.2.2.1 ∧ (∀ d, i.2.2.2.2.2 = some d → (i.2.1 = 0 → d ≤ 255) ∧ (i.2.1 = 3 → d < i.2.2.1))) ∧ itA S i c) := by
    unfold itOK itA
    rw [hc, and_assoc]
  have fin : ∀ B : Prop, (B ↔ (i.2.2.2.1 ≤ i.2.2.2.2.1 ∧ (∀ d, i.2.2.2.2.2 = some d → (i.2.1 = 0 → d ≤ 255) ∧ (i.2.1 = 3 → d < i.2.2.1)))) → am_G l 177 (fun v s t2 p2 c2 n2 => v = some (aI (cI (itOK S i))) ∧ s = σ ∧ t2 = τ ∧ p2 = rX t ∧ c2 = cX ∧ n2 = lX) 0 0 79 [(3, aI (pI i.2.2.2.2.2)), (2, aI (nI i.2.1)), (0, aR 12 0), (1, aI (nI (6 * c)))] [aI (cI B)] σ τ (rX t) cX lX := by
    intro B hB
    refine am_vc_ok am_k177 [84] 100 ?_
    refine am_Gp (ls2 := [(5, aI (nI (6 * 0))), (4, aI (cI B)), (3, aI (pI i.2.2.2.2.2)), (2, aI (nI i.2.1)), (0, aR 12 0), (1, aI (nI (6 * c)))]) [0, 1, 2, 3, 4, 5] rfl ?_
    refine m_ii_lp (B := B) hc hc2 hX hS hi hb (fun v hv => ⟨?_, rfl, rfl, rfl, rfl, rfl⟩) c 0 _ (by omega) (cI_cg ⟨fun z => ⟨z, fun k hk => absurd hk (by omega)⟩, fun z => z.1⟩)
    rw [hv]
    exact congrArg (fun x => some (aI x)) (cI_cg (by rw [eA, hB]))
  have yes : (i.2.2.2.1 ≤ i.2.2.2.2.1 ∧ (∀ d, i.2.2.2.2.2 = some d → (i.2.1 = 0 → d ≤ 255) ∧ (i.2.1 = 3 → d < i.2.2.1))) → am_G l 177 (fun v s t2 p2 c2 n2 => v = some (aI (cI (itOK S i))) ∧ s = σ ∧ t2 = τ ∧ p2 = rX t ∧ c2 = cX ∧ n2 = lX) 0 0 79 [(3, aI (pI i.2.2.2.2.2)), (2, aI (nI i.2.1)), (0, aR 12 0), (1, aI (nI (6 * c)))] [aI 1] σ τ (rX t) cX lX := by
    intro z
    have := fin True ⟨fun _ => z, fun _ => trivial⟩
    rw [cI_t trivial] at this
    exact this
  have no : ¬ (i.2.2.2.1 ≤ i.2.2.2.2.1 ∧ (∀ d, i.2.2.2.2.2 = some d → (i.2.1 = 0 → d ≤ 255) ∧ (i.2.1 = 3 → d < i.2.2.1))) → am_G l 177 (fun v s t2 p2 c2 n2 => v = some (aI (cI (itOK S i))) ∧ s = σ ∧ t2 = τ ∧ p2 = rX t ∧ c2 = cX ∧ n2 = lX) 0 0 79 [(3, aI (pI i.2.2.2.2.2)), (2, aI (nI i.2.1)), (0, aR 12 0), (1, aI (nI (6 * c)))] [aI 0] σ τ (rX t) cX lX := by
    intro z
    have := fin False ⟨fun z => z.elim, z⟩
    rw [cI_f (fun z => z)] at this
    exact this
  refine am_D_of am_o177 am_l177 rfl ?_
  refine am_vc_ok am_k177 [79] 100 ?_
  refine And.intro (i72 (w := 1) (by omega) (by decide)) ?_
  rw [show nI (6 * c) + 1 = nI (6 * c) + nI 1 from rfl, c72 (by omega) (by decide), y2]
  refine And.intro (i72 (w := 5) (by omega) (by decide)) ?_
  rw [show nI (6 * c) + 5 = nI (6 * c) + nI 5 from rfl, c72 (by omega) (by decide), y6]
  refine And.intro (i72 (w := 3) (by omega) (by decide)) ?_
  rw [show nI (6 * c) + 3 = nI (6 * c) + nI 3 from rfl, c72 (by omega) (by decide), y4]
  refine And.intro (i72 (w := 4) (by omega) (by decide)) ?_
  rw [show nI (6 * c) + 4 = nI (6 * c) + nI 4 from rfl, c72 (by omega) (by decide), y5]
  refine And.intro (fun e => ?_) (fun e => ?_)
  · have e : i.2.2.2.2.1 < i.2.2.2.1 := (nI_ltI (by omega) (by omega)).mp e
    exact no (fun z => by omega)
  have e : i.2.2.2.1 ≤ i.2.2.2.2.1 := (nI_leI (by omega) (by omega)).mp (Int32.not_lt.mp e)
  cases hd : i.2.2.2.2.2 with
  | none =>
    rw [hd] at yes
    refine And.intro (fun _ => ?_) (fun z => absurd (by decide) z)
    exact yes ⟨e, fun d z => by cases z⟩
  | some d =>
    rw [hd] at yes no
    have hd9 := b6 d hd
    refine And.intro (fun z => absurd z (nI_pos (by omega))) (fun _ => ?_)
    refine And.intro (fun z => ?_) (fun z => ?_)
    · have z : i.2.1 = 1 := nI_inj' (by omega) (by decide) (show nI i.2.1 = nI 1 from z)
      exact yes ⟨e, fun d _ => ⟨fun y => by omega, fun y => by omega⟩⟩
    have z1 : ¬ i.2.1 = 1 := fun y => z (by rw [y]; rfl)
    have z2 := h2 d hd
    refine And.intro (fun z => ?_) (fun z => ?_)
    · have z : i.2.1 = 0 := nI_inj' (by omega) (by decide) (show nI i.2.1 = nI 0 from z)
      refine And.intro (fun g => ?_) (fun g => ?_)
      · have g : d ≤ 255 := (nI_leI (b := 255) (by omega) (by decide)).mp g
        exact yes ⟨e, fun d2 h => by cases h; exact ⟨fun _ => g, fun y => by omega⟩⟩
      · have g : ¬ d ≤ 255 := fun y => g (nI_le (b := 255) y (by decide))
        refine And.intro (fun y => ?_) (fun y => ?_)
        · have y : i.2.1 = 3 := nI_inj' (by omega) (by decide) (show nI i.2.1 = nI 3 from y)
          omega
        · exact no (fun y => g ((y.2 d rfl).1 z))
    · have z : ¬ i.2.1 = 0 := fun y => z (by rw [y]; rfl)
      refine And.intro (fun y => ?_) (fun y => ?_)
      · have y : i.2.1 = 3 := nI_inj' (by omega) (by decide) (show nI i.2.1 = nI 3 from y)
        refine And.intro (i72 (w := 2) (by omega) (by decide)) ?_
        rw [show nI (6 * c) + 2 = nI (6 * c) + nI 2 from rfl, c72 (by omega) (by decide), y3]
        refine And.intro (fun g => ?_) (fun g => ?_)
        · have g : ¬ d < i.2.2.1 := fun q => absurd g (nI_ge q (by omega))
          exact no (fun q => g ((q.2 d rfl).2 y))
        · have g : d < i.2.2.1 := (nI_ltI (by omega) (by omega)).mp (Int32.not_le.mp g)
          exact yes ⟨e, fun d2 h => by cases h; exact ⟨fun q => absurd q z, fun _ => g⟩⟩
      · have y : ¬ i.2.1 = 3 := fun q => y (by rw [q]; rfl)
        omega
end L54
