/-! CASES OF THE LAW: what is told -/
section L3
variable {l : Launch} {σ σ2 : tI} {τ τ2 : tL} {t : Option (Nat × Nat)}
noncomputable def am_swok (x : Int32) (sl : List (Int32 × Nat)) (d tg : Nat) : Bool := sl.all (fun q => !(decide (x = q.1)) || Nat.beq q.2 tg) && (sl.any (fun q => decide (x = q.1)) || Nat.beq d tg)
theorem am_sw1 {K : Nat → Prop} {x : Int32} {tg : Nat} (k : K tg) : ∀ {sl : List (Int32 × Nat)}, sl.all (fun q => !(decide (x = q.1)) || Nat.beq q.2 tg) = true → am_vs1 K x sl
  | [], _ => trivial
  | (c, g) :: r, h => by
    rw [List.all_cons, Bool.and_eq_true] at h
    refine ⟨fun e => ?_, am_sw1 k h.2⟩
    have h1 := h.1
    simp only [e, decide_true, Bool.not_true, Bool.false_or] at h1
    rw [am_beq h1]
    exact k
theorem am_sw2 {P : Prop} {x : Int32} : ∀ {sl : List (Int32 × Nat)}, (sl.any (fun q => decide (x = q.1)) = true ∨ P) → am_vs2 x P sl
  | [], h => h.resolve_left (by simp)
  | (c, g) :: r, h => fun hn => am_sw2 (by
      rcases h with h | h
      · rw [List.any_cons, Bool.or_eq_true, decide_eq_true_eq] at h
        exact Or.inl (h.resolve_left hn)
      · exact Or.inr h)
/-- a switch over a known number -/
theorem am_sw {K : Nat → Prop} {x : Int32} {sl : List (Int32 × Nat)} {d : Nat} (tg : Nat) (h : am_swok x sl d tg = true) (k : K tg) : am_vsw K x sl d := by
  unfold am_swok at h
  rw [Bool.and_eq_true, Bool.or_eq_true] at h
  refine ⟨am_sw1 k h.1, am_sw2 ?_⟩
  rcases h.2 with h2 | h2
  · exact Or.inl h2
  · exact Or.inr (by rw [am_beq h2]; exact k)
theorem le_pred2 {i : Int32} {n : Nat} (hn : n ≤ 2000) : (0 ≤ i ∧ i ≤ nI n - 1) ↔ (0 ≤ i ∧ i < nI n) := by
  constructor
  · intro h
    have hk : ∃ k, k < n ∧ i = nI k := by
      refine ix_le ?_ h
      cases n with
      | zero => rfl
      | succ n => rw [nI_pred, nI_toInt (by omega)]; rfl
    obtain ⟨k, hk, rfl⟩ := hk
    exact ⟨h.1, nI_lt hk (by omega)⟩
  · intro h
    obtain ⟨k, hk, rfl⟩ := ix_lt (nI_toInt (by omega)) h
    cases n with
    | zero => omega
    | succ n => rw [nI_pred]; exact ⟨h.1, nI_le (by omega) (by omega)⟩
theorem inN {j n : Nat} (hj : j < n) (hn : n ≤ 2000) : ((0 : Int32) ≤ nI j ∧ nI j < nI n) := ⟨nI_pos' (by omega), nI_lt hj (by omega)⟩
theorem leN {x : Int32} {n : Nat} {N M : Int32} (hN : N.toInt = n) (hM : M.toInt + 1 = n) : (0 ≤ x ∧ x ≤ M) ↔ (0 ≤ x ∧ x < N) := by
  rw [i_le, i_le, i_lt]
  constructor
  · rintro ⟨a, b⟩; exact ⟨a, by omega⟩
  · rintro ⟨a, b⟩; exact ⟨a, by omega⟩
theorem sumN_le {f : Nat → Nat} {B : Nat} : ∀ {n : Nat}, (∀ c, c < n → f c ≤ B) → sumN f n ≤ B * n
  | 0, _ => Nat.zero_le _
  | n + 1, h => by
    have h1 := sumN_le (n := n) (fun c hc => h c (by omega))
    have h2 := h n (by omega)
    show sumN f n + f n ≤ B * (n + 1)
    rw [Nat.mul_add]
    omega
theorem Rnet.m_le {T n m lo k : Nat} (h : Rnet σ T n m lo k) : m ≤ 690 := by
  obtain ⟨-, ⟨-, -, hn⟩, h3, -, -, -, -, -, -, -, -, -, P, S, Rp, Kc, -, -, hP, -, -, hS, hm, hc⟩ := h
  have h1 : sumN (fun c => (σ 72 0 c).toNatClampNeg + 1 + Rp c + Kc c) n ≤ 13 * n := by
    refine sumN_le (fun c hcn => ?_)
    obtain ⟨-, ⟨-, -, -, ⟨x, y, hxy, hx, -⟩, -⟩, -⟩ := h3 c hcn
    obtain ⟨g1, g2, -⟩ := hc c hcn
    have e : (σ 72 0 c).toNatClampNeg = x := by rw [hx, nI_clamp (by omega)]
    rw [e] at g1 ⊢
    have g3 : Kc c ≤ 1 := by split at g2 <;> omega
    show x + 1 + Rp c + Kc c ≤ 13
    omega
  omega
theorem x_asked : am_D l 134 [aR 11 0] σ τ (rX t) cX lX (some (aI (σ 11 0 11))) σ τ (rX t) := by
  refine am_D_of am_o134 am_l134 rfl ?_
  refine am_vc_ok am_k134 [] 100 ?_
  exact am_vI am_k134 am_r134 rfl ⟨rfl, rfl, rfl, rfl, rfl, rfl⟩
theorem m_asked : am_D l 247 [aR 12 0] σ τ (rX t) cX lX (some (aI (σ 12 0 2))) σ τ (rX t) := by
  refine am_D_of am_o247 am_l247 rfl ?_
  refine am_vc_ok am_k247 [] 100 ?_
  exact am_vI am_k247 am_r247 rfl ⟨rfl, rfl, rfl, rfl, rfl, rfl⟩
theorem LC_asked (h : Rall σ τ) : LC l 134 247 [] σ τ t := by
  have hm := m_asked (l := l) (σ := σ) (τ := τ) (t := t)
  rw [← h.2.2.2.2.2.1.2.2.1] at hm
  exact LC.of x_asked hm h
theorem x_finding : am_D l 138 [aR 11 0] σ τ (rX t) cX lX (some (aI (σ 11 0 10))) σ τ (rX t) := by
  refine am_D_of am_o138 am_l138 rfl ?_
  refine am_vc_ok am_k138 [] 100 ?_
  exact am_vI am_k138 am_r138 rfl ⟨rfl, rfl, rfl, rfl, rfl, rfl⟩
theorem m_finding : am_D l 252 [aR 12 0] σ τ (rX t) cX lX (some (aI (σ 12 0 0))) σ τ (rX t) := by
  refine am_D_of am_o252 am_l252 rfl ?_
  refine am_vc_ok am_k252 [] 100 ?_
  exact am_vI am_k252 am_r252 rfl ⟨rfl, rfl, rfl, rfl, rfl, rfl⟩
theorem LC_finding (h : Rall σ τ) : LCn l 138 252 [] σ τ t := LCn.of x_finding m_finding h
theorem x_upper : am_D l 135 [aR 11 0] σ τ (rX t) cX lX (some (aL (τ 11 0 12))) σ τ (rX t) := by
  refine am_D_of am_o135 am_l135 rfl ?_
  refine am_vc_ok am_k135 [] 100 ?_
  exact am_vL am_k135 am_r135 rfl ⟨rfl, rfl, rfl, rfl, rfl, rfl⟩
theorem m_upper : am_D l 248 [aR 12 0] σ τ (rX t) cX lX (some (aL (τ 12 0 3))) σ τ (rX t) := by
  refine am_D_of am_o248 am_l248 rfl ?_
  refine am_vc_ok am_k248 [] 100 ?_
  exact am_vL am_k248 am_r248 rfl ⟨rfl, rfl, rfl, rfl, rfl, rfl⟩
theorem LC_upper (h : Rall σ τ) : LC l 135 248 [] σ τ t := by
  have hm := m_upper (l := l) (σ := σ) (τ := τ) (t := t)
  rw [← h.2.2.2.2.2.1.2.2.2.1] at hm
  exact LC.of x_upper hm h
theorem x_lower : am_D l 136 [aR 11 0] σ τ (rX t) cX lX (some (aL (τ 11 0 13))) σ τ (rX t) := by
  refine am_D_of am_o136 am_l136 rfl ?_
  refine am_vc_ok am_k136 [] 100 ?_
  exact am_vL am_k136 am_r136 rfl ⟨rfl, rfl, rfl, rfl, rfl, rfl⟩
theorem m_lower : am_D l 249 [aR 12 0] σ τ (rX t) cX lX (some (aL (τ 12 0 4))) σ τ (rX t) := by
  refine am_D_of am_o249 am_l249 rfl ?_
  refine am_vc_ok am_k249 [] 100 ?_
  exact am_vL am_k249 am_r249 rfl ⟨rfl, rfl, rfl, rfl, rfl, rfl⟩
theorem LC_lower (h : Rall σ τ) : LC l 136 249 [] σ τ t := by
  have hm := m_lower (l := l) (σ := σ) (τ := τ) (t := t)
  rw [← h.2.2.2.2.2.1.2.2.2.2] at hm
  exact LC.of x_lower hm h
theorem x_findings_bad {f : Int32} (hf : ¬ (1 ≤ f ∧ f ≤ 5)) : am_D l 139 [aR 11 0, aI f] σ τ (rX t) cX lX (some (aI (-1))) σ τ (rX t) := by
  refine am_D_of am_o139 am_l139 rfl ?_
  refine am_vc_ok am_k139 [] 100 ?_
  refine And.intro (fun h1 => ?_) (fun h1 => ?_)
  · exact am_vI am_k139 am_r139 rfl ⟨rfl, rfl, rfl, rfl, rfl, rfl⟩
  refine And.intro (fun h2 => ?_) (fun h2 => ?_)
  · exact am_vI am_k139 am_r139 rfl ⟨rfl, rfl, rfl, rfl, rfl, rfl⟩
  · exact absurd ⟨Int32.not_lt.mp h1, Int32.not_lt.mp h2⟩ hf
theorem x_findings {f : Nat} (h1 : 1 ≤ f) (h2 : f < 6) : am_D l 139 [aR 11 0, aI (nI f)] σ τ (rX t) cX lX (some (aI (σ 42 0 f))) σ τ (rX t) := by
  refine am_D_of am_o139 am_l139 rfl ?_
  refine am_vc_ok am_k139 [] 100 ?_
  refine And.intro (fun g1 => absurd g1 (nI_nlt (b := 1) h1 (by omega))) (fun _ => ?_)
  refine And.intro (fun g1 => absurd g1 (nI_nlt (a := 5) (by omega) (by decide))) (fun _ => ?_)
  refine And.intro (vp_in_nI (N := 6) h2 (by decide)) ?_
  rw [nI_clamp (by omega)]
  exact am_vI am_k139 am_r139 rfl ⟨rfl, rfl, rfl, rfl, rfl, rfl⟩
theorem m_findings_bad {f : Int32} (hf : ¬ (1 ≤ f ∧ f ≤ 5)) : am_D l 253 [aR 12 0, aI f] σ τ (rX t) cX lX (some (aI (-1))) σ τ (rX t) := by
  refine am_D_of am_o253 am_l253 rfl ?_
  refine am_vc_ok am_k253 [] 100 ?_
  refine am_vS am_k253 am_h253 rfl rfl rfl rfl (m_in) ?_
  refine am_vc_ok am_k253 [] 100 ?_
  refine And.intro (fun h => ?_) (fun h => ?_)
  · exact am_vI am_k253 am_r253 rfl ⟨rfl, rfl, rfl, rfl, rfl, rfl⟩
  · exact absurd (bI_1.mp h) hf
theorem m_findings {f : Nat} (h1 : 1 ≤ f) (h2 : f < 6) : am_D l 253 [aR 12 0, aI (nI f)] σ τ (rX t) cX lX (some (aI (σ 43 0 f))) σ τ (rX t) := by
  refine am_D_of am_o253 am_l253 rfl ?_
  refine am_vc_ok am_k253 [] 100 ?_
  refine am_vS am_k253 am_h253 rfl rfl rfl rfl (m_in) ?_
  refine am_vc_ok am_k253 [] 100 ?_
  refine And.intro (fun h => ?_) (fun h => ?_)
  · exact absurd ⟨nI_le (a := 1) h1 (by omega), nI_le (b := 5) (by omega) (by decide)⟩ (bI_0.mp h)
  refine And.intro (vp_in_nI (N := 6) h2 (by decide)) ?_
  rw [nI_clamp (by omega)]
  exact am_vI am_k253 am_r253 rfl ⟨rfl, rfl, rfl, rfl, rfl, rfl⟩
theorem LC_findings (h : Rall σ τ) (f : Int32) : LCn l 139 253 [aI f] σ τ t := by
  by_cases hf : 1 ≤ f ∧ f ≤ 5
  · obtain ⟨k, hk, rfl⟩ := ix_le (n := 6) (N := 5) (by decide) ⟨Int32.le_trans (by decide) hf.1, hf.2⟩
    have h1 : 1 ≤ k := (nI_leI (a := 1) (by decide) (by omega)).mp hf.1
    exact LCn.of (x_findings h1 hk) (m_findings h1 hk) h
  · exact LCn.of (x_findings_bad hf) (m_findings_bad hf) h
theorem x_names {w : Nat} (hw : w < 3) : am_D l 107 [aR 11 0, aI (nI w)] σ τ (rX t) cX lX (some (aI (σ 4 0 (2 + w)))) σ τ (rX t) := by
  refine am_D_of am_o107 am_l107 rfl ?_
  refine am_vc_ok am_k107 [] 100 ?_
  match w, hw with
  | 0, _ =>
    refine am_sw 28 (by decide +kernel) ?_
    exact am_vI am_k107 am_r107 rfl ⟨rfl, rfl, rfl, rfl, rfl, rfl⟩
  | 1, _ =>
    refine am_sw 36 (by decide +kernel) ?_
    exact am_vI am_k107 am_r107 rfl ⟨rfl, rfl, rfl, rfl, rfl, rfl⟩
  | 2, _ =>
    refine am_sw 44 (by decide +kernel) ?_
    exact am_vI am_k107 am_r107 rfl ⟨rfl, rfl, rfl, rfl, rfl, rfl⟩
theorem x_names_bad {w : Int32} (hw : ¬ (0 ≤ w ∧ w ≤ 2)) : am_D l 107 [aR 11 0, aI w] σ τ (rX t) cX lX (some (aI (-1))) σ τ (rX t) := by
  refine am_D_of am_o107 am_l107 rfl ?_
  refine am_vc_ok am_k107 [] 100 ?_
  refine And.intro ⟨fun e => absurd (by rw [e]; decide) hw, fun e => absurd (by rw [e]; decide) hw, fun e => absurd (by rw [e]; decide) hw, trivial⟩ (fun _ _ _ => ?_)
  exact am_vI am_k107 am_r107 rfl ⟨rfl, rfl, rfl, rfl, rfl, rfl⟩
theorem m_names {w : Nat} (hw : w < 3) : am_D l 192 [aR 12 0, aI (nI w)] σ τ (rX t) cX lX (some (aI (σ 55 0 w))) σ τ (rX t) := by
  refine am_D_of am_o192 am_l192 rfl ?_
  refine am_vc_ok am_k192 [] 100 ?_
  refine am_vS am_k192 am_h192 rfl rfl rfl rfl (m_in) ?_
  refine am_vc_ok am_k192 [] 100 ?_
  refine And.intro (fun h => ?_) (fun h => ?_)
  · exact absurd ⟨nI_pos' (by omega), nI_le (b := 2) (by omega) (by decide)⟩ (bI_0.mp h)
  refine And.intro (vp_in_nI (N := 3) hw (by decide)) ?_
  rw [nI_clamp (by omega)]
  exact am_vI am_k192 am_r192 rfl ⟨rfl, rfl, rfl, rfl, rfl, rfl⟩
theorem m_names_bad {w : Int32} (hw : ¬ (0 ≤ w ∧ w ≤ 2)) : am_D l 192 [aR 12 0, aI w] σ τ (rX t) cX lX (some (aI (-1))) σ τ (rX t) := by
  refine am_D_of am_o192 am_l192 rfl ?_
  refine am_vc_ok am_k192 [] 100 ?_
  refine am_vS am_k192 am_h192 rfl rfl rfl rfl (m_in) ?_
  refine am_vc_ok am_k192 [] 100 ?_
  refine And.intro (fun h => ?_) (fun h => ?_)
  · exact am_vI am_k192 am_r192 rfl ⟨rfl, rfl, rfl, rfl, rfl, rfl⟩
  · exact absurd (bI_1.mp h) hw
theorem LC_names (h : Rall σ τ) (w : Int32) : LC l 107 192 [aI w] σ τ t := by
  by_cases hw : 0 ≤ w ∧ w ≤ 2
  · obtain ⟨k, hk, rfl⟩ := ix_le (n := 3) (by decide) hw
    have hm := m_names (l := l) (σ := σ) (τ := τ) (t := t) hk
    have e : σ 55 0 k = σ 4 0 (2 + k) := by
      obtain ⟨e0, e1, e2, -⟩ := h.2.2.2.1
      rcases (show k = 0 ∨ k = 1 ∨ k = 2 by omega) with rfl | rfl | rfl
      · exact e0.symm
      · exact e1.symm
      · exact e2.symm
    rw [e] at hm
    exact LC.of (x_names hk) hm h
  · exact LC.of (x_names_bad hw) (m_names_bad hw) h
-- calls: facts
def cfJ (w : Nat) : Nat := if w = 0 then 7 else if w = 1 then 9 else if w = 2 then 4 else if w = 3 then 14 else if w = 4 then 5 else if w = 5 then 8 else 12
def ctK (w : Nat) : Nat := if w = 0 then 71 else if w = 1 then 72 else if w = 2 then 70 else if w = 3 then 73 else if w = 4 then 74 else if w = 5 then 75 else 77
theorem x_cfact {c w : Nat} (hw : w < 7) : am_D l 1 [aR 0 c, aI (nI w)] σ τ (rX t) cX lX (some (aI (σ 0 c (cfJ w)))) σ τ (rX t) := by
  refine am_D_of am_o1 am_l1 rfl ?_
  refine am_vc_ok am_k1 [] 100 ?_
  match w, hw with
  | 0, _ =>
    refine am_sw 40 (by decide +kernel) ?_
    exact am_vI am_k1 am_r1 rfl ⟨rfl, rfl, rfl, rfl, rfl, rfl⟩
  | 1, _ =>
    refine am_sw 45 (by decide +kernel) ?_
    exact am_vI am_k1 am_r1 rfl ⟨rfl, rfl, rfl, rfl, rfl, rfl⟩
  | 2, _ =>
    refine am_sw 50 (by decide +kernel) ?_
    exact am_vI am_k1 am_r1 rfl ⟨rfl, rfl, rfl, rfl, rfl, rfl⟩
  | 3, _ =>
    refine am_sw 55 (by decide +kernel) ?_
    exact am_vI am_k1 am_r1 rfl ⟨rfl, rfl, rfl, rfl, rfl, rfl⟩
  | 4, _ =>
    refine am_sw 60 (by decide +kernel) ?_
    exact am_vI am_k1 am_r1 rfl ⟨rfl, rfl, rfl, rfl, rfl, rfl⟩
  | 5, _ =>
    refine am_sw 65 (by decide +kernel) ?_
    exact am_vI am_k1 am_r1 rfl ⟨rfl, rfl, rfl, rfl, rfl, rfl⟩
  | 6, _ =>
    refine am_sw 70 (by decide +kernel) ?_
    exact am_vI am_k1 am_r1 rfl ⟨rfl, rfl, rfl, rfl, rfl, rfl⟩
theorem m_callTells {c w : Nat} (hc : c < 30) (hw : w < 7) : am_D l 233 [aR 12 0, aI (nI c), aI (nI w)] σ τ (rX t) cX lX (some (aI (σ (ctK w) 0 c))) σ τ (rX t) := by
  refine am_D_of am_o233 am_l233 rfl ?_
  refine am_vc_ok am_k233 [] 100 ?_
  match w, hw with
  | 0, _ =>
    refine am_sw 40 (by decide +kernel) ?_
    refine And.intro (vp_in_nI (N := 30) hc (by decide)) ?_
    rw [nI_clamp (by omega)]
    exact am_vI am_k233 am_r233 rfl ⟨rfl, rfl, rfl, rfl, rfl, rfl⟩
  | 1, _ =>
    refine am_sw 47 (by decide +kernel) ?_
    refine And.intro (vp_in_nI (N := 30) hc (by decide)) ?_
    rw [nI_clamp (by omega)]
    exact am_vI am_k233 am_r233 rfl ⟨rfl, rfl, rfl, rfl, rfl, rfl⟩
  | 2, _ =>
    refine am_sw 54 (by decide +kernel) ?_
    refine And.intro (vp_in_nI (N := 30) hc (by decide)) ?_
    rw [nI_clamp (by omega)]
    exact am_vI am_k233 am_r233 rfl ⟨rfl, rfl, rfl, rfl, rfl, rfl⟩
  | 3, _ =>
    refine am_sw 61 (by decide +kernel) ?_
    refine And.intro (vp_in_nI (N := 30) hc (by decide)) ?_
    rw [nI_clamp (by omega)]
    exact am_vI am_k233 am_r233 rfl ⟨rfl, rfl, rfl, rfl, rfl, rfl⟩
  | 4, _ =>
    refine am_sw 68 (by decide +kernel) ?_
    refine And.intro (vp_in_nI (N := 30) hc (by decide)) ?_
    rw [nI_clamp (by omega)]
    exact am_vI am_k233 am_r233 rfl ⟨rfl, rfl, rfl, rfl, rfl, rfl⟩
  | 5, _ =>
    refine am_sw 75 (by decide +kernel) ?_
    refine And.intro (vp_in_nI (N := 30) hc (by decide)) ?_
    rw [nI_clamp (by omega)]
    exact am_vI am_k233 am_r233 rfl ⟨rfl, rfl, rfl, rfl, rfl, rfl⟩
  | 6, _ =>
    refine am_sw 82 (by decide +kernel) ?_
    refine And.intro (vp_in_nI (N := 30) hc (by decide)) ?_
    rw [nI_clamp (by omega)]
    exact am_vI am_k233 am_r233 rfl ⟨rfl, rfl, rfl, rfl, rfl, rfl⟩
theorem Rcall.tells {c w : Nat} (h : Rcall σ c) (hw : w < 7) : σ 0 c (cfJ w) = σ (ctK w) 0 c := by
  obtain ⟨h0, h1, h2, h3, h4, h5, h6, h7, h8, h9, h10, h12, h14, -⟩ := h
  match w, hw with
  | 0, _ => exact h7
  | 1, _ => exact h9
  | 2, _ => exact h4
  | 3, _ => exact h14
  | 4, _ => exact h5
  | 5, _ => exact h8
  | 6, _ => exact h12
theorem x_told_bad {c w : Int32} (h : ¬ (0 ≤ c ∧ c < σ 3 0 5) ∨ ¬ (0 ≤ w ∧ w < 7)) : am_D l 124 [aR 11 0, aI c, aI w] σ τ (rX t) cX lX (some (aI (-1))) σ τ (rX t) := by
  refine am_D_of am_o124 am_l124 rfl ?_
  refine am_vc_ok am_k124 [] 100 ?_
  refine am_vS am_k124 am_h124 rfl rfl rfl rfl (x_within) ?_
  refine am_vc_ok am_k124 [] 100 ?_
  refine And.intro (fun h1 => ?_) (fun h1 => ?_)
  · exact am_vI am_k124 am_r124 rfl ⟨rfl, rfl, rfl, rfl, rfl, rfl⟩
  refine am_vS am_k124 am_h124 rfl rfl rfl rfl (x_within) ?_
  refine am_vc_ok am_k124 [] 100 ?_
  refine And.intro (fun h2 => ?_) (fun h2 => ?_)
  · exact am_vI am_k124 am_r124 rfl ⟨rfl, rfl, rfl, rfl, rfl, rfl⟩
  · rcases h with h | h
    · exact absurd (bI_1.mp h1) h
    · exact absurd (bI_1.mp h2) h
theorem x_told {c w n : Nat} (hn : σ 3 0 5 = nI n) (hn2 : n ≤ 30) (hc : c < n) (hw : w < 7) : am_D l 124 [aR 11 0, aI (nI c), aI (nI w)] σ τ (rX t) cX lX (some (aI 1)) (u3 σ 11 0 11 (σ 0 c (cfJ w))) τ (rX t) := by
  refine am_D_of am_o124 am_l124 rfl ?_
  refine am_vc_ok am_k124 [] 100 ?_
  refine am_vS am_k124 am_h124 rfl rfl rfl rfl (x_within) ?_
  refine am_vc_ok am_k124 [] 100 ?_
  refine And.intro (fun h1 => ?_) (fun h1 => ?_)
  · exact absurd (by rw [hn]; exact inN hc (by omega)) (bI_0.mp h1)
  refine am_vS am_k124 am_h124 rfl rfl rfl rfl (x_within) ?_
  refine am_vc_ok am_k124 [] 100 ?_
  refine And.intro (fun h2 => ?_) (fun h2 => ?_)
  · exact absurd (inN (n := 7) hw (by omega)) (bI_0.mp h2)
  refine And.intro (vp_in_nI (N := 30) (by omega) (by decide)) ?_
  rw [nI_clamp (by omega)]
  refine am_vO am_k124 am_h124 rfl rfl rfl rfl (x_cfact hw) ?_
  refine am_vc_ok am_k124 [] 100 ?_
  exact am_vI am_k124 am_r124 rfl ⟨rfl, rfl, rfl, rfl, rfl, rfl⟩
theorem m_told_bad {c w : Int32} (h : ¬ (0 ≤ c ∧ c ≤ σ 12 0 34 - 1) ∨ ¬ (0 ≤ w ∧ w ≤ 6)) : am_D l 234 [aR 12 0, aI c, aI w] σ τ (rX t) cX lX (some (aI (-1))) σ τ (rX t) := by
  refine am_D_of am_o234 am_l234 rfl ?_
  refine am_vc_ok am_k234 [] 100 ?_
  refine am_vO am_k234 am_h234 rfl rfl rfl rfl (m_isCall) ?_
  refine am_vc_ok am_k234 [] 100 ?_
  refine And.intro (fun h1 => ?_) (fun h1 => ?_)
  · exact am_vI am_k234 am_r234 rfl ⟨rfl, rfl, rfl, rfl, rfl, rfl⟩
  refine am_vS am_k234 am_h234 rfl rfl rfl rfl (m_in) ?_
  refine am_vc_ok am_k234 [] 100 ?_
  refine And.intro (fun h2 => ?_) (fun h2 => ?_)
  · exact am_vI am_k234 am_r234 rfl ⟨rfl, rfl, rfl, rfl, rfl, rfl⟩
  · rcases h with h | h
    · exact absurd (bI_1.mp h1) h
    · exact absurd (bI_1.mp h2) h
theorem m_told {c w n : Nat} (hn : σ 12 0 34 = nI n) (hn2 : n ≤ 30) (hc : c < n) (hw : w < 7) : am_D l 234 [aR 12 0, aI (nI c), aI (nI w)] σ τ (rX t) cX lX (some (aI 1)) (u3 σ 12 0 2 (σ (ctK w) 0 c)) τ (rX t) := by
  refine am_D_of am_o234 am_l234 rfl ?_
  refine am_vc_ok am_k234 [] 100 ?_
  refine am_vO am_k234 am_h234 rfl rfl rfl rfl (m_isCall) ?_
  refine am_vc_ok am_k234 [] 100 ?_
  refine And.intro (fun h1 => ?_) (fun h1 => ?_)
  · exact absurd (by rw [hn]; exact (le_pred2 (by omega)).mpr (inN hc (by omega))) (bI_0.mp h1)
  refine am_vS am_k234 am_h234 rfl rfl rfl rfl (m_in) ?_
  refine am_vc_ok am_k234 [] 100 ?_
  refine And.intro (fun h2 => ?_) (fun h2 => ?_)
  · exact absurd ((leN (n := 7) (N := 7) (by decide) (by decide)).mpr (inN (n := 7) hw (by omega))) (bI_0.mp h2)
  refine am_vO am_k234 am_h234 rfl rfl rfl rfl (m_callTells (by omega) hw) ?_
  refine am_vc_ok am_k234 [] 100 ?_
  refine am_vO am_k234 am_h234 rfl rfl rfl rfl (m_ask) ?_
  refine am_vc_ok am_k234 [] 100 ?_
  exact am_vI am_k234 am_r234 rfl ⟨rfl, rfl, rfl, rfl, rfl, rfl⟩
theorem ctK_ne {w : Nat} : ctK w ≠ 11 := by unfold ctK; repeat (split <;> try decide)
theorem LC_told (h : Rall σ τ) (c w : Int32) : LC l 124 234 [aI c, aI w] σ τ t := by
  have hR := h
  obtain ⟨-, -, -, -, -, -, T, n, m, lo, k, hN⟩ := h
  have hn := hN.2.1
  by_cases hc : 0 ≤ c ∧ c < nI n
  · by_cases hw : 0 ≤ w ∧ w < 7
    · obtain ⟨c, hc1, rfl⟩ := ix_lt (nI_toInt (by omega)) hc
      obtain ⟨w, hw1, rfl⟩ := ix_lt (n := 7) (by decide) hw
      have hx := x_told (l := l) (τ := τ) (t := t) hn.1 hn.2.2 hc1 hw1
      have hm := m_told (l := l) (σ := u3 σ 11 0 11 (σ 0 c (cfJ w))) (τ := τ) (t := t) (by simp [u3, hn.2.1]) hn.2.2 hc1 hw1
      rw [u3_k _ _ ctK_ne, ← (hN.2.2.1 c hc1).1.tells hw1] at hm
      exact LC.of hx hm hR.ask
    · exact LC.of (x_told_bad (Or.inr hw)) (m_told_bad (Or.inr (fun z => hw ((leN (n := 7) (N := 7) (by decide) (by decide)).mp z)))) hR
  · exact LC.of (x_told_bad (Or.inl (by rw [hn.1]; exact hc))) (m_told_bad (Or.inl (by rw [hn.2.1]; exact fun z => hc ((le_pred2 (by omega)).mp z)))) hR
theorem x_where_bad {c w : Int32} (h : ¬ (0 ≤ c ∧ c < σ 3 0 5) ∨ ¬ (0 ≤ w ∧ w < 4)) : am_D l 125 [aR 11 0, aI c, aI w] σ τ (rX t) cX lX (some (aI (-1))) σ τ (rX t) := by
  refine am_D_of am_o125 am_l125 rfl ?_
  refine am_vc_ok am_k125 [] 100 ?_
  refine am_vS am_k125 am_h125 rfl rfl rfl rfl (x_within) ?_
  refine am_vc_ok am_k125 [] 100 ?_
  refine And.intro (fun h1 => ?_) (fun h1 => ?_)
  · exact am_vI am_k125 am_r125 rfl ⟨rfl, rfl, rfl, rfl, rfl, rfl⟩
  refine am_vS am_k125 am_h125 rfl rfl rfl rfl (x_within) ?_
  refine am_vc_ok am_k125 [] 100 ?_
  refine And.intro (fun h2 => ?_) (fun h2 => ?_)
  · exact am_vI am_k125 am_r125 rfl ⟨rfl, rfl, rfl, rfl, rfl, rfl⟩
  · rcases h with h | h
    · exact absurd (bI_1.mp h1) h
    · exact absurd (bI_1.mp h2) h
theorem x_where {c w n : Nat} (hn : σ 3 0 5 = nI n) (hn2 : n ≤ 30) (hc : c < n) (hw : w < 4) : am_D l 125 [aR 11 0, aI (nI c), aI (nI w)] σ τ (rX t) cX lX (some (aI (σ 13 c w))) σ τ (rX t) := by
  refine am_D_of am_o125 am_l125 rfl ?_
  refine am_vc_ok am_k125 [] 100 ?_
  refine am_vS am_k125 am_h125 rfl rfl rfl rfl (x_within) ?_
  refine am_vc_ok am_k125 [] 100 ?_
  refine And.intro (fun h1 => ?_) (fun h1 => ?_)
  · exact absurd (by rw [hn]; exact inN hc (by omega)) (bI_0.mp h1)
  refine am_vS am_k125 am_h125 rfl rfl rfl rfl (x_within) ?_
  refine am_vc_ok am_k125 [] 100 ?_
  refine And.intro (fun h2 => ?_) (fun h2 => ?_)
  · exact absurd (inN (n := 4) hw (by omega)) (bI_0.mp h2)
  refine And.intro (vp_in_nI (N := 30) (by omega) (by decide)) ?_
  rw [nI_clamp (n := c) (by omega)]
  refine And.intro (vp_in_nI (N := 4) hw (by decide)) ?_
  rw [nI_clamp (n := w) (by omega)]
  exact am_vI am_k125 am_r125 rfl ⟨rfl, rfl, rfl, rfl, rfl, rfl⟩
theorem m_where_bad {c w : Int32} (h : ¬ (0 ≤ c ∧ c ≤ σ 12 0 34 - 1) ∨ ¬ (0 ≤ w ∧ w ≤ 3)) : am_D l 235 [aR 12 0, aI c, aI w] σ τ (rX t) cX lX (some (aI (-1))) σ τ (rX t) := by
  refine am_D_of am_o235 am_l235 rfl ?_
  refine am_vc_ok am_k235 [] 100 ?_
  refine am_vO am_k235 am_h235 rfl rfl rfl rfl (m_isCall) ?_
  refine am_vc_ok am_k235 [] 100 ?_
  refine And.intro (fun h1 => ?_) (fun h1 => ?_)
  · exact am_vI am_k235 am_r235 rfl ⟨rfl, rfl, rfl, rfl, rfl, rfl⟩
  refine am_vS am_k235 am_h235 rfl rfl rfl rfl (m_in) ?_
  refine am_vc_ok am_k235 [] 100 ?_
  refine And.intro (fun h2 => ?_) (fun h2 => ?_)
  · exact am_vI am_k235 am_r235 rfl ⟨rfl, rfl, rfl, rfl, rfl, rfl⟩
  · rcases h with h | h
    · exact absurd (bI_1.mp h1) h
    · exact absurd (bI_1.mp h2) h
theorem n4 (j k : Nat) : (4 : Int32) * nI j + nI k = nI (4 * j + k) := by
  rw [show (4 : Int32) = nI 4 from rfl, pk_mul, nI_add]
theorem m_where {c w n : Nat} (hn : σ 12 0 34 = nI n) (hn2 : n ≤ 30) (hc : c < n) (hw : w < 4) : am_D l 235 [aR 12 0, aI (nI c), aI (nI w)] σ τ (rX t) cX lX (some (aI (σ 80 0 (4 * c + w)))) σ τ (rX t) := by
  refine am_D_of am_o235 am_l235 rfl ?_
  refine am_vc_ok am_k235 [] 100 ?_
  refine am_vO am_k235 am_h235 rfl rfl rfl rfl (m_isCall) ?_
  refine am_vc_ok am_k235 [] 100 ?_
  refine And.intro (fun h1 => ?_) (fun h1 => ?_)
  · exact absurd (by rw [hn]; exact (le_pred2 (by omega)).mpr (inN hc (by omega))) (bI_0.mp h1)
  refine am_vS am_k235 am_h235 rfl rfl rfl rfl (m_in) ?_
  refine am_vc_ok am_k235 [] 100 ?_
  refine And.intro (fun h2 => ?_) (fun h2 => ?_)
  · exact absurd ((leN (n := 4) (N := 4) (by decide) (by decide)).mpr (inN (n := 4) hw (by omega))) (bI_0.mp h2)
  refine And.intro (by rw [n4]; exact vp_in_nI (N := 120) (by omega) (by decide)) ?_
  rw [n4, nI_clamp (by omega)]
  exact am_vI am_k235 am_r235 rfl ⟨rfl, rfl, rfl, rfl, rfl, rfl⟩
theorem Rcall.sh {c j : Nat} (h : Rcall σ c) (hj : j < 4) : σ 13 c j = σ 80 0 (4 * c + j) := h.2.2.2.2.2.2.2.2.2.2.2.2.2.2.2.2.2.2 j hj
theorem LC_where (h : Rall σ τ) (c w : Int32) : LC l 125 235 [aI c, aI w] σ τ t := by
  have hR := h
  obtain ⟨-, -, -, -, -, -, T, n, m, lo, k, hN⟩ := h
  have hn := hN.2.1
  by_cases hc : 0 ≤ c ∧ c < nI n
  · by_cases hw : 0 ≤ w ∧ w < 4
    · obtain ⟨c, hc1, rfl⟩ := ix_lt (nI_toInt (by omega)) hc
      obtain ⟨w, hw1, rfl⟩ := ix_lt (n := 4) (by decide) hw
      have hm := m_where (l := l) (τ := τ) (t := t) hn.2.1 hn.2.2 hc1 hw1
      rw [← (hN.2.2.1 c hc1).1.sh hw1] at hm
      exact LC.of (x_where hn.1 hn.2.2 hc1 hw1) hm hR
    · exact LC.of (x_where_bad (Or.inr hw)) (m_where_bad (Or.inr (fun z => hw ((leN (n := 4) (N := 4) (by decide) (by decide)).mp z)))) hR
  · exact LC.of (x_where_bad (Or.inl (by rw [hn.1]; exact hc))) (m_where_bad (Or.inl (by rw [hn.2.1]; exact fun z => hc ((le_pred2 (by omega)).mp z)))) hR
end L3
