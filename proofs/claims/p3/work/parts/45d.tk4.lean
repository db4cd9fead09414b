/-! ticks: frames of both sides; what a model's method does to the model's cells; shares -/
section L83
variable {l : Launch} {σ σ2 s s0 s1 A A0 A1 : tI} {τ τ2 : tL} {t : Option (Nat × Nat)} {T n m lo k c : Nat}
/-- what a tick may change, class and model -/
def okx : Nat → Nat → Bool := fun q j => Nat.ble q 1 || Nat.beq q 3 || (Nat.ble 13 q && Nat.ble q 20) || (Nat.beq q 8 && (Nat.beq j 5 || Nat.beq j 6))
def okm : Nat → Nat → Bool := fun q j => (Nat.ble 65 q && Nat.ble q 90) || (Nat.beq q 12 && (Nat.beq j 5 || Nat.beq j 54))
def xF (s0 s : tI) : Prop := ∀ q i j, okx q j = false → s q i j = s0 q i j
def mF (A0 A : tI) : Prop := ∀ q i j, okm q j = false → A q i j = A0 q i j
theorem xF.r : xF s s := fun _ _ _ _ => rfl
theorem mF.r : mF A A := fun _ _ _ _ => rfl
theorem u3_at {f : tI} {q i j a b d : Nat} {v : Int32} (h : ¬ (a = q ∧ b = i ∧ d = j)) : u3 f q i j v a b d = f a b d := by
  unfold u3
  by_cases h1 : a = q
  · by_cases h2 : b = i
    · by_cases h3 : d = j
      · exact absurd ⟨h1, h2, h3⟩ h
      · rw [if_pos h1, if_pos h2, if_neg h3]
    · rw [if_pos h1, if_neg h2]
  · rw [if_neg h1]
theorem xF.u {q i j : Nat} {v : Int32} (h : xF s0 s) (hq : okx q j = true) : xF s0 (u3 s q i j v) := by
  intro a b d hd
  rw [u3_at (fun z => by rw [z.1, z.2.2, hq] at hd; cases hd)]
  exact h a b d hd
theorem mF.u {q i j : Nat} {v : Int32} (h : mF A0 A) (hq : okm q j = true) : mF A0 (u3 A q i j v) := by
  intro a b d hd
  rw [u3_at (fun z => by rw [z.1, z.2.2, hq] at hd; cases hd)]
  exact h a b d hd
theorem xF_mrg (h : xF s0 s) : mrg s s0 = s := by
  funext q i j
  unfold mrg
  cases hq : isC q
  · cases ho : okx q j
    · exact (h q i j ho).symm
    · exfalso
      have e : isC q = true := by
        unfold isC
        unfold okx at ho
        simp only [Bool.or_eq_true, Bool.and_eq_true, Nat.ble_eq, Nat.beq_eq] at ho ⊢
        omega
      rw [hq] at e
      cases e
  · rfl
/-- a method of the model, on the model's cells alone -/
noncomputable def MD (l : Launch) (z : Nat) (as : List am_V) (A : tI) (r : Option am_V) (A1 : tI) : Prop := ∀ (σ : tI) (τ : tL) (t : Option (Nat × Nat)), am_D l z as (mrg σ A) τ (rX t) cX lX r (mrg σ A1) τ (rX t)
noncomputable def MG (l : Launch) (z pc : Nat) (ls : am_ls) (A : tI) (r : Option am_V) (A1 : tI) : Prop := ∀ (σ : tI) (τ : tL) (t : Option (Nat × Nat)), am_G l z (fun v s t' p c n => v = r ∧ s = mrg σ A1 ∧ t' = τ ∧ p = rX t ∧ c = cX ∧ n = lX) 0 0 pc ls [] (mrg σ A) τ (rX t) cX lX
theorem mrg_xsend {kd a b d : Int32} : xsend (mrg s A) m c kd a b d = mrg (xsend s m c kd a b d) A := by
  simp only [xsend, xadd]
  rw [mrg_x rfl, mrg_x rfl, mrg_x rfl, mrg_x rfl, mrg_x rfl, mrg_x rfl, mrg_x rfl, mrg_x rfl, mrg_x rfl]
  rfl
theorem mrg_msend {kd a b c d : Int32} : msend (mrg s A) m kd a b c d = mrg s (msend A m kd a b c d) := by
  simp only [msend]
  rw [mrg_m rfl, mrg_m rfl, mrg_m rfl, mrg_m rfl, mrg_m rfl, mrg_m rfl, mrg_m rfl, mrg_m rfl]
  rfl
theorem mrg_ssnd {kd : Nat} {a b dx dm : Int32} : ssnd (mrg s A) m c kd a b dx dm = mrg (xsend s m c (nI kd) a b dx) (msend A m (nI kd) a b (nI c) dm) := by
  unfold ssnd
  rw [mrg_xsend, mrg_msend]
theorem ccK_ne {q : Nat} (h : ccK q = true) : q ≠ 0 ∧ q ≠ 3 ∧ q ≠ 8 ∧ q ≠ 13 ∧ q ≠ 70 ∧ q ≠ 71 ∧ q ≠ 72 ∧ q ≠ 73 ∧ q ≠ 75 ∧ q ≠ 76 ∧ q ≠ 77 ∧ q ≠ 78 ∧ q ≠ 79 ∧ q ≠ 80 ∧ q ≠ 81 ∧ q ≠ 82 ∧ q ≠ 83 := by
  simp only [ccK, Bool.or_eq_true, Bool.and_eq_true, Nat.ble_eq, Nat.beq_eq] at h
  omega
/-- a share more -/
theorem Rnet.shr {j : Nat} (h : Rnet σ T n m lo k) (hc : c < n) (hj : j < 4) : Rnet (u3 (u3 σ 13 c j (σ 13 c j + 1)) 80 0 (4 * c + j) (σ 80 0 (4 * c + j) + 1)) T n m lo k := by
  obtain ⟨h0, ha⟩ := h.split
  obtain ⟨kR, kO, kU⟩ := h0.2.2.1 c hc
  have E : ccF σ (u3 (u3 σ 13 c j (σ 13 c j + 1)) 80 0 (4 * c + j) (σ 80 0 (4 * c + j) + 1)) c := by
    refine ⟨fun q hq => ?_, fun c2 h2 => ⟨?_, ?_⟩, fun q c2 h1 h1b h1c h2 => ?_, fun c2 y h2 hy => ?_, fun y hy => ?_, fun a y hy5 hy6 => ?_, ?_⟩
    · have z := ccK_ne hq
      funext i y
      simp [u3, z]
    · funext y; simp [u3, h2]
    · funext y; simp [u3, h2]
    · have z : q ≠ 0 ∧ q ≠ 3 ∧ q ≠ 8 ∧ q ≠ 13 ∧ q ≠ 80 := by omega
      simp [u3, h2, z]
    · have z2 : ¬ 4 * c2 + y = 4 * c + j := (by omega); simp [u3, z2]
    · simp [u3, hy]
    · simp [u3, hy5, hy6]
    · simp [u3]
  refine Rnet.join (h0.cc hc E ?_ ?_ ?_ ?_ ?_) (Racc.S (x := 0) (ha.S0.cc E ?_ ?_ ?_ ?_))
  · unfold Rcall at kR ⊢
    obtain ⟨a0, a1, a2, a3, a4, a5, a6, a7, a8, a9, b0, b1, b2, b3, b4, b5, b6, b7, b8⟩ := kR
    refine ⟨?_, ?_, ?_, ?_, ?_, ?_, ?_, ?_, ?_, ?_, ?_, ?_, ?_, ?_, ?_, ?_, ?_, ?_, ?_⟩
    all_goals (first | (simp [u3]; done) | (simp [u3]; assumption) | skip)
    intro j2 h2
    by_cases e : j2 = j
    · subst e
      simp [u3, b8 j2 hj]
    · have : ¬ 4 * c + j2 = 4 * c + j := by omega
      simp [u3, e, this, b8 j2 h2]
  · simpa [Ocall, u3] using kO
  · simpa [u3] using h0.2.2.2.2.1
  · intro a ha
    exact (h0.2.2.2.2.2.1 a ha).2.2.2.2.2.2
  · intro f _ _ _ _
    simp [u3]
  · simp [u3]
  · simp [u3]
  · simp [u3]
  · obtain ⟨P, S, Rp, Kc, g1, g2, g3, g4, g5, g6, g7, g8⟩ := ha
    simpa [u3] using (g8 c hc).2.2
def shx (s : tI) (c : Nat) : Int32 := if s 0 c 12 = 0 then (if s 0 c 11 ≤ 0 then 3 else 0) else s 0 c 12
theorem x_share : am_D l 3 [aR 0 c] s τ (rX t) cX lX (some (aI (shx s c))) s τ (rX t) := by
  unfold shx
  refine am_D_of am_o3 am_l3 rfl ?_
  refine am_vc_ok am_k3 [] 100 ?_
  refine And.intro (fun h => ?_) (fun h => ?_)
  · have h : s 0 c 12 = 0 := h
    rw [if_pos h]
    refine And.intro (fun h2 => ?_) (fun h2 => ?_)
    · have h2 : s 0 c 11 ≤ 0 := h2
      rw [if_pos h2]
      exact am_vI am_k3 am_r3 rfl ⟨rfl, rfl, rfl, rfl, rfl, rfl⟩
    · have h2 : ¬ s 0 c 11 ≤ 0 := h2
      rw [if_neg h2]
      exact am_vI am_k3 am_r3 rfl ⟨rfl, rfl, rfl, rfl, rfl, rfl⟩
  · have h : ¬ s 0 c 12 = 0 := h
    rw [if_neg h]
    exact am_vI am_k3 am_r3 rfl ⟨rfl, rfl, rfl, rfl, rfl, rfl⟩
/-- frames of call c under way -/
abbrev uwM (A : tI) (c m : Nat) : Nat := cntN (fun f => decide (A 88 0 f = 0 ∧ A 89 0 f = nI c)) m
def shm (A : tI) (c m : Nat) : Int32 := if A 77 0 c = 0 then (if uwM A c m = 0 then 3 else 0) else A 77 0 c
theorem Rnet.shv (h : Rnet σ T n m lo k) (hc : c < n) : shx σ c = shm σ c m ∧ ∃ j, j < 4 ∧ shm σ c m = nI j := by
  have h0 := h.split.1
  obtain ⟨kR, kO, kU⟩ := h0.2.2.1 c hc
  have e12 : σ 0 c 12 = σ 77 0 c := kR.2.2.2.2.2.2.2.2.2.2.2.1
  have eu : undU σ lo m c = uwM σ c m := by
    refine cntN_cg (fun f hf => ?_)
    have g := h0.2.2.2.2.2.2.2.2.2.1.2.2
    by_cases hl : lo ≤ f
    · have := g.2 f hl hf
      simp [hl, this]
    · have z : ¬ σ 88 0 f = 0 := by
        rcases g.1 f (by omega) with e | e <;> rw [e] <;> decide
      simp [hl, z]
  have hm := h.m_le
  have hle : uwM σ c m ≤ m := cntN_le
  constructor
  · unfold shx shm
    rw [e12, kU, eu]
    by_cases z : uwM σ c m = 0
    · rw [z, if_pos (show nI 0 ≤ 0 by decide), if_pos rfl]
    · have z3 : ¬ nI (uwM σ c m) ≤ nI 0 := nI_ge (b := uwM σ c m) (by omega) (by omega)
      rw [if_neg z, if_neg (show ¬ nI (uwM σ c m) ≤ 0 from z3)]
  · unfold shm
    rcases kO.2.2.2.2.1 with e | e | e
    · rw [if_pos e]
      by_cases z : uwM σ c m = 0
      · exact ⟨3, by decide, by rw [if_pos z]; rfl⟩
      · exact ⟨0, by decide, by rw [if_neg z]; rfl⟩
    · rw [e]; exact ⟨1, by decide, rfl⟩
    · rw [e]; exact ⟨2, by decide, rfl⟩
theorem m_sh_in {Q : tQ} (hm : σ 12 0 54 = nI m) (hm2 : m ≤ 690) (K : am_G l 227 Q 0 0 57 [(3, aI (nI m)), (2, aI (if uwM σ c m = 0 then 0 else 1)), (1, aI (nI c)), (0, aR 12 0)] [] σ τ (rX t) cX lX) : ∀ (d f : Nat), f + d = m → am_G l 227 Q 0 0 14 [(3, aI (nI f)), (2, aI (if uwM σ c f = 0 then 0 else 1)), (1, aI (nI c)), (0, aR 12 0)] [] σ τ (rX t) cX lX
  | 0, f, h => by
    obtain rfl : f = m := by omega
    refine am_vc_ok am_k227 [14, 57] 100 ?_
    exact And.intro (fun _ => K) (fun h1 => absurd (by rw [hm]; exact Int32.le_refl _) h1)
  | d + 1, f, h => by
    have K2 := m_sh_in hm hm2 K d (f + 1) (by omega)
    rw [← nI_1] at K2
    refine am_vc_ok am_k227 [14, 57] 100 ?_
    refine And.intro (fun h1 => absurd (show nI m ≤ nI f by rw [← hm]; exact h1) (nI_ge (b := m) (by omega) (by omega))) (fun _ => ?_)
    by_cases y : uwM σ c f = 0
    · rw [if_pos y]
      refine And.intro (fun _ => ?_) (fun g => absurd rfl g)
      refine And.intro (vp_in_nI (N := 1200) (show f < 1200 by omega) (by decide)) ?_
      rw [nI_clamp (n := f) (by omega)]
      refine And.intro (fun h1 => ?_) (fun h1 => ?_)
      · have h1 : σ 88 0 f = 0 := h1
        refine And.intro (vp_in_nI (N := 1200) (show f < 1200 by omega) (by decide)) ?_
        rw [nI_clamp (n := f) (by omega)]
        refine And.intro (fun h2 => ?_) (fun h2 => ?_)
        · have h2 : σ 89 0 f = nI c := h2
          rw [if_neg (show ¬ uwM σ c (f + 1) = 0 by unfold uwM; rw [cntN_1 (by simp [h1, h2])]; omega)] at K2
          exact K2
        · have h2 : ¬ σ 89 0 f = nI c := h2
          rw [if_pos (show uwM σ c (f + 1) = 0 by unfold uwM; rw [cntN_0 (by simp [h2])]; exact y)] at K2
          exact K2
      · have h1 : ¬ σ 88 0 f = 0 := h1
        rw [if_pos (show uwM σ c (f + 1) = 0 by unfold uwM; rw [cntN_0 (by simp [h1])]; exact y)] at K2
        exact K2
    · rw [if_neg y]
      refine And.intro (fun g => absurd g (by decide)) (fun _ => ?_)
      rw [if_neg (show ¬ uwM σ c (f + 1) = 0 from fun z => y (Nat.le_zero.mp (z ▸ (Nat.le_add_right _ _ : uwM σ c f ≤ uwM σ c (f + 1)))))] at K2
      exact K2
/-- one call's share, the model -/
def shM (A : tI) (c j : Nat) : tI := if A 71 0 c = 0 then u3 A 80 0 (4 * c + j) (A 80 0 (4 * c + j) + 1) else A
theorem m_sh {Q : tQ} {j : Nat} (hc : c < n) (hn : σ 12 0 34 = nI n) (hn2 : n ≤ 30) (hm : σ 12 0 54 = nI m) (hm2 : m ≤ 690) (hj : shm σ c m = nI j) (hj2 : j < 4) (K : am_G l 227 Q 0 0 2 [(1, aI (nI (c + 1))), (0, aR 12 0)] [] (shM σ c j) τ (rX t) cX lX) : am_G l 227 Q 0 0 2 [(1, aI (nI c)), (0, aR 12 0)] [] σ τ (rX t) cX lX := by
  rw [← nI_1] at K
  unfold shM at K
  unfold shm at hj
  refine am_vc_ok am_k227 [14] 100 ?_
  refine And.intro (fun h1 => absurd (show nI n ≤ nI c by rw [← hn]; exact h1) (nI_ge (b := n) (by omega) (by omega))) (fun _ => ?_)
  refine m_sh_in hm hm2 ?_ m 0 (by omega)
  refine am_vc_ok am_k227 [2] 100 ?_
  refine And.intro (vp_in_nI (N := 30) (show c < 30 by omega) (by decide)) ?_
  rw [nI_clamp (n := c) (by omega)]
  refine And.intro (fun h1 => ?_) (fun h1 => ?_)
  rotate_left
  · have h1 : ¬ σ 71 0 c = 0 := h1
    rw [if_neg h1] at K
    exact am_Gp [0, 3] rfl K
  have h1 : σ 71 0 c = 0 := h1
  rw [if_pos h1] at K
  refine And.intro (vp_in_nI (N := 30) (show c < 30 by omega) (by decide)) ?_
  rw [nI_clamp (n := c) (by omega)]
  have n4 : (4 : Int32) * nI c = nI (4 * c) := by rw [show (4 : Int32) = nI 4 from rfl, pk_mul]
  refine And.intro (fun h2 => ?_) (fun h2 => ?_)
  · have h2 : σ 77 0 c = 0 := h2
    rw [if_pos h2] at hj
    by_cases y : uwM σ c m = 0
    · rw [if_pos y] at hj ⊢
      have e4 : (4 : Int32) * nI c + 3 = nI (4 * c + j) := by rw [hj, n4, nI_add]
      refine And.intro (fun _ => ?_) (fun g => absurd rfl g)
      refine And.intro (by rw [e4]; exact vp_in_nI (N := 120) (show 4 * c + j < 120 by omega) (by decide)) ?_
      refine And.intro (by rw [e4]; exact vp_in_nI (N := 120) (show 4 * c + j < 120 by omega) (by decide)) ?_
      rw [e4, nI_clamp (n := 4 * c + j) (by omega)]
      exact am_Gp [0, 3] rfl K
    · rw [if_neg y] at hj ⊢
      have e4 : (4 : Int32) * nI c + 0 = nI (4 * c + j) := by rw [hj, n4, nI_add]
      refine And.intro (fun g => absurd g (by decide)) (fun _ => ?_)
      refine And.intro (by rw [e4]; exact vp_in_nI (N := 120) (show 4 * c + j < 120 by omega) (by decide)) ?_
      refine And.intro (by rw [e4]; exact vp_in_nI (N := 120) (show 4 * c + j < 120 by omega) (by decide)) ?_
      rw [e4, nI_clamp (n := 4 * c + j) (by omega)]
      exact am_Gp [0, 3] rfl K
  · have h2 : ¬ σ 77 0 c = 0 := h2
    rw [if_neg h2] at hj
    have e4 : (4 : Int32) * nI c + σ 77 0 c = nI (4 * c + j) := by rw [hj, n4, nI_add]
    refine And.intro (vp_in_nI (N := 30) (show c < 30 by omega) (by decide)) ?_
    rw [nI_clamp (n := c) (by omega)]
    refine And.intro (by rw [e4]; exact vp_in_nI (N := 120) (show 4 * c + j < 120 by omega) (by decide)) ?_
    refine And.intro (by rw [e4]; exact vp_in_nI (N := 120) (show 4 * c + j < 120 by omega) (by decide)) ?_
    rw [e4, nI_clamp (n := 4 * c + j) (by omega)]
    exact am_Gp [0, 3] rfl K
theorem shm_mrg : shm (mrg s A) c m = shm A c m := rfl
theorem shx_mrg : shx (mrg s A) c = shx s c := rfl
theorem mrg_shM {j : Nat} : shM (mrg s A) c j = mrg s (shM A c j) := by
  unfold shM
  show (if A 71 0 c = 0 then _ else _) = _
  by_cases h : A 71 0 c = 0
  · rw [if_pos h, if_pos h, mrg_m rfl]
    rfl
  · rw [if_neg h, if_neg h]
theorem m_sh_step {j : Nat} (hR : Rnet (mrg s A) T n m lo k) (hc : c < n) (hj : shm A c m = nI j) (hj2 : j < 4) (h : MG l 227 2 [(1, aI (nI (c + 1))), (0, aR 12 0)] (shM A c j) none A1) : MG l 227 2 [(1, aI (nI c)), (0, aR 12 0)] A none A1 := by
  intro σ τ t
  have h0 := hR.split.1
  exact m_sh (j := j) hc h0.2.1.2.1 h0.2.1.2.2 h0.2.2.2.2.2.2.1.2 hR.m_le hj hj2 (am_Gs mrg_shM (h σ τ t))
theorem m_sh_end (hn : A 12 0 34 = nI n) : MG l 227 2 [(1, aI (nI n)), (0, aR 12 0)] A none A := by
  intro σ τ t
  refine am_vc_ok am_k227 [2, 14] 100 ?_
  refine And.intro (fun _ => ?_) (fun g => absurd (show A 12 0 34 ≤ nI n by rw [hn]; exact Int32.le_refl _) g)
  exact am_vV am_k227 am_r227 rfl ⟨rfl, rfl, rfl, rfl, rfl, rfl⟩
theorem m_sh_rest (hR : Rnet (mrg s A) T n m lo k) : ∀ (d c : Nat), c + d = n → (∀ c2, c ≤ c2 → c2 < n → ¬ A 71 0 c2 = 0) → MG l 227 2 [(1, aI (nI c)), (0, aR 12 0)] A none A
  | 0, c, h, _ => by
    obtain rfl : c = n := by omega
    exact m_sh_end hR.split.1.2.1.2.1
  | d + 1, c, h, hz => by
    obtain ⟨j, hj, hj2⟩ := (hR.shv (c := c) (by omega)).2
    refine m_sh_step hR (by omega) (j := j) hj2 hj ?_
    rw [show shM A c j = A from if_neg (hz c (Nat.le_refl _) (by omega))]
    exact m_sh_rest hR d (c + 1) (by omega) (fun c2 h1 h2 => hz c2 (by omega) h2)
theorem cntN_none {p : Nat → Bool} : ∀ {n : Nat}, cntN p n = 0 → ∀ c, c < n → p c = false
  | 0, _, c, hc => absurd hc (by omega)
  | n + 1, h, c, hc => by
    have h : cntN p n + (if p n = true then 1 else 0) = 0 := h
    by_cases e : c = n
    · subst e
      cases hp : p c
      · rfl
      · rw [hp] at h
        simp at h
    · exact cntN_none (n := n) (by omega) c (by omega)
theorem xm_share {Q : tQ} : ∀ (d c : Nat) {s A : tI}, c + d = n → Rnet (mrg s A) T n m lo k → xF s0 s → mF A0 A → (∀ s1 A1, MG l 227 2 [(1, aI (nI c)), (0, aR 12 0)] A none A1 → Rnet (mrg s1 A1) T n m lo k → xF s0 s1 → mF A0 A1 → Q none s1 τ (rX t) cX lX) → am_G l 20 Q 0 0 2 [(1, aI (nI c)), (0, aR 3 0)] [] s τ (rX t) cX lX
  | 0, c, s, A, h, hR, hF, hM, hQ => by
    obtain rfl : c = n := by omega
    have h0 := hR.split.1
    have h5 : s 3 0 5 = nI c := h0.2.1.1
    refine am_vc_ok am_k20 [] 100 ?_
    refine And.intro (fun _ => ?_) (fun g => absurd (show s 3 0 5 ≤ nI c by rw [h5]; exact Int32.le_refl _) g)
    refine am_vV am_k20 am_r20 rfl (hQ s A (m_sh_end h0.2.1.2.1) hR hF hM)
  | d + 1, c, s, A, h, hR, hF, hM, hQ => by
    have h0 := hR.split.1
    have hn := h0.2.1.2.2
    have h5 : s 3 0 5 = nI n := h0.2.1.1
    have h6 : s 3 0 6 = nI (cntN (fun c => decide (A 71 0 c = 0)) n) := h0.2.2.2.2.1
    have hle : cntN (fun c => decide (A 71 0 c = 0)) n ≤ n := cntN_le
    have h7 : s 0 c 7 = A 71 0 c := (h0.2.2.1 c (by omega)).1.2.2.2.2.2.2.2.1
    obtain ⟨hv, j, hj, hj2⟩ := hR.shv (c := c) (by omega)
    have hx : shx s c = nI j := hv.trans hj2
    refine am_vc_ok am_k20 [2] 100 ?_
    refine And.intro (fun g => absurd (show nI n ≤ nI c by rw [← h5]; exact g) (nI_ge (b := n) (by omega) (by omega))) (fun _ => ?_)
    refine And.intro (fun g => ?_) (fun g => ?_)
    · have g : s 3 0 6 ≤ 0 := g
      refine am_vV am_k20 am_r20 rfl (hQ s A ?_ hR hF hM)
      refine m_sh_rest hR (d + 1) c h (fun c2 _ h2 e => ?_)
      rw [h6] at g
      have z : cntN (fun c => decide (A 71 0 c = 0)) n = 0 := by
        by_cases e : cntN (fun c => decide (A 71 0 c = 0)) n = 0
        · exact e
        · exact absurd (show nI (cntN (fun c => decide (A 71 0 c = 0)) n) ≤ nI 0 from g) (nI_ge (b := cntN (fun c => decide (A 71 0 c = 0)) n) (by omega) (by omega))
      have := cntN_none z c2 h2
      simp [e] at this
    · refine And.intro (vp_in_nI (N := 30) (show c < 30 by omega) (by decide)) ?_
      rw [nI_clamp (n := c) (by omega)]
      refine And.intro (fun z => ?_) (fun z => ?_)
      · have z : s 0 c 7 = 0 := z
        refine And.intro (vp_in_nI (N := 30) (show c < 30 by omega) (by decide)) ?_
        refine And.intro (vp_in_nI (N := 30) (show c < 30 by omega) (by decide)) ?_
        rw [nI_clamp (n := c) (by omega)]
        refine am_vO am_k20 am_h20 rfl rfl rfl rfl (x_share) ?_
        refine am_vc_ok am_k20 [2] 100 ?_
        rw [hx]
        refine And.intro (vp_in_nI (N := 4) hj (by decide)) ?_
        refine And.intro (vp_in_nI (N := 4) hj (by decide)) ?_
        rw [nI_clamp (n := j) (by omega)]
        have R1 := hR.shr (c := c) (by omega) hj
        rw [← mrg_x (q := 13) rfl, ← mrg_m (q := 80) rfl] at R1
        have e1 : shM A c j = u3 A 80 0 (4 * c + j) (A 80 0 (4 * c + j) + 1) := if_pos (h7.symm.trans z)
        have K := xm_share d (c + 1) (s := u3 s 13 c j (s 13 c j + 1)) (A := shM A c j) (by omega) (by rw [e1]; exact R1) (hF.u rfl) (by rw [e1]; exact hM.u rfl) (fun s1 A1 q => hQ s1 A1 (m_sh_step hR (by omega) hj2 hj q))
        rw [← nI_1] at K
        exact K
      · have z : ¬ s 0 c 7 = 0 := z
        have e1 : shM A c j = A := if_neg (fun y => z (h7.trans y))
        have K := xm_share d (c + 1) (s := s) (A := A) (by omega) hR hF hM (fun s1 A1 q => hQ s1 A1 (m_sh_step hR (by omega) hj2 hj (by rw [e1]; exact q)))
        rw [← nI_1] at K
        exact K
theorem xm_shareOut (hR : Rnet (mrg s A) T n m lo k) (hF : xF s0 s) (hM : mF A0 A) : am_T l 20 [aR 3 0] s τ t (fun v s1 τ1 t1 => v = none ∧ τ1 = τ ∧ t1 = t ∧ ∃ A1, MD l 227 [aR 12 0] A none A1 ∧ Rnet (mrg s1 A1) T n m lo k ∧ xF s0 s1 ∧ mF A0 A1) := by
  refine am_T_of am_o20 am_l20 rfl ?_
  refine am_vc_ok am_k20 [2] 100 ?_
  refine xm_share n 0 (by omega) hR hF hM (fun s1 A1 q r f g => ⟨t, rfl, rfl, rfl, rfl, rfl, rfl, A1, fun σ τ t => ?_, r, f, g⟩)
  refine am_D_of am_o227 am_l227 rfl ?_
  refine am_vc_ok am_k227 [2] 100 ?_
  exact q σ τ t
end L83
