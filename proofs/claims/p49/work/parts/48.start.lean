/-! THE WORLD behind the constructors, as the cases of the law take it -/
noncomputable def g0pI (g : Option am_res) : tI := match g with | some (_, σ, _) => σ | none => fun _ _ _ => 0
noncomputable def g0I : tI := g0pI gM
noncomputable def g0pL (g : Option am_res) : tL := match g with | some (_, _, τ, _) => τ | none => fun _ _ _ => 0
noncomputable def g0L : tL := g0pL gM
/-- kinds whose ints are known -/
def kKn (k : Nat) : Bool := Nat.ble k 13 || (Nat.beq k 31 || (Nat.beq k 42 || (Nat.beq k 43 || (Nat.beq k 44 || (Nat.beq k 47 || (Nat.beq k 49 || (Nat.beq k 55 || (Nat.beq k 57 || (Nat.beq k 58 || (Nat.beq k 59 || (Nat.beq k 62 || (Nat.beq k 63 || (Nat.beq k 64 || (Nat.beq k 72 || (Nat.beq k 73 || (Nat.beq k 77 || (Nat.beq k 78 || (Nat.beq k 80 || (Nat.beq k 81 || (Nat.beq k 82 || Nat.beq k 83))))))))))))))))))))
noncomputable def e1 : tI := fun k i j => bif kKn k then e0 k i j else g0I k i j
noncomputable def t1L : tL := fun k i j => bif (Nat.beq k 11 && (Nat.beq j 12 || Nat.beq j 13)) || (Nat.beq k 12 && (Nat.beq j 3 || Nat.beq j 4)) then (bif Nat.beq j 13 || Nat.beq j 4 then 1 else 0) else g0L k i j
theorem kKn_in : ∀ k, k < 94 → kKn k = true → k ∈ [0] ∨ k ∈ [1, 2, 3, 4, 5, 6, 7, 8, 9, 10, 11, 12, 31, 42, 43, 44, 47, 49, 55, 57, 58, 59, 62, 63, 64] ∨ k ∈ [13, 72, 73, 77, 78, 81, 82, 83] ∨ k ∈ [80] := by decide +kernel
theorem kRf_in : ∀ k, k < 94 → (k < 13 ∨ ¬ am_ek k < 2) → k ∈ [0] ∨ k ∈ [1, 2, 3, 4, 5, 6, 7, 8, 9, 10, 11, 12, 24, 25, 39, 40, 41] := by decide +kernel
theorem kLg_all : ((List.range 13).all fun k => (List.range (am_nf k)).all fun j => decide (am_ft k j = 1 → (k = 11 ∧ (j = 12 ∨ j = 13)) ∨ (k = 12 ∧ (j = 3 ∨ j = 4 ∨ j = 68)))) = true := by decide +kernel
theorem kLg_in (k : Nat) (hk : k < 13) (j : Nat) (hj : j < am_nf k) : am_ft k j = 1 → (k = 11 ∧ (j = 12 ∨ j = 13)) ∨ (k = 12 ∧ (j = 3 ∨ j = 4 ∨ j = 68)) :=
  of_decide_eq_true (List.all_eq_true.mp (List.all_eq_true.mp kLg_all k (List.mem_range.mpr hk)) j (List.mem_range.mpr hj))
section STA
variable {σ : tI} {τ : tL} {ρ : tR} {cn : tN} {ln : tM} {v : Option am_V}
theorem gM_facts (h : gM = some (v, σ, τ, ρ, cn, ln)) : v = none ∧ (τ 11 0 12 = 0 ∧ τ 11 0 13 = 1 ∧ τ 12 0 3 = 0 ∧ τ 12 0 4 = 1) ∧ (∀ k, k < 94 → cn k = cX k) ∧ ∀ k i, k < 94 → i < cX k → 13 ≤ k → ln k i = lX k i := by
  have h1 := gM_fin1
  rw [h] at h1
  unfold am_fin1 at h1
  rw [Bool.and_eq_true, Bool.and_eq_true, decide_eq_true_eq] at h1
  obtain ⟨h2, h3, h4⟩ := h1
  have h5 := List.all_eq_true.mp h4
  refine ⟨Option.isNone_iff_eq_none.mp h2, h3, fun k hk => ?_, fun k i hk hi h13 => ?_⟩
  · have h6 := h5 k (List.mem_range.mpr hk)
    rw [Bool.and_eq_true] at h6
    exact am_beq h6.1
  · have h6 := h5 k (List.mem_range.mpr hk)
    rw [Bool.and_eq_true] at h6
    have h7 := List.all_eq_true.mp h6.2 i (List.mem_range.mpr hi)
    rw [Bool.or_eq_true] at h7
    rcases h7 with h7 | h7
    · exact absurd (Nat.le_of_ble_eq_true h7) (by omega)
    · exact am_beq h7
theorem fin2_at {ks : List Nat} (hf : am_fin2 ks gM = true) (h : gM = some (v, σ, τ, ρ, cn, ln)) {k i j : Nat} (hk : k ∈ ks) (hi : i < cX k) (hj : k < 13 ∧ j < am_nf k ∨ ¬ k < 13 ∧ ¬ am_ek k < 2 ∧ j < lX k i) : ρ k i j = rX none k i j := by
  rw [h] at hf
  have h1 := List.all_eq_true.mp (List.all_eq_true.mp hf k hk) i (List.mem_range.mpr hi)
  refine of_decide_eq_true (List.all_eq_true.mp h1 j (List.mem_range.mpr ?_))
  rcases hj with ⟨h2, h3⟩ | ⟨h2, h3, h4⟩
  · rw [show Nat.blt k 13 = true from Nat.ble_eq_true_of_le h2]
    exact h3
  · cases e : Nat.blt k 13 with
    | true => exact absurd (Nat.le_of_ble_eq_true e) h2
    | false =>
      cases e2 : Nat.blt (am_ek k) 2 with
      | true => exact absurd (Nat.le_of_ble_eq_true e2) h3
      | false => exact h4
theorem fin3_at {ks : List Nat} (hf : am_fin3 ks gM = true) (h : gM = some (v, σ, τ, ρ, cn, ln)) {k i j : Nat} (hk : k ∈ ks) (hi : i < cX k) (hj : k < 13 ∧ j < am_nf k ∨ ¬ k < 13 ∧ j < lX k i) : σ k i j = e0 k i j := by
  rw [h] at hf
  have h1 := List.all_eq_true.mp (List.all_eq_true.mp hf k hk) i (List.mem_range.mpr hi)
  refine of_decide_eq_true (List.all_eq_true.mp h1 j (List.mem_range.mpr ?_))
  rcases hj with ⟨h2, h3⟩ | ⟨h2, h3⟩
  · rw [show Nat.blt k 13 = true from Nat.ble_eq_true_of_le h2]
    exact h3
  · cases e : Nat.blt k 13 with
    | true => exact absurd (Nat.le_of_ble_eq_true e) h2
    | false => exact h3
theorem g0I_at (h : gM = some (v, σ, τ, ρ, cn, ln)) : g0I = σ := congrArg g0pI h
theorem g0L_at (h : gM = some (v, σ, τ, ρ, cn, ln)) : g0L = τ := congrArg g0pL h
theorem g_rho (h : gM = some (v, σ, τ, ρ, cn, ln)) {k i j : Nat} (hk : k < 94) (hi : i < cX k) (hj : k < 13 ∧ j < am_nf k ∨ ¬ k < 13 ∧ ¬ am_ek k < 2 ∧ j < lX k i) : ρ k i j = rX none k i j := by
  rcases kRf_in k hk (by rcases hj with h1 | h1; exact Or.inl h1.1; exact Or.inr h1.2.1) with h1 | h1
  · exact fin2_at gM_fin2a h h1 hi hj
  · exact fin2_at gM_fin2b h h1 hi hj
theorem g_sig (h : gM = some (v, σ, τ, ρ, cn, ln)) {k i j : Nat} (hk : k < 94) (hi : i < cX k) (hj : k < 13 ∧ j < am_nf k ∨ ¬ k < 13 ∧ j < lX k i) : σ k i j = e1 k i j := by
  unfold e1
  cases e : kKn k with
  | false =>
    rw [cond_false]
    rw [g0I_at h]
  | true =>
    rw [cond_true]
    rcases kKn_in k hk e with h1 | h1 | h1 | h1
    · exact fin3_at gM_fin3a h h1 hi hj
    · exact fin3_at gM_fin3b h h1 hi hj
    · exact fin3_at gM_fin3c h h1 hi hj
    · exact fin3_at gM_fin3d h h1 hi hj
theorem g_tau (h : gM = some (v, σ, τ, ρ, cn, ln)) {k i j : Nat} (hk : k < 13) (hi : i < cX k) (hj : j < am_nf k) (hf : am_ft k j = 1) : τ k i j = t1L k i j := by
  obtain ⟨-, ⟨a1, a2, a3, a4⟩, -, -⟩ := gM_facts h
  rcases kLg_in k hk j hj hf with ⟨rfl, h1⟩ | ⟨rfl, h1⟩
  · have h0 : i = 0 := by
      have : cX 11 = 1 := rfl
      omega
    subst h0
    rcases h1 with rfl | rfl
    · exact a1
    · exact a2
  · have h0 : i = 0 := by
      have : cX 12 = 1 := rfl
      omega
    subst h0
    rcases h1 with rfl | rfl | rfl
    · exact a3
    · exact a4
    · have e : ((Nat.beq 12 11 && (Nat.beq 68 12 || Nat.beq 68 13)) || (Nat.beq 12 12 && (Nat.beq 68 3 || Nat.beq 68 4))) = false := rfl
      unfold t1L
      rw [e, cond_false]
      rw [g0L_at h]
theorem cX_ge {k : Nat} (h : 94 ≤ k) : cX k = 0 := by
  have h1 : ∀ c, c < 94 → Nat.beq k c = false := fun c hc => by
    cases e : Nat.beq k c with
    | false => rfl
    | true => exact absurd (am_beq e) (by omega)
  have h2 : ∀ c, c ≤ 94 → Nat.blt k c = false := fun c hc => by
    cases e : Nat.blt k c with
    | false => rfl
    | true => exact absurd (Nat.le_of_ble_eq_true e) (by omega)
  unfold cX
  simp (discharger := decide) only [h1, h2, cond_false]
theorem rX_hi {k i j : Nat} (hk : k < 13) (hj : am_nf k ≤ j) : rX none k i j = none := by
  have h1 : ∀ c, c < am_nf k → Nat.beq j c = false := fun c hc => by
    cases e : Nat.beq j c with
    | false => rfl
    | true => exact absurd (am_beq e) (by omega)
  have h2 : ∀ c, c ≤ am_nf k → Nat.blt j c = false := fun c hc => by
    cases e : Nat.blt j c with
    | false => rfl
    | true => exact absurd (Nat.le_of_ble_eq_true e) (by omega)
  rcases (show k = 0 ∨ k = 1 ∨ k = 2 ∨ k = 3 ∨ k = 4 ∨ k = 5 ∨ k = 6 ∨ k = 7 ∨ k = 8 ∨ k = 9 ∨ k = 10 ∨ k = 11 ∨ k = 12 by omega) with rfl | rfl | rfl | rfl | rfl | rfl | rfl | rfl | rfl | rfl | rfl | rfl | rfl
  · have h3 : ∀ c, c < 20 → Nat.beq j c = false := h1
    have h4 : ∀ c, c ≤ 20 → Nat.blt j c = false := h2
    show (rX none 0) i j = none
    conv => lhs; whnf
    simp (discharger := decide) only [h3, h4, cond_false, cond_true]
  · have h3 : ∀ c, c < 10 → Nat.beq j c = false := h1
    have h4 : ∀ c, c ≤ 10 → Nat.blt j c = false := h2
    show (rX none 1) i j = none
    conv => lhs; whnf
    simp (discharger := decide) only [h3, h4, cond_false, cond_true]
  · have h3 : ∀ c, c < 4 → Nat.beq j c = false := h1
    have h4 : ∀ c, c ≤ 4 → Nat.blt j c = false := h2
    show (rX none 2) i j = none
    conv => lhs; whnf
    simp (discharger := decide) only [h3, h4, cond_false, cond_true]
  · have h3 : ∀ c, c < 9 → Nat.beq j c = false := h1
    have h4 : ∀ c, c ≤ 9 → Nat.blt j c = false := h2
    show (rX none 3) i j = none
    conv => lhs; whnf
    simp (discharger := decide) only [h3, h4, cond_false, cond_true]
  · have h3 : ∀ c, c < 10 → Nat.beq j c = false := h1
    have h4 : ∀ c, c ≤ 10 → Nat.blt j c = false := h2
    show (rX none 4) i j = none
    conv => lhs; whnf
    simp (discharger := decide) only [h3, h4, cond_false, cond_true]
  · have h3 : ∀ c, c < 6 → Nat.beq j c = false := h1
    have h4 : ∀ c, c ≤ 6 → Nat.blt j c = false := h2
    show (rX none 5) i j = none
    conv => lhs; whnf
    simp (discharger := decide) only [h3, h4, cond_false, cond_true]
  · have h3 : ∀ c, c < 3 → Nat.beq j c = false := h1
    have h4 : ∀ c, c ≤ 3 → Nat.blt j c = false := h2
    show (rX none 6) i j = none
    conv => lhs; whnf
    simp (discharger := decide) only [h3, h4, cond_false, cond_true]
  · have h3 : ∀ c, c < 3 → Nat.beq j c = false := h1
    have h4 : ∀ c, c ≤ 3 → Nat.blt j c = false := h2
    show (rX none 7) i j = none
    conv => lhs; whnf
    simp (discharger := decide) only [h3, h4, cond_false, cond_true]
  · have h3 : ∀ c, c < 8 → Nat.beq j c = false := h1
    have h4 : ∀ c, c ≤ 8 → Nat.blt j c = false := h2
    show (rX none 8) i j = none
    conv => lhs; whnf
    simp (discharger := decide) only [h3, h4, cond_false, cond_true]
  · have h3 : ∀ c, c < 9 → Nat.beq j c = false := h1
    have h4 : ∀ c, c ≤ 9 → Nat.blt j c = false := h2
    show (rX none 9) i j = none
    conv => lhs; whnf
    simp (discharger := decide) only [h3, h4, cond_false, cond_true]
  · have h3 : ∀ c, c < 2 → Nat.beq j c = false := h1
    have h4 : ∀ c, c ≤ 2 → Nat.blt j c = false := h2
    show (rX none 10) i j = none
    conv => lhs; whnf
    simp (discharger := decide) only [h3, h4, cond_false, cond_true]
  · have h3 : ∀ c, c < 14 → Nat.beq j c = false := h1
    have h4 : ∀ c, c ≤ 14 → Nat.blt j c = false := h2
    show (rX none 11) i j = none
    conv => lhs; whnf
    simp (discharger := decide) only [h3, h4, cond_false, cond_true]
  · have h3 : ∀ c, c < 69 → Nat.beq j c = false := h1
    have h4 : ∀ c, c ≤ 69 → Nat.blt j c = false := h2
    show (rX none 12) i j = none
    conv => lhs; whnf
    simp (discharger := decide) only [h3, h4, cond_false, cond_true]
theorem rX_VRn : am_VR (rX none) cX lX := by
  intro k i j q hi hj he
  have h94 : k < 94 := Nat.lt_of_not_le fun h => by rw [cX_ge h] at hi; omega
  by_cases hk : k < 13
  · by_cases hjn : j < am_nf k
    · have h1 := List.all_eq_true.mp (List.all_eq_true.mp (List.all_eq_true.mp rX_VR k (List.mem_range.mpr h94)) i (List.mem_range.mpr hi)) j (List.mem_range.mpr (by rw [show Nat.blt k 13 = true from Nat.ble_eq_true_of_le hk]; exact hjn))
      rw [he] at h1
      exact Nat.le_of_ble_eq_true h1
    · rw [rX_hi hk (Nat.le_of_not_lt hjn)] at he
      cases he
  · have h1 := List.all_eq_true.mp (List.all_eq_true.mp (List.all_eq_true.mp rX_VR k (List.mem_range.mpr h94)) i (List.mem_range.mpr hi)) j (List.mem_range.mpr (by
      cases e : Nat.blt k 13 with
      | true => exact absurd (Nat.le_of_ble_eq_true e) hk
      | false => exact hj (by omega)))
    rw [he] at h1
    exact Nat.le_of_ble_eq_true h1
theorem va_at_arr {D : va_G} {cl : List vw_C} {a n n2 : Nat} {cA : ClassId} {f f2 : Nat → Int32} {H : Heap} (h : va_at D cl (a, .inl (cA, n, .inl f)) H) (hn : n = n2) (hf : ∀ j, j < n → f j = f2 j) : va_at D cl (a, .inl (cA, n2, .inl f2)) H := by
  subst hn
  have e : vp_cell cA (n, .inl f) = vp_cell cA (n, .inl f2) := by
    rw [vp_cell_i, vp_cell_i]
    unfold arrV
    congr 2
    funext j
    show Value.int (f j.val) = Value.int (f2 j.val)
    rw [hf j.val j.isLt]
  have h1 : H[a]? = some (vp_cell cA (n, .inl f)) := h
  rw [e] at h1
  exact h1
theorem nd_get {α : Type} {q : α} : ∀ {l : List α}, l.Nodup → ∀ {i j : Nat}, l[i]? = some q → l[j]? = some q → i = j := by
  intro l hl i j hi hj
  have hi2 := List.getElem?_eq_some_iff.mp hi
  have hj2 := List.getElem?_eq_some_iff.mp hj
  obtain ⟨a1, a2⟩ := hi2
  obtain ⟨b1, b2⟩ := hj2
  rcases Nat.lt_trichotomy i j with h | h | h
  · exact absurd (a2.trans b2.symm) (List.pairwise_iff_getElem.mp hl i j a1 b1 h)
  · exact h
  · exact absurd (b2.trans a2.symm) (List.pairwise_iff_getElem.mp hl j i b1 a1 h)
set_option maxHeartbeats 2000000 in
theorem am_Y.start {D : va_G} {ca : Nat → ClassId} {A : Nat → Prop} {ad : tM} {Lw : List (Nat × Nat)} {H : Heap} (hM : gM = some (v, σ, τ, ρ, cn, ln)) (h : am_Y D ca A ad Lw H σ τ ρ cn ln) : ∃ L2, am_Y D ca A ad L2 H e1 t1L (rX none) cX lX := by
  obtain ⟨-, -, hcn, hln⟩ := gM_facts hM
  have hmem : ∀ q : Nat × Nat, q ∈ Lw.filter (fun q => decide (q.1 < 94)) ↔ q.2 < cX q.1 := by
    intro q
    rw [List.mem_filter, decide_eq_true_eq, h.1 q]
    constructor
    · rintro ⟨h1, h2⟩
      rw [← hcn q.1 h2]
      exact h1
    · intro h1
      have h2 : q.1 < 94 := Nat.lt_of_not_le fun h3 => by rw [cX_ge h3] at h1; omega
      exact ⟨by rw [hcn q.1 h2]; exact h1, h2⟩
  have hnd : Lw.Nodup := List.pairwise_iff_getElem.mpr fun i j hi hj hij e => by
    have h1 : Lw[i]? = some Lw[i] := List.getElem?_eq_getElem hi
    have h2 : Lw[j]? = some Lw[i] := by rw [e]; exact List.getElem?_eq_getElem hj
    have := h.nd h1 h2
    omega
  have hnd2 : (Lw.filter (fun q => decide (q.1 < 94))).Nodup := List.Pairwise.filter _ hnd
  refine ⟨Lw.filter (fun q => decide (q.1 < 94)), hmem, rX_VRn, ?_, ?_, ?_⟩
  · intro k q hq
    simp only [am_wl, List.getElem?_map] at hq
    cases hr : (Lw.filter (fun q => decide (q.1 < 94)))[k]? with
    | none => rw [hr] at hq; cases hq
    | some r =>
      rw [hr] at hq
      cases hq
      have hrm := (hmem r).mp (List.mem_of_getElem? hr)
      have h94 : r.1 < 94 := Nat.lt_of_not_le fun h3 => by rw [cX_ge h3] at hrm; omega
      obtain ⟨k0, i0⟩ := r
      obtain ⟨q0, -, hq2⟩ := h.at (k := k0) (i := i0) (by rw [hcn k0 h94]; exact hrm)
      have hat := h.2.2.1 q0 _ hq2
      by_cases hk : k0 < 13
      · have e2 : am_ce ca ad σ τ ρ ln (k0, i0) = am_ce ca ad e1 t1L (rX none) lX (k0, i0) := by
          rw [am_ce_obj hk, am_ce_obj hk]
          refine congrArg (fun l => (Sum.inr (k0, l) : va_E)) (List.map_congr_left fun j hj => ?_)
          have hj := List.mem_range.mp hj
          unfold am_fv
          by_cases hf1 : am_ft k0 j = 1
          · rw [if_pos hf1, if_pos hf1, g_tau hM hk hrm hj hf1]
          · rw [if_neg hf1, if_neg hf1, g_rho hM h94 hrm (Or.inl ⟨hk, hj⟩), g_sig hM h94 hrm (Or.inl ⟨hk, hj⟩)]
        rw [e2] at hat
        exact hat
      · by_cases he : am_ek k0 < 2
        · rw [am_ce_int he] at hat
          show va_at D vwCl (ad k0 i0, am_ce ca ad e1 t1L (rX none) lX (k0, i0)) H
          rw [am_ce_int he]
          have hl2 := hln k0 i0 h94 hrm (by omega)
          exact va_at_arr hat hl2 (fun j hj => g_sig hM h94 hrm (Or.inr ⟨hk, by rw [← hl2]; exact hj⟩))
        · have e2 : am_ce ca ad σ τ ρ ln (k0, i0) = am_ce ca ad e1 t1L (rX none) lX (k0, i0) := by
            have hl2 := hln k0 i0 h94 hrm (by omega)
            simp only [am_ce, if_neg hk, if_neg he, hl2]
            refine congrArg (fun f => (Sum.inl (ca (am_ek k0), lX k0 i0, .inr (.inr (.inr (.inr f)))) : va_E)) (funext fun j => ?_)
            by_cases hj : j < lX k0 i0
            · rw [if_pos hj, if_pos hj, g_rho hM h94 hrm (Or.inr ⟨hk, he, hj⟩)]
            · rw [if_neg hj, if_neg hj]
          rw [e2] at hat
          exact hat
  · intro i j p q hp hq e
    simp only [am_wl, List.getElem?_map] at hp hq
    cases hr : (Lw.filter (fun q => decide (q.1 < 94)))[i]? with
    | none => rw [hr] at hp; cases hp
    | some r =>
      cases hr2 : (Lw.filter (fun q => decide (q.1 < 94)))[j]? with
      | none => rw [hr2] at hq; cases hq
      | some r2 =>
        rw [hr] at hp
        rw [hr2] at hq
        cases hp
        cases hq
        have m1 := (List.mem_filter.mp (List.mem_of_getElem? hr)).1
        have m2 := (List.mem_filter.mp (List.mem_of_getElem? hr2)).1
        obtain ⟨i1, h1⟩ := List.getElem?_of_mem m1
        obtain ⟨i2, h2⟩ := List.getElem?_of_mem m2
        have e3 : i1 = i2 := h.2.2.2.1 i1 i2 (ad r.1 r.2, am_ce ca ad σ τ ρ ln r) (ad r2.1 r2.2, am_ce ca ad σ τ ρ ln r2) (by simp [am_wl, h1]) (by simp [am_wl, h2]) e
        subst e3
        rw [h1] at h2
        cases h2
        exact nd_get hnd2 hr hr2
  · intro k q hq
    simp only [am_wl, List.getElem?_map] at hq
    cases hr : (Lw.filter (fun q => decide (q.1 < 94)))[k]? with
    | none => rw [hr] at hq; cases hq
    | some r =>
      rw [hr] at hq
      cases hq
      obtain ⟨i1, h1⟩ := List.getElem?_of_mem (List.mem_filter.mp (List.mem_of_getElem? hr)).1
      exact h.2.2.2.2 i1 (ad r.1 r.2, am_ce ca ad σ τ ρ ln r) (by simp [am_wl, h1])
end STA
