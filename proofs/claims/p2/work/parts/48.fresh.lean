/-! EVERY CASE OF THE LAW on fresh objects -/
section FR
variable {l : Launch}
theorem eqz {α : Type} {a b : α} (v : α) (h1 : a = v) (h2 : b = v) : a = b := h1.trans h2.symm
theorem Rall1 : Rall e1 t1L := by
  refine ⟨fun r hr => ⟨0, by omega, rfl, Or.inl ⟨rfl, rfl⟩⟩, fun r hr => ⟨⟨0, by omega, rfl, Or.inl ⟨rfl, rfl⟩⟩, fun j _ h _ => absurd rfl h⟩, fun s hs => Or.inl ⟨rfl, rfl⟩, ⟨eqz 0 rfl rfl, eqz 0 rfl rfl, eqz 0 rfl rfl, 0, by omega, rfl, rfl, fun j hj => absurd hj (by omega)⟩, fun a ha => ⟨⟨0, 0, by omega, by omega, rfl, rfl, rfl, rfl⟩, fun b hb => ⟨eqz (-9) rfl rfl, Or.inl rfl⟩⟩, ⟨eqz 0 rfl rfl, fun f _ => eqz 0 rfl rfl, eqz 0 rfl rfl, eqz 0 rfl rfl, eqz 1 rfl rfl⟩, 0, 0, 0, 0, 0, ?_⟩
  refine ⟨⟨rfl, rfl, by omega⟩, ⟨rfl, rfl, by omega⟩, fun c hc => absurd hc (by omega), fun c _ _ => ⟨rfl, rfl, rfl, rfl, rfl, rfl, rfl, rfl, rfl, rfl, rfl, rfl, rfl, rfl, rfl, rfl, fun j _ => ⟨rfl, rfl⟩⟩, rfl, fun a ha => ⟨eqz 1 rfl rfl, eqz 3 rfl rfl, eqz 20 rfl rfl, ⟨1, by omega, by omega, rfl⟩, ⟨3, by omega, rfl⟩, ⟨20, by omega, rfl⟩, rfl, rfl⟩, ⟨rfl, rfl⟩, fun f hf => absurd hf (by omega), rfl, ⟨rfl, Nat.le_refl 0, fun f hf => absurd hf (by omega), fun f _ hf => absurd hf (by omega)⟩, fun f c _ hf => absurd hf (by omega), ⟨rfl, rfl, by omega, fun i hi => absurd hi (by omega)⟩, 0, 0, fun _ => 0, fun _ => 0, rfl, rfl, by omega, rfl, rfl, by omega, rfl, fun c hc => absurd hc (by omega)⟩
abbrev LF (l : Launch) (zx zm : Nat) (as : List am_V) : Prop := LG l zx zm as e1 t1L (rX none) cX lX lgT
theorem LF.of_LC {zx zm : Nat} {as : List am_V} (h : LC l zx zm as e1 t1L none) : LF l zx zm as := LG.of_LC h (fun _ _ _ _ => trivial)
theorem e1_44 (j : Nat) : xfind 1 e1 44 0 j < 0 := by
  have e : xfind 1 e1 44 0 j = -9 := rfl
  rw [e]; decide
theorem e1_47 (j : Nat) : xfind 1 e1 47 0 j < 0 := by
  have e : xfind 1 e1 47 0 j = -9 := rfl
  rw [e]; decide
theorem e1_49 (j : Nat) : xfind 1 e1 49 0 j < 0 := by
  have e : xfind 1 e1 49 0 j = -9 := rfl
  rw [e]; decide
theorem not10 {r : Int32} (h : ¬ (0 ≤ r ∧ r < 10)) : ¬ (0 ≤ r ∧ r ≤ 9) := by
  intro h2
  obtain ⟨j, hj, rfl⟩ := ix_le (n := 10) (by decide) h2
  exact h ⟨h2.1, nI_lt (b := 10) hj (by decide)⟩
theorem le9 {r : Int32} (h : 0 ≤ r ∧ r < 10) : 0 ≤ r ∧ r ≤ 9 := by
  obtain ⟨j, hj, rfl⟩ := ix_lt (n := 10) (by decide) h
  exact ⟨h.1, nI_le (b := 9) (by omega) (by decide)⟩
theorem le3 {r : Int32} (h : 0 ≤ r ∧ r < 4) : 0 ≤ r ∧ r ≤ 3 := by
  obtain ⟨j, hj, rfl⟩ := ix_lt (n := 4) (by decide) h
  exact in3 hj
theorem LF_fault (r : Int32) : LF l 101 179 [aI r] := by
  by_cases h : 0 ≤ r ∧ r < 6
  · obtain ⟨j, hj, rfl⟩ := ix_lt (n := 6) (by decide) h
    exact LG.of (x_fault_none hj rfl) (m_fault_none hj (e1_47 j)) trivial
  · exact LG.of (x_fault_bad h) (m_fault_bad (not6 h)) trivial
theorem LF_shape (s r : Int32) : LF l 102 180 [aI s, aI r] := by
  by_cases h : 0 ≤ s ∧ s < 4
  · by_cases h2 : 0 ≤ r ∧ r < 6
    · obtain ⟨j, hj, rfl⟩ := ix_lt (n := 6) (by decide) h2
      exact LG.of (x_shape_none h hj rfl) (m_shape_none (le3 h) hj (e1_47 j)) trivial
    · exact LG.of (x_shape_bad (Or.inr h2)) (m_shape_bad (Or.inr (not6 h2))) trivial
  · exact LG.of (x_shape_bad (Or.inl h)) (m_shape_bad (Or.inl (not4 h))) trivial
theorem LF_fields (s v : Int32) : LF l 104 186 [aI s, aI v] := by
  by_cases h : 0 ≤ s ∧ s < 4
  · by_cases h2 : 0 ≤ v ∧ v < 10
    · obtain ⟨j, hj, rfl⟩ := ix_lt (n := 4) (by decide) h
      exact LG.of (x_fields_none hj h2 rfl) (m_fields_none hj (le9 h2) (e1_49 j)) trivial
    · exact LG.of (x_fields_bad (Or.inr h2)) (m_fields_bad (Or.inr (not10 h2))) trivial
  · exact LG.of (x_fields_bad (Or.inl h)) (m_fields_bad (Or.inl (not4 h))) trivial
theorem LF_write (s v r q : Int32) : LF l 105 188 [aI s, aI v, aI r, aI q] := by
  by_cases h : 0 ≤ s ∧ s < 4
  · by_cases h2 : 0 ≤ v ∧ v < 10
    · by_cases h3 : 0 ≤ r ∧ r < 6
      · by_cases h4 : 0 ≤ q ∧ q < 6
        · obtain ⟨j, hj, rfl⟩ := ix_lt (n := 4) (by decide) h
          obtain ⟨i, hi, rfl⟩ := ix_lt (n := 6) (by decide) h3
          exact LG.of (x_write_none hj h2 hi h4 (Or.inl rfl)) (m_write_none hj (le9 h2) hi (le5 h4) (Or.inl (e1_49 j))) trivial
        · exact LG.of (x_write_bad (Or.inr (Or.inr (Or.inr h4)))) (m_write_bad (Or.inr (Or.inr (Or.inr (not6 h4))))) trivial
      · exact LG.of (x_write_bad (Or.inr (Or.inr (Or.inl h3)))) (m_write_bad (Or.inr (Or.inr (Or.inl (not6 h3))))) trivial
    · exact LG.of (x_write_bad (Or.inr (Or.inl h2))) (m_write_bad (Or.inr (Or.inl (not10 h2)))) trivial
  · exact LG.of (x_write_bad (Or.inl h)) (m_write_bad (Or.inl (not4 h))) trivial
theorem LF_read (s v r q : Int32) : LF l 106 191 [aI s, aI v, aI r, aI q] := by
  by_cases h : 0 ≤ s ∧ s < 4
  · by_cases h2 : 0 ≤ v ∧ v < 10
    · by_cases h3 : 0 ≤ r ∧ r < 6
      · by_cases h4 : 0 ≤ q ∧ q < 6
        · obtain ⟨j, hj, rfl⟩ := ix_lt (n := 4) (by decide) h
          obtain ⟨i, hi, rfl⟩ := ix_lt (n := 6) (by decide) h3
          exact LG.of (x_read_none hj h2 hi h4 (Or.inl rfl)) (m_read_none hj (le9 h2) hi (le5 h4) (Or.inl (e1_49 j))) trivial
        · exact LG.of (x_read_bad (Or.inr (Or.inr (Or.inr h4)))) (m_read_bad (Or.inr (Or.inr (Or.inr (not6 h4))))) trivial
      · exact LG.of (x_read_bad (Or.inr (Or.inr (Or.inl h3)))) (m_read_bad (Or.inr (Or.inr (Or.inl (not6 h3))))) trivial
    · exact LG.of (x_read_bad (Or.inr (Or.inl h2))) (m_read_bad (Or.inr (Or.inl (not10 h2)))) trivial
  · exact LG.of (x_read_bad (Or.inl h)) (m_read_bad (Or.inl (not4 h))) trivial
theorem LF_handOn (r : Int32) : LF l 108 193 [aI r] := by
  by_cases h : 0 ≤ r ∧ r < 6
  · obtain ⟨j, hj, rfl⟩ := ix_lt (n := 6) (by decide) h
    exact LG.of (x_handOn_none hj rfl) (m_handOn_none hj (e1_47 j)) trivial
  · exact LG.of (x_handOn_bad h) (m_handOn_bad (not6 h)) trivial
theorem LF_ver (s w v : Int32) : (am_D l 145 [aR 11 0, aI s, aI w, aI v] e1 t1L (rX none) cX lX (some (aI (-1))) e1 t1L (rX none) ∧ am_D l 195 [aR 12 0, aI s, aI w, aI v] e1 t1L (rX none) cX lX (some (aI (-1))) e1 t1L (rX none)) ∨ (am_D l 145 [aR 11 0, aI s, aI w, aI v] e1 t1L (rX none) cX lX (some (aI (-3))) (xfind 1 e1) t1L (rX none) ∧ am_D l 195 [aR 12 0, aI s, aI w, aI v] (xfind 1 e1) t1L (rX none) cX lX (some (aI (-3))) (mmeets 1 (xfind 1 e1)) t1L (rX none)) := by
  by_cases h : 0 ≤ s ∧ s < 4
  · by_cases h2 : 0 ≤ w ∧ w < 10
    · by_cases h3 : 0 ≤ v ∧ v < 10
      · obtain ⟨j, hj, rfl⟩ := ix_lt (n := 4) (by decide) h
        exact Or.inr ⟨x_refVer_none hj h2 h3 rfl, m_unlike_none hj (le9 h2) (le9 h3) (e1_49 j)⟩
      · exact Or.inl ⟨x_refVer_bad (Or.inr (Or.inr h3)), m_unlike_bad (Or.inr (Or.inr (not10 h3)))⟩
    · exact Or.inl ⟨x_refVer_bad (Or.inr (Or.inl h2)), m_unlike_bad (Or.inr (Or.inl (not10 h2)))⟩
  · exact Or.inl ⟨x_refVer_bad (Or.inl h), m_unlike_bad (Or.inl (not4 h))⟩
theorem LF_fits (s w v : Int32) : LF l 109 196 [aI s, aI w, aI v] := by
  rcases LF_ver (l := l) s w v with ⟨h1, h2⟩ | ⟨h1, h2⟩
  · exact LG.of (x_fits_ref h1 (by decide)) (m_fits_ref h2 (by decide) (by decide)) trivial
  · exact LG.of (x_fits_ref h1 (by decide)) (m_fits_ref h2 (by decide) (by decide)) trivial
theorem LF_unlike (s w v : Int32) : LF l 110 195 [aI s, aI w, aI v] := by
  rcases LF_ver (l := l) s w v with ⟨h1, h2⟩ | ⟨h1, h2⟩
  · exact LG.of (x_unlike_ref h1 (by decide)) h2 trivial
  · exact LG.of (x_unlike_ref h1 (by decide)) h2 trivial
theorem LF_copy (r f r2 f2 k : Int32) : LF l 97 167 [aI r, aI f, aI r2, aI f2, aI k] := by
  by_cases h : 0 ≤ r ∧ r < 6
  · by_cases h2 : 0 ≤ r2 ∧ r2 < 6
    · by_cases hk : k < 0
      · exact LG.of (x_copy_neg h h2 hk) (m_copy_neg (le5 h) (le5 h2) hk) trivial
      · obtain ⟨j, hj, rfl⟩ := ix_lt (n := 6) (by decide) h
        obtain ⟨i, hi, rfl⟩ := ix_lt (n := 6) (by decide) h2
        exact LG.of (x_copy_none hj hi (Int32.not_lt.mp hk) (Or.inl rfl)) (m_copy_none hj hi (Int32.not_lt.mp hk) (Or.inl (e1_44 j))) trivial
    · exact LG.of (x_copy_bad (Or.inr h2)) (m_copy_bad (Or.inr (not6 h2))) trivial
  · exact LG.of (x_copy_bad (Or.inl h)) (m_copy_bad (Or.inl (not6 h))) trivial
theorem LF_door (a b s : Int32) : LF l 112 198 [aI a, aI b, aI s] := by
  by_cases h : (0 ≤ a ∧ a < 6) ∧ (0 ≤ b ∧ b < 6) ∧ a ≠ b
  · obtain ⟨ha, hb, hab⟩ := h
    by_cases h9 : s = -9
    · subst h9
      obtain ⟨i, hi, rfl⟩ := ix_lt (n := 6) (by decide) ha
      obtain ⟨j, hj, rfl⟩ := ix_lt (n := 6) (by decide) hb
      exact LG.of (v := aI (-9)) (x_door_off hi hj hab) (m_door_off hi hj hab) trivial
    · by_cases hs : 0 ≤ s ∧ s < 4
      · obtain ⟨q, hq, rfl⟩ := ix_lt (n := 4) (by decide) hs
        exact LG.of (x_door_none ⟨ha, hb, hab⟩ hq rfl) (m_door_none ⟨le5 ha, le5 hb, hab⟩ hq (e1_49 q)) trivial
      · exact LG.of (x_door_bad (Or.inr ⟨h9, hs⟩)) (m_door_bad (Or.inr ⟨h9, not4 hs⟩)) trivial
  · have h2 : ¬ ((0 ≤ a ∧ a ≤ 5) ∧ (0 ≤ b ∧ b ≤ 5) ∧ a ≠ b) := by
      rintro ⟨g1, g2, g3⟩
      by_cases k1 : 0 ≤ a ∧ a < 6
      · by_cases k2 : 0 ≤ b ∧ b < 6
        · exact h ⟨k1, k2, g3⟩
        · exact not6 k2 g2
      · exact not6 k1 g1
    exact LG.of (x_door_bad (Or.inl h)) (m_door_bad (Or.inl h2)) trivial
theorem LF_call (a b s w h p : Int32) : LF l 118 212 [aI a, aI b, aI s, aI w, aI h, aI p] := by
  have n3 : ∀ {r : Int32}, (0 ≤ r ∧ r ≤ 2) ↔ (0 ≤ r ∧ r < 3) := by
    intro r
    constructor
    · intro h2
      obtain ⟨j, hj, rfl⟩ := ix_le (n := 3) (by decide) h2
      exact ⟨h2.1, nI_lt (b := 3) hj (by decide)⟩
    · intro h2
      obtain ⟨j, hj, rfl⟩ := ix_lt (n := 3) (by decide) h2
      exact ⟨h2.1, nI_le (b := 2) (by omega) (by decide)⟩
  have n6' : ∀ {r : Int32}, (0 ≤ r ∧ r ≤ 5) ↔ (0 ≤ r ∧ r < 6) := by
    intro r
    constructor
    · intro h2
      obtain ⟨j, hj, rfl⟩ := ix_le (n := 6) (by decide) h2
      exact in6 hj
    · exact le5
  by_cases hb : ((0 ≤ a ∧ a < 6) ∧ (0 ≤ b ∧ b < 6) ∧ a ≠ b) ∧ (0 ≤ s ∧ s < 3) ∧ (1 ≤ w ∧ w ≤ 9) ∧ (1 ≤ h ∧ h ≤ 99) ∧ (0 ≤ p ∧ p ≤ 5)
  · have hb2 : ((0 ≤ a ∧ a ≤ 5) ∧ (0 ≤ b ∧ b ≤ 5) ∧ a ≠ b) ∧ (0 ≤ s ∧ s ≤ 2) ∧ (1 ≤ w ∧ w ≤ 9) ∧ (1 ≤ h ∧ h ≤ 99) ∧ (0 ≤ p ∧ p ≤ 5) := by rw [n6', n6', n3]; exact hb
    have hT : (0 : Int32) + h ≤ 9999 := by rw [Int32.zero_add]; exact Int32.le_trans hb.2.2.2.1.2 (by decide)
    exact LG.of (x_call (n := 0) (m := 0) hb rfl (by decide) hT rfl (by decide)) (m_call (n := 0) (m := 0) hb2 rfl (by decide) hT rfl (by decide)) trivial
  · refine LG.of (x_call_bad hb) (m_call_bad ?_) trivial
    rw [n6', n6', n3]
    exact hb
theorem LF_run (n : Int32) : LF l 122 230 [aI n] := by
  by_cases h : 0 ≤ n ∧ n ≤ 100
  · obtain ⟨j, hj, rfl⟩ := ix_le (n := 101) (by decide) h
    exact LG.of (x_run0 (T := 0) rfl (by omega) rfl (eqz 0 rfl rfl) (by omega)) (m_run0 (T := 0) rfl (by omega) rfl rfl (by omega)) trivial
  · exact LG.of (x_run_bad h) (m_run_bad h) trivial
theorem x_putIn_bad {a : Int32} {σ : tI} {τ : tL} {t : Option (Nat × Nat)} (h : ¬ (0 ≤ a ∧ a < 6)) : am_D l 116 [aR 11 0, aI a] σ τ (rX t) cX lX (some (aI (-1))) σ τ (rX t) := by
  refine am_D_of am_o116 am_l116 rfl ?_
  refine am_vc_ok am_k116 [] 100 ?_
  refine am_vS am_k116 am_h116 rfl rfl rfl rfl (x_within) ?_
  refine am_vc_ok am_k116 [] 100 ?_
  refine And.intro (fun h1 => ?_) (fun h1 => ?_)
  · exact am_vI am_k116 am_r116 rfl ⟨rfl, rfl, rfl, rfl, rfl, rfl⟩
  · exact absurd (bI_1.mp h1) h
theorem m_putIn_bad {a : Int32} {σ : tI} {τ : tL} {t : Option (Nat × Nat)} (h : ¬ (0 ≤ a ∧ a ≤ 5)) : am_D l 207 [aR 12 0, aI a] σ τ (rX t) cX lX (some (aI (-1))) σ τ (rX t) := by
  refine am_D_of am_o207 am_l207 rfl ?_
  refine am_vc_ok am_k207 [] 100 ?_
  refine am_vS am_k207 am_h207 rfl rfl rfl rfl (m_isSix) ?_
  refine am_vc_ok am_k207 [] 100 ?_
  refine And.intro (fun h1 => ?_) (fun h1 => ?_)
  · exact am_vI am_k207 am_r207 rfl ⟨rfl, rfl, rfl, rfl, rfl, rfl⟩
  · exact absurd (bI_1.mp h1) h
end FR
