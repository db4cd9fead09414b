/-! THE CHECKS OF CALLS, by numbers -/
noncomputable def am_lnkq (y x z b c d : Nat) : Bool := am_eqw c (bif Nat.beq d 0 then 2 else 3) (am_m y).1.1 x (am_m z).1.1 (am_m z).1.2.1 (am_m z).1.2.2 && (Nat.beq (am_np (am_m z).1.2.2) (b + 1) && (Nat.ble ((am_rm z).frames + 1) (am_rm y).frames && Nat.ble (8 + (am_ml z + 11) + (am_rm z).locals) (am_rm y).locals))
theorem am_lnkq_ok {y x z b c d : Nat} (h : am_lnkq y x z b c d = true) : am_lnk y x z b c d = true := by
  unfold am_lnkq at h
  rw [Bool.and_eq_true, Bool.and_eq_true, Bool.and_eq_true] at h
  obtain ⟨h1, h2, h3, h4⟩ := h
  unfold am_lnk
  rw [Bool.and_eq_true, Bool.and_eq_true, Bool.and_eq_true]
  refine ⟨?_, decide_eq_true (am_np_ok h2), h3, h4⟩
  cases hd : Nat.beq d 0 with
  | true =>
    rw [hd, cond_true] at h1
    rw [cond_true]
    exact am_eqw_in h1 rfl rfl
  | false =>
    rw [hd, cond_false] at h1
    rw [cond_false]
    exact decide_eq_true (am_eqw_mem h1 rfl)
noncomputable def am_ckcq (y : Nat) (e : am_en) : Bool := match e with
  | (i, _, _, z, b, c, d, _, _) => match i with
    | .invokevirtual x => am_lnkq y x z b c d && Nat.beq (am_fl z) 0
    | .invokestatic x => bif Nat.beq z 1001 then am_eqw c 2 (am_m y).1.1 x 381 383 384 && (Nat.ble 1 (am_rm y).frames && Nat.ble 26 (am_rm y).locals) else am_lnkq y x z b c d && Nat.beq (am_fl z) 1
    | .invokespecial x => bif Nat.beq z 1000 then am_eqw c 2 (am_m y).1.1 x 382 13 14 && (Nat.ble 1 (am_rm y).frames && Nat.ble 20 (am_rm y).locals) else am_lnkq y x z b c d && Nat.beq (am_fl z) 2
    | _ => true
theorem am_ckcq_ok {y : Nat} {e : am_en} (h : am_ckcq y e = true) : am_ckc y e = true := by
  obtain ⟨i, l, n, z, b, c, d, v, sl⟩ := e
  have A : ∀ {p q p2 : Bool}, (p && q) = true → (p = true → p2 = true) → (p2 && q) = true := by
    intro p q p2 hk h2
    rw [Bool.and_eq_true] at hk ⊢
    exact ⟨h2 hk.1, hk.2⟩
  cases i with
  | invokevirtual x => exact A h am_lnkq_ok
  | invokestatic x =>
    have h1 : (bif Nat.beq z 1001 then am_eqw c 2 (am_m y).1.1 x 381 383 384 && (Nat.ble 1 (am_rm y).frames && Nat.ble 26 (am_rm y).locals) else am_lnkq y x z b c d && Nat.beq (am_fl z) 1) = true := h
    show (bif Nat.beq z 1001 then am_has c (.methodLink (am_nm y).cls x arraycopyName) && (Nat.ble 1 (am_rm y).frames && Nat.ble 26 (am_rm y).locals) else am_lnk y x z b c d && Nat.beq (am_fl z) 1) = true
    cases hz : Nat.beq z 1001 with
    | true =>
      rw [hz, cond_true] at h1
      rw [cond_true]
      exact A h1 fun h2 => am_eqw_in h2 rfl rfl
    | false =>
      rw [hz, cond_false] at h1
      rw [cond_false]
      exact A h1 am_lnkq_ok
  | invokespecial x =>
    have h1 : (bif Nat.beq z 1000 then am_eqw c 2 (am_m y).1.1 x 382 13 14 && (Nat.ble 1 (am_rm y).frames && Nat.ble 20 (am_rm y).locals) else am_lnkq y x z b c d && Nat.beq (am_fl z) 2) = true := h
    show (bif Nat.beq z 1000 then am_has c (.methodLink (am_nm y).cls x objectInit) && (Nat.ble 1 (am_rm y).frames && Nat.ble 20 (am_rm y).locals) else am_lnk y x z b c d && Nat.beq (am_fl z) 2) = true
    cases hz : Nat.beq z 1000 with
    | true =>
      rw [hz, cond_true] at h1
      rw [cond_true]
      exact A h1 fun h2 => am_eqw_in h2 rfl rfl
    | false =>
      rw [hz, cond_false] at h1
      rw [cond_false]
      exact A h1 am_lnkq_ok
  | _ => rfl
noncomputable def am_allq (y n : Nat) (t : Nat → Option am_en) : Bool := (List.range n).all (fun pc => match t pc with | some e => am_ckcq y e | none => true)
theorem am_coq {y n : Nat} {t : Nat → Option am_en} (hc : am_allq y n t = true) {pc : Nat} {e : am_en} (h : am_gu n t pc = some e) : am_ckc y e = true := by
  unfold am_gu at h
  cases hb : Nat.blt pc n with
  | false => rw [hb] at h; cases h
  | true =>
    rw [hb] at h
    have h1 : t pc = some e := h
    have hlt : pc < n := Nat.le_of_ble_eq_true hb
    have h2 := List.all_eq_true.mp hc pc (List.mem_range.mpr hlt)
    rw [h1] at h2
    exact am_ckcq_ok h2
noncomputable def am_ip3 (z k c : Nat) : Bool := am_eqw c k (am_m z).1.1 (am_m z).1.2.1 (am_m z).1.2.2 0 0
noncomputable def am_okmq (z : Nat) : Bool := am_eqw (am_m z).2.2.2.2.2.1 8 z 0 0 0 0 && (am_cln (am_m z).1.1 && (match am_fl z with
  | 0 => am_ip3 z 4 (am_m z).2.2.2.2.2.2.1 && (am_ip3 z 6 (am_m z).2.2.2.2.2.2.2.1 && ((Nat.beq (am_m z).1.1 (am_cx z) && Nat.blt (am_cx z) 13) && (Nat.beq (am_rm z).cells 0 && Nat.beq (am_rm z).slots 0)))
  | 1 => am_ip3 z 5 (am_m z).2.2.2.2.2.2.1 && (Nat.beq (am_rm z).cells 0 && Nat.beq (am_rm z).slots 0)
  | 2 => am_ip3 z 4 (am_m z).2.2.2.2.2.2.1 && (Nat.beq (am_m z).1.2.1 13 && decide (am_rt z = none))
  | _ => false))
theorem am_okmq_ok {z : Nat} (h : am_okmq z = true) : am_okm z = true := by
  unfold am_okmq at h
  rw [Bool.and_eq_true, Bool.and_eq_true] at h
  obtain ⟨h1, h2, h3⟩ := h
  obtain ⟨h4, h5, h6⟩ := am_cln_ok h2
  unfold am_okm
  rw [Bool.and_eq_true, Bool.and_eq_true, Bool.and_eq_true, Bool.and_eq_true]
  refine ⟨am_eqw_in h1 rfl rfl, h4, decide_eq_true h5, h6, ?_⟩
  split
  · rename_i e
    rw [e] at h3
    have h7 : (am_ip3 z 4 (am_m z).2.2.2.2.2.2.1 && (am_ip3 z 6 (am_m z).2.2.2.2.2.2.2.1 && ((Nat.beq (am_m z).1.1 (am_cx z) && Nat.blt (am_cx z) 13) && (Nat.beq (am_rm z).cells 0 && Nat.beq (am_rm z).slots 0)))) = true := h3
    rw [Bool.and_eq_true, Bool.and_eq_true, Bool.and_eq_true, Bool.and_eq_true] at h7
    obtain ⟨a1, a2, ⟨a3, a4⟩, a5⟩ := h7
    rw [Bool.and_eq_true, Bool.and_eq_true, Bool.and_eq_true]
    refine ⟨am_eqw_in a1 rfl rfl, am_eqw_in a2 rfl rfl, decide_eq_true ?_, a5⟩
    obtain ⟨T, hv, -⟩ := am_vq (Nat.le_of_ble_eq_true a4)
    rw [hv]
    show some (am_S (am_cx z)) = some (am_S (am_m z).1.1)
    rw [Nat.eq_of_beq_eq_true a3]
  · rename_i e
    rw [e] at h3
    have h7 : (am_ip3 z 5 (am_m z).2.2.2.2.2.2.1 && (Nat.beq (am_rm z).cells 0 && Nat.beq (am_rm z).slots 0)) = true := h3
    rw [Bool.and_eq_true] at h7 ⊢
    exact ⟨am_eqw_in h7.1 rfl rfl, h7.2⟩
  · rename_i e
    rw [e] at h3
    have h7 : (am_ip3 z 4 (am_m z).2.2.2.2.2.2.1 && (Nat.beq (am_m z).1.2.1 13 && decide (am_rt z = none))) = true := h3
    rw [Bool.and_eq_true, Bool.and_eq_true] at h7
    rw [Bool.and_eq_true, Bool.and_eq_true]
    refine ⟨am_eqw_in h7.1 rfl rfl, decide_eq_true ?_, h7.2.2⟩
    show am_S (am_m z).1.2.1 = "<init>"
    rw [Nat.eq_of_beq_eq_true h7.2.1]
    rfl
  · rename_i e0 e1 e2
    split at h3
    · exact absurd (by assumption) e0
    · exact absurd (by assumption) e1
    · exact absurd (by assumption) e2
    · cases h3
