/-! THE CHECKS OF AN ENTRY, by numbers, along the bytes -/
noncomputable def am_fkq (y x a b c d : Nat) (fin : Bool) : Bool := am_eqw c 1 (am_m y).1.1 x (am_tq a b).1 (am_tq a b).2.1 (am_tq a b).2.2.1 && (Nat.blt a 13 && (Nat.blt b (am_nf a) && (Nat.beq d (am_ft a b) && ((Nat.beq (am_dk (am_tq a b).2.2.1) d && !(Nat.beq d 9)) && (fin || !(am_tq a b).2.2.2 || (Nat.beq (am_m y).1.2.1 13 && Nat.beq (am_tq a b).1 (am_m y).1.1))))))
theorem am_fkq_ok {y x a b c d : Nat} {fin : Bool} (h : am_fkq y x a b c d fin = true) : am_fk y x a b c d fin = true := by
  unfold am_fkq at h
  rw [Bool.and_eq_true, Bool.and_eq_true, Bool.and_eq_true, Bool.and_eq_true, Bool.and_eq_true, Bool.and_eq_true] at h
  obtain ⟨h1, h2, h3, h4, ⟨h5, h6⟩, h7⟩ := h
  obtain ⟨T, hv, hT⟩ := am_vq (Nat.le_of_ble_eq_true h2)
  have hb := hT b (Nat.le_of_ble_eq_true h3)
  have e5 := Nat.eq_of_beq_eq_true h5
  unfold am_fk
  rw [hv]
  show (am_has c (.fieldLink (am_nm y).cls x (T b).1 (T b).2.1 (T b).2.2.1) && (Nat.blt b (am_nf a) && (Nat.beq d (am_ft a b) && (am_tyok (parseFieldDescriptor (T b).2.2.1) d && (fin || !(T b).2.2.2 || (decide ((am_nm y).name = "<init>") && decide ((T b).1 = (am_nm y).cls))))))) = true
  rw [hb, Bool.and_eq_true, Bool.and_eq_true, Bool.and_eq_true, Bool.and_eq_true]
  refine ⟨am_eqw_in h1 rfl rfl, h3, h4, ?_, ?_⟩
  · have h8 := am_dk_ok (k := (am_tq a b).2.2.1) (by rw [e5]; exact (Bool.not_eq_true' _).mp h6)
    rw [e5] at h8
    exact h8
  · rw [Bool.or_eq_true] at h7 ⊢
    rcases h7 with h7 | h7
    · exact Or.inl h7
    · rw [Bool.and_eq_true] at h7
      refine Or.inr ?_
      rw [Bool.and_eq_true]
      refine ⟨decide_eq_true ?_, decide_eq_true ?_⟩
      · show am_S (am_m y).1.2.1 = "<init>"
        rw [Nat.eq_of_beq_eq_true h7.1]
        rfl
      · show am_S (am_tq a b).1 = am_S (am_m y).1.1
        rw [Nat.eq_of_beq_eq_true h7.2]
noncomputable def am_nwq (y x a b c : Nat) : Bool := am_eqw c 9 (am_m y).1.1 x a 0 0 && (Nat.blt a 13 && Nat.beq b (am_nf a))
noncomputable def am_anq (y x a c : Nat) : Bool := Nat.blt 1 (am_ek a) && (Nat.blt (am_ek a) 6 && am_eqw c 9 (am_m y).1.1 x (am_en_cls (am_ek a)) 0 0)
noncomputable def am_ldq (y x c : Nat) (v : am_V) : Bool := match v with
  | .inl g => am_eqw c 10 (am_m y).1.1 x (am_cd c).2.2.2.1 0 0 && decide (g = Int32.ofNat (am_cd c).2.2.2.1)
  | .inr (.inl g) => am_eqw c 11 (am_m y).1.1 x (am_cd c).2.2.2.1 0 0 && decide (g = Int64.ofNat (am_cd c).2.2.2.1)
  | _ => false
noncomputable def am_isI (v : am_V) : Bool := match v with
  | .inl _ => true
  | _ => false
noncomputable def am_isL (v : am_V) : Bool := match v with
  | .inr (.inl _) => true
  | _ => false
noncomputable def am_ckq (y pc : Nat) (b : UInt8) (bs : List UInt8) (e : am_en) : Bool := match e with
  | (i, l, n, a, b2, c, d, v, sl) => match i with
    | .getfield x => dq_n2 180 x l b bs && (Nat.beq n (pc + l) && am_fkq y x a b2 c d true)
    | .putfield x => dq_n2 181 x l b bs && (Nat.beq n (pc + l) && am_fkq y x a b2 c d false)
    | .new x => dq_n2 187 x l b bs && (Nat.beq n (pc + l) && am_nwq y x a b2 c)
    | .anewarray x => dq_n2 189 x l b bs && (Nat.beq n (pc + l) && am_anq y x a c)
    | .ldc x => dq_n1 18 x l b bs && (Nat.beq n (pc + l) && (am_ldq y x c v && am_isI v))
    | .ldc_w x => dq_n2 19 x l b bs && (Nat.beq n (pc + l) && (am_ldq y x c v && am_isI v))
    | .ldc2_w x => dq_n2 20 x l b bs && (Nat.beq n (pc + l) && (am_ldq y x c v && am_isL v))
    | .tableswitch _ _ _ _ | .lookupswitch _ _ | .newarray _ | .ifnull _ => am_ck y pc (i, l, n, a, b2, c, d, v, sl)
    | i => dq_c i l b bs && (Nat.beq n (pc + l) && am_cki y pc i l a b2 c d v sl)
theorem dq_n1_l {k x l : Nat} {b : UInt8} {bs : List UInt8} (h : dq_n1 k x l b bs = true) : Nat.beq l 2 = true := by
  unfold dq_n1 at h
  split at h
  · rw [Bool.and_eq_true, Bool.and_eq_true] at h
    exact h.2.2
  · cases h
theorem dq_n2_l {k x l : Nat} {b : UInt8} {bs : List UInt8} (h : dq_n2 k x l b bs = true) : Nat.beq l 3 = true := by
  unfold dq_n2 at h
  split at h
  · rw [Bool.and_eq_true, Bool.and_eq_true] at h
    exact h.2.2
  · cases h
theorem am_ec_S {e : Nat} (h1 : Nat.blt 1 e = true) (h2 : Nat.blt e 6 = true) : am_ec e = am_S (am_en_cls e) := by
  have a := Nat.le_of_ble_eq_true h1
  have b := Nat.le_of_ble_eq_true h2
  have h : e = 2 ∨ e = 3 ∨ e = 4 ∨ e = 5 := by omega
  rcases h with rfl | rfl | rfl | rfl <;> rfl
theorem am_ldq_I {y x c : Nat} {v : am_V} (h : (am_ldq y x c v && am_isI v) = true) : ∃ g, v = .inl g ∧ am_has c (.constant (am_nm y).cls x g) = true := by
  rw [Bool.and_eq_true] at h
  rcases v with g | g | g
  · have h1 := h.1
    unfold am_ldq at h1
    rw [Bool.and_eq_true] at h1
    have h2 := am_eqw_in h1.1 rfl rfl
    refine ⟨g, rfl, ?_⟩
    rw [of_decide_eq_true h1.2]
    exact h2
  · cases h.2
  · cases h.2
theorem am_ldq_L {y x c : Nat} {v : am_V} (h : (am_ldq y x c v && am_isL v) = true) : ∃ g, v = .inr (.inl g) ∧ am_has c (.constantLong (am_nm y).cls x g) = true := by
  rw [Bool.and_eq_true] at h
  rcases v with g | g | g
  · cases h.2
  · have h1 := h.1
    unfold am_ldq at h1
    rw [Bool.and_eq_true] at h1
    have h2 := am_eqw_in h1.1 rfl rfl
    refine ⟨g, rfl, ?_⟩
    rw [of_decide_eq_true h1.2]
    exact h2
  · cases h.2
theorem am_ckq_ok {y pc : Nat} {b : UInt8} {bs : List UInt8} {e : am_en} (h : (am_cb y).data.toList.drop pc = b :: bs) (hc : am_ckq y pc b bs e = true) : am_ck y pc e = true := by
  obtain ⟨i, l, n, a, b2, c, d, v, sl⟩ := e
  have F : decode (am_cb y) pc = .ok (i, l) → Nat.beq n (pc + l) = true → am_cki y pc i l a b2 c d v sl = true → am_ck y pc (i, l, n, a, b2, c, d, v, sl) = true := by
    intro h1 h2 h3
    unfold am_ck
    simp only [h1, h2, h3, Bool.and_true, decide_true, Nat.beq_refl]
  have K : (dq_c i l b bs && (Nat.beq n (pc + l) && am_cki y pc i l a b2 c d v sl)) = true → am_ck y pc (i, l, n, a, b2, c, d, v, sl) = true := by
    intro hk
    rw [Bool.and_eq_true, Bool.and_eq_true] at hk
    exact F (dq_c_ok h hk.1) hk.2.1 hk.2.2
  have A : ∀ {p q r : Bool}, (p && (q && r)) = true → p = true ∧ q = true ∧ r = true := by
    intro p q r hk
    rw [Bool.and_eq_true, Bool.and_eq_true] at hk
    exact hk
  have B : ∀ {p q : Bool}, p = true → q = true → (p && q) = true := by
    intro p q h1 h2
    rw [h1, h2]
    rfl
  cases i with
  | getfield x =>
    obtain ⟨h1, h2, h3⟩ := A hc
    exact F (dq_n2_ok rfl h h1) h2 (B (dq_n2_l h1) (am_fkq_ok h3))
  | putfield x =>
    obtain ⟨h1, h2, h3⟩ := A hc
    exact F (dq_n2_ok rfl h h1) h2 (B (dq_n2_l h1) (am_fkq_ok h3))
  | new x =>
    obtain ⟨h1, h2, h3⟩ := A hc
    refine F (dq_n2_ok rfl h h1) h2 (B (dq_n2_l h1) ?_)
    obtain ⟨h4, h5, h6⟩ := A h3
    obtain ⟨T, hv, -⟩ := am_vq (Nat.le_of_ble_eq_true h5)
    rw [hv]
    exact B (am_eqw_in (k := 9) h4 rfl rfl) h6
  | anewarray x =>
    obtain ⟨h1, h2, h3⟩ := A hc
    obtain ⟨h4, h5, h6⟩ := A h3
    refine F (dq_n2_ok rfl h h1) h2 (B (dq_n2_l h1) (B h4 (B h5 ?_)))
    rw [am_ec_S h4 h5]
    exact am_eqw_in (k := 9) h6 rfl rfl
  | ldc x =>
    obtain ⟨h1, h2, h3⟩ := A hc
    obtain ⟨g, rfl, h4⟩ := am_ldq_I h3
    exact F (dq_n1_ok rfl h h1) h2 (B (dq_n1_l h1) h4)
  | ldc_w x =>
    obtain ⟨h1, h2, h3⟩ := A hc
    obtain ⟨g, rfl, h4⟩ := am_ldq_I h3
    exact F (dq_n2_ok rfl h h1) h2 (B (dq_n2_l h1) h4)
  | ldc2_w x =>
    obtain ⟨h1, h2, h3⟩ := A hc
    obtain ⟨g, rfl, h4⟩ := am_ldq_L h3
    exact F (dq_n2_ok rfl h h1) h2 (B (dq_n2_l h1) h4)
  | tableswitch _ _ _ _ => exact hc
  | lookupswitch _ _ => exact hc
  | newarray _ => exact hc
  | ifnull _ => exact hc
  | _ => exact K hc
noncomputable def am_gb (y : Nat) (t : Nat → Option am_en) : List UInt8 → Nat → Bool
  | [], _ => true
  | b :: bs, pc => (match t pc with | some e => am_ckq y pc b bs e | none => true) && am_gb y t bs (pc + 1)
theorem am_gb_ok {y : Nat} {t : Nat → Option am_en} : ∀ (bs : List UInt8) (pc : Nat), (am_cb y).data.toList.drop pc = bs → am_gb y t bs pc = true → ∀ j, j < bs.length → ∀ e, t (pc + j) = some e → am_ck y (pc + j) e = true
  | [], _, _, _, j, hj, _, _ => absurd hj (Nat.not_lt_zero j)
  | b :: bs, pc, h, hg, 0, _, e, he => by
    unfold am_gb at hg
    rw [Bool.and_eq_true] at hg
    rw [Nat.add_zero] at he ⊢
    rw [he] at hg
    exact am_ckq_ok h hg.1
  | b :: bs, pc, h, hg, j + 1, hj, e, he => by
    unfold am_gb at hg
    rw [Bool.and_eq_true] at hg
    have e1 : pc + (j + 1) = pc + 1 + j := by omega
    rw [e1] at he ⊢
    exact am_gb_ok bs (pc + 1) (dq_next h) hg.2 j (Nat.lt_of_succ_lt_succ hj) e he
noncomputable def am_gok (y n : Nat) (t : Nat → Option am_en) : Bool := Nat.ble n (am_cb y).data.toList.length && am_gb y t (am_cb y).data.toList 0
theorem am_koq {y n : Nat} {t : Nat → Option am_en} (hc : am_gok y n t = true) {pc : Nat} {e : am_en} (h : am_gu n t pc = some e) : am_ck y pc e = true := by
  unfold am_gok at hc
  rw [Bool.and_eq_true] at hc
  unfold am_gu at h
  cases hb : Nat.blt pc n with
  | false => rw [hb] at h; cases h
  | true =>
    rw [hb] at h
    have h1 : t (0 + pc) = some e := by rw [Nat.zero_add]; exact h
    have h2 := am_gb_ok _ 0 rfl hc.2 pc (Nat.lt_of_lt_of_le (Nat.le_of_ble_eq_true hb) (Nat.le_of_ble_eq_true hc.1)) e h1
    rw [Nat.zero_add] at h2
    exact h2
