/-! THE METHOD TABLE and the words that every method has -/
noncomputable def am_nm (y : Nat) : MethodName := am_mn (am_m y).1
noncomputable def am_cb (y : Nat) : ByteArray := (am_m y).2.1
noncomputable def am_ml (y : Nat) : Nat := (am_m y).2.2.1
noncomputable def am_rt (y : Nat) : Option FieldType := (am_m y).2.2.2.1
noncomputable def am_rm (y : Nat) : Room := (am_m y).2.2.2.2.1
noncomputable def am_fl (y : Nat) : Nat := (am_m y).2.2.2.2.2.2.2.2
def am_gd : List Cond := lw_tbl.filter goodWord
noncomputable def am_ws (y : Nat) : List Cond := .code (am_nm y) (am_cb y) (am_ml y) (am_rt y) :: am_gd
noncomputable def am_in (w : Cond) : Bool := decide (w ∈ lw_tbl) && goodWord w
/-- a word of the tables (c: its place there, for programs alone) -/
noncomputable def am_has (_c : Nat) (w : Cond) : Bool := am_in w
theorem am_gd_of {w : Cond} (h : w ∈ lw_tbl) (g : goodWord w = true) : w ∈ am_gd := List.mem_filter.mpr ⟨h, g⟩
theorem am_in_in {w : Cond} (h : am_in w = true) : w ∈ am_gd := by
  unfold am_in at h
  rw [Bool.and_eq_true, decide_eq_true_eq] at h
  exact am_gd_of h.1 h.2
theorem am_in_of {w : Cond} (h : w ∈ lw_tbl) (g : goodWord w = true) : am_in w = true := by
  unfold am_in
  rw [Bool.and_eq_true, decide_eq_true_eq]
  exact ⟨h, g⟩
theorem am_has_in {c : Nat} {w : Cond} (h : am_has c w = true) : w ∈ am_gd := am_in_in h
theorem am_good {y z : Nat} (hz : Cond.code (am_nm z) (am_cb z) (am_ml z) (am_rt z) ∈ am_gd) : GoodIn (am_ws y) (am_ws z) := by
  intro w hw
  rcases List.mem_cons.mp hw with rfl | hw
  · exact ⟨List.mem_cons_of_mem _ hz, good_of_word (List.mem_filter.mp hz).2⟩
  · exact ⟨List.mem_cons_of_mem _ hw, good_of_word (List.mem_filter.mp hw).2⟩
def am_ec (e : Nat) : String := if e = 2 then RX6 else if e = 3 then RX9 else if e = 4 then RX8 else RX0
def am_en_cls (e : Nat) : Nat := if e = 2 then 6 else if e = 3 then 9 else if e = 4 then 8 else 0
def am_tyok (ty : Option FieldType) (d : Nat) : Bool := match ty with
  | some .int => Nat.beq d 0
  | some .long => Nat.beq d 1
  | some .boolean => Nat.beq d 3
  | some (.object _) => Nat.beq d 2
  | some (.array _) => Nat.beq d 2
  | _ => false
