/-! CASES OF THE LAW on fresh objects that are run: digest, putIn, order, orderAt -/
section RN2
variable {l : Launch}
theorem gg_digest : am_gg 5000 140 258 [] e1 t1L (rX none) cX lX = true := by decide +kernel
theorem LF_digest : LF l 140 258 [] := am_gg_ok gg_digest
theorem gg_putIn : ((List.range 6).all fun j => am_gg 5000 116 207 [aI (nI j)] e1 t1L (rX none) cX lX) = true := by decide +kernel
theorem LF_putIn (a : Int32) : LF l 116 207 [aI a] := by
  by_cases h : 0 ≤ a ∧ a < 6
  · obtain ⟨j, hj, rfl⟩ := ix_lt (n := 6) (by decide) h
    exact am_gg_ok (List.all_eq_true.mp gg_putIn j (List.mem_range.mpr hj))
  · exact LG.of (x_putIn_bad h) (m_putIn_bad (not6 h)) trivial
theorem gg_order : am_gv 30000 114 205 [] e1 t1L (rX none) cX lX = true := by decide +kernel
theorem LF_order : LF l 114 205 [] := am_gv_ok gg_order
end RN2
