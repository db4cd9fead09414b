/-! CASES OF THE LAW on fresh objects that are run -/
section RN
variable {l : Launch}
theorem gg_mean : am_gg 1000 133 246 [] e1 t1L (rX none) cX lX = true := by decide +kernel
theorem gg_tick : am_gg 1000 121 229 [] e1 t1L (rX none) cX lX = true := by decide +kernel
theorem gg_clash : am_gg 3000 113 202 [] e1 t1L (rX none) cX lX = true := by decide +kernel
theorem LF_mean : LF l 133 246 [] := am_gg_ok gg_mean
theorem LF_tick : LF l 121 229 [] := am_gg_ok gg_tick
theorem LF_clash : LF l 113 202 [] := am_gg_ok gg_clash
end RN
