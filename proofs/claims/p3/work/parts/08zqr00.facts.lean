/-! ===== written by program (wip/layer4) ===== -/
theorem pwl_24 : pw 24 = 16777216 := by decide
