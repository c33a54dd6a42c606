/-! ===== gates that may not change places: four lines ===== -/
set_option maxRecDepth 100000 in
theorem nc4 : ncK 4 = true := by decide +kernel

