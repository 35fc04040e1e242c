/-! pieces of greater(6, 11) of the model -/
set_option maxRecDepth 1000000 in
theorem pB24 : endsP (fxp 3000 755 8 105 17 lB24 [] hB24) 17 lB23 [] hB23 = true := by decide +kernel
