/-! pieces of greater(6, 11) of the model -/
set_option maxRecDepth 1000000 in
theorem pB6 : endsP (fxp 3000 755 8 105 17 lB6 [] hB6) 17 lB5 [] hB5 = true := by decide +kernel
set_option maxRecDepth 1000000 in
theorem pB5 : endsP (fxp 3000 755 8 105 17 lB5 [] hB5) 17 lB4 [] hB4 = true := by decide +kernel
set_option maxRecDepth 1000000 in
theorem pB4 : endsP (fxp 3000 755 8 105 17 lB4 [] hB4) 17 lB3 [] hB3 = true := by decide +kernel
