/-! pieces of greater(6, 11) of the model -/
set_option maxRecDepth 1000000 in
theorem pB18 : endsP (fxp 3000 755 8 105 17 lB18 [] hB18) 17 lB17 [] hB17 = true := by decide +kernel
set_option maxRecDepth 1000000 in
theorem pB17 : endsP (fxp 3000 755 8 105 17 lB17 [] hB17) 17 lB16 [] hB16 = true := by decide +kernel
set_option maxRecDepth 1000000 in
theorem pB16 : endsP (fxp 3000 755 8 105 17 lB16 [] hB16) 17 lB15 [] hB15 = true := by decide +kernel
set_option maxRecDepth 1000000 in
theorem pB15 : endsP (fxp 3000 755 8 105 17 lB15 [] hB15) 17 lB14 [] hB14 = true := by decide +kernel
set_option maxRecDepth 1000000 in
theorem pB14 : endsP (fxp 3000 755 8 105 17 lB14 [] hB14) 17 lB13 [] hB13 = true := by decide +kernel
set_option maxRecDepth 1000000 in
theorem pB13 : endsP (fxp 3000 755 8 105 17 lB13 [] hB13) 17 lB12 [] hB12 = true := by decide +kernel
