/-! pieces of greater(6, 11) of the model -/
set_option maxRecDepth 1000000 in
theorem pB12 : endsP (fxp 3000 755 8 105 17 lB12 [] hB12) 17 lB11 [] hB11 = true := by decide +kernel
set_option maxRecDepth 1000000 in
theorem pB11 : endsP (fxp 3000 755 8 105 17 lB11 [] hB11) 17 lB10 [] hB10 = true := by decide +kernel
set_option maxRecDepth 1000000 in
theorem pB10 : endsP (fxp 3000 755 8 105 17 lB10 [] hB10) 17 lB9 [] hB9 = true := by decide +kernel
set_option maxRecDepth 1000000 in
theorem pB9 : endsP (fxp 3000 755 8 105 17 lB9 [] hB9) 17 lB8 [] hB8 = true := by decide +kernel
set_option maxRecDepth 1000000 in
theorem pB8 : endsP (fxp 3000 755 8 105 17 lB8 [] hB8) 17 lB7 [] hB7 = true := by decide +kernel
set_option maxRecDepth 1000000 in
theorem pB7 : endsP (fxp 3000 755 8 105 17 lB7 [] hB7) 17 lB6 [] hB6 = true := by decide +kernel
