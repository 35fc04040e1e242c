/-! pieces of greater(6, 11) of the model -/
set_option maxRecDepth 1000000 in
theorem pB1_17 : endsP (gxq qtb 3000 8 qr_105 193 17 lB1 [] hB1) 24 lB1_17 [] hB1_17 = true := by decide +kernel
set_option maxRecDepth 1000000 in
theorem pB1_11 : endsP (gxq qtb 3000 8 qr_105 186 24 lB1_17 [] hB1_17) 24 lB1_11 [] hB1_11 = true := by decide +kernel
set_option maxRecDepth 1000000 in
theorem pB1_5 : endsP (gxq qtb 3000 8 qr_105 186 24 lB1_11 [] hB1_11) 24 lB1_5 [] hB1_5 = true := by decide +kernel
set_option maxRecDepth 1000000 in
theorem pB1e : endsP (gxq qtb 3000 8 qr_105 190 24 lB1_5 [] hB1_5) 17 lB0 [] hB0 = true := by decide +kernel
