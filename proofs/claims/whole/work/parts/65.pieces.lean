/-! pieces of greater(6, 11) of the model -/
set_option maxRecDepth 1000000 in
theorem pB3_17 : endsP (gxq qtb 3000 8 qr_105 193 17 lB3 [] hB3) 24 lB3_17 [] hB3_17 = true := by decide +kernel
set_option maxRecDepth 1000000 in
theorem pB3_11 : endsP (gxq qtb 3000 8 qr_105 186 24 lB3_17 [] hB3_17) 24 lB3_11 [] hB3_11 = true := by decide +kernel
set_option maxRecDepth 1000000 in
theorem pB3_5 : endsP (gxq qtb 3000 8 qr_105 186 24 lB3_11 [] hB3_11) 24 lB3_5 [] hB3_5 = true := by decide +kernel
set_option maxRecDepth 1000000 in
theorem pB3e : endsP (gxq qtb 3000 8 qr_105 190 24 lB3_5 [] hB3_5) 17 lB2 [] hB2 = true := by decide +kernel
