/-! pieces of greater(6, 11) of the model -/
set_option maxRecDepth 1000000 in
theorem pB2_17 : endsP (gxq qtb 3000 8 qr_105 193 17 lB2 [] hB2) 24 lB2_17 [] hB2_17 = true := by decide +kernel
set_option maxRecDepth 1000000 in
theorem pB2_11 : endsP (gxq qtb 3000 8 qr_105 186 24 lB2_17 [] hB2_17) 24 lB2_11 [] hB2_11 = true := by decide +kernel
set_option maxRecDepth 1000000 in
theorem pB2_5 : endsP (gxq qtb 3000 8 qr_105 186 24 lB2_11 [] hB2_11) 24 lB2_5 [] hB2_5 = true := by decide +kernel
set_option maxRecDepth 1000000 in
theorem pB2e : endsP (gxq qtb 3000 8 qr_105 190 24 lB2_5 [] hB2_5) 17 lB1 [] hB1 = true := by decide +kernel
