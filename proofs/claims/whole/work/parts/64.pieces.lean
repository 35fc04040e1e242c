/-! pieces of greater(6, 11) of the model -/
set_option maxRecDepth 1000000 in
theorem pB6 : endsP (gxq qtb 3000 8 qr_105 755 17 lB6 [] hB6) 17 lB5 [] hB5 = true := by decide +kernel
set_option maxRecDepth 1000000 in
theorem pB5 : endsP (gxq qtb 3000 8 qr_105 755 17 lB5 [] hB5) 17 lB4 [] hB4 = true := by decide +kernel
set_option maxRecDepth 1000000 in
theorem pB4_17 : endsP (gxq qtb 3000 8 qr_105 193 17 lB4 [] hB4) 24 lB4_17 [] hB4_17 = true := by decide +kernel
set_option maxRecDepth 1000000 in
theorem pB4_11 : endsP (gxq qtb 3000 8 qr_105 186 24 lB4_17 [] hB4_17) 24 lB4_11 [] hB4_11 = true := by decide +kernel
set_option maxRecDepth 1000000 in
theorem pB4_5 : endsP (gxq qtb 3000 8 qr_105 186 24 lB4_11 [] hB4_11) 24 lB4_5 [] hB4_5 = true := by decide +kernel
set_option maxRecDepth 1000000 in
theorem pB4e : endsP (gxq qtb 3000 8 qr_105 190 24 lB4_5 [] hB4_5) 17 lB3 [] hB3 = true := by decide +kernel
