/-! pieces of greater(6, 11) of the model -/
set_option maxRecDepth 1000000 in
theorem pB18_17 : endsP (gxq qtb 3000 8 qr_105 193 17 lB18 [] hB18) 24 lB18_17 [] hB18_17 = true := by decide +kernel
set_option maxRecDepth 1000000 in
theorem pB18_11 : endsP (gxq qtb 3000 8 qr_105 186 24 lB18_17 [] hB18_17) 24 lB18_11 [] hB18_11 = true := by decide +kernel
set_option maxRecDepth 1000000 in
theorem pB18_5 : endsP (gxq qtb 3000 8 qr_105 186 24 lB18_11 [] hB18_11) 24 lB18_5 [] hB18_5 = true := by decide +kernel
set_option maxRecDepth 1000000 in
theorem pB18e : endsP (gxq qtb 3000 8 qr_105 190 24 lB18_5 [] hB18_5) 17 lB17 [] hB17 = true := by decide +kernel
set_option maxRecDepth 1000000 in
theorem pB17 : endsP (gxq qtb 3000 8 qr_105 755 17 lB17 [] hB17) 17 lB16 [] hB16 = true := by decide +kernel
set_option maxRecDepth 1000000 in
theorem pB16 : endsP (gxq qtb 3000 8 qr_105 755 17 lB16 [] hB16) 17 lB15 [] hB15 = true := by decide +kernel
set_option maxRecDepth 1000000 in
theorem pB15 : endsP (gxq qtb 3000 8 qr_105 755 17 lB15 [] hB15) 17 lB14 [] hB14 = true := by decide +kernel
set_option maxRecDepth 1000000 in
theorem pB14 : endsP (gxq qtb 3000 8 qr_105 755 17 lB14 [] hB14) 17 lB13 [] hB13 = true := by decide +kernel
set_option maxRecDepth 1000000 in
theorem pB13 : endsP (gxq qtb 3000 8 qr_105 755 17 lB13 [] hB13) 17 lB12 [] hB12 = true := by decide +kernel
