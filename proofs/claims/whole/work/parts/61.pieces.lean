/-! pieces of greater(6, 11) of the model -/
set_option maxRecDepth 1000000 in
theorem pB24 : endsP (gxq qtb 3000 8 qr_105 755 17 lB24 [] hB24) 17 lB23 [] hB23 = true := by decide +kernel
set_option maxRecDepth 1000000 in
theorem pB23 : endsP (gxq qtb 3000 8 qr_105 755 17 lB23 [] hB23) 17 lB22 [] hB22 = true := by decide +kernel
set_option maxRecDepth 1000000 in
theorem pB22 : endsP (gxq qtb 3000 8 qr_105 755 17 lB22 [] hB22) 17 lB21 [] hB21 = true := by decide +kernel
set_option maxRecDepth 1000000 in
theorem pB21 : endsP (gxq qtb 3000 8 qr_105 755 17 lB21 [] hB21) 17 lB20 [] hB20 = true := by decide +kernel
set_option maxRecDepth 1000000 in
theorem pB20 : endsP (gxq qtb 3000 8 qr_105 755 17 lB20 [] hB20) 17 lB19 [] hB19 = true := by decide +kernel
set_option maxRecDepth 1000000 in
theorem pB19 : endsP (gxq qtb 3000 8 qr_105 755 17 lB19 [] hB19) 17 lB18 [] hB18 = true := by decide +kernel
