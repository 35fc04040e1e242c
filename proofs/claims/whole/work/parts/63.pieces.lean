/-! pieces of greater(6, 11) of the model -/
set_option maxRecDepth 1000000 in
theorem pB12 : endsP (gxq qtb 3000 8 qr_105 755 17 lB12 [] hB12) 17 lB11 [] hB11 = true := by decide +kernel
set_option maxRecDepth 1000000 in
theorem pB11_17 : endsP (gxq qtb 3000 8 qr_105 193 17 lB11 [] hB11) 24 lB11_17 [] hB11_17 = true := by decide +kernel
set_option maxRecDepth 1000000 in
theorem pB11_11 : endsP (gxq qtb 3000 8 qr_105 186 24 lB11_17 [] hB11_17) 24 lB11_11 [] hB11_11 = true := by decide +kernel
set_option maxRecDepth 1000000 in
theorem pB11_5 : endsP (gxq qtb 3000 8 qr_105 186 24 lB11_11 [] hB11_11) 24 lB11_5 [] hB11_5 = true := by decide +kernel
set_option maxRecDepth 1000000 in
theorem pB11e : endsP (gxq qtb 3000 8 qr_105 190 24 lB11_5 [] hB11_5) 17 lB10 [] hB10 = true := by decide +kernel
set_option maxRecDepth 1000000 in
theorem pB10 : endsP (gxq qtb 3000 8 qr_105 755 17 lB10 [] hB10) 17 lB9 [] hB9 = true := by decide +kernel
set_option maxRecDepth 1000000 in
theorem pB9 : endsP (gxq qtb 3000 8 qr_105 755 17 lB9 [] hB9) 17 lB8 [] hB8 = true := by decide +kernel
set_option maxRecDepth 1000000 in
theorem pB8 : endsP (gxq qtb 3000 8 qr_105 755 17 lB8 [] hB8) 17 lB7 [] hB7 = true := by decide +kernel
set_option maxRecDepth 1000000 in
theorem pB7 : endsP (gxq qtb 3000 8 qr_105 755 17 lB7 [] hB7) 17 lB6 [] hB6 = true := by decide +kernel
