/-! pieces of greater(6, 11) of the model -/
set_option maxRecDepth 1000000 in
theorem pB12 : endsQ (gxq (qtb wB12) 3000 8 (qr_105 wB12) 755 17 lB12 [] (hP12, [])) 17 lB11 [] hP11 ga11 = true := by decide +kernel
set_option maxRecDepth 1000000 in
theorem pB11 : endsQ (gxq (qtb wB11) 3000 8 (qr_105 wB11) 755 17 lB11 [] (hP11, [])) 17 lB10 [] hP10 ga10 = true := by decide +kernel
set_option maxRecDepth 1000000 in
theorem pB10 : endsQ (gxq (qtb wB10) 3000 8 (qr_105 wB10) 755 17 lB10 [] (hP10, [])) 17 lB9 [] hP9 ga9 = true := by decide +kernel
set_option maxRecDepth 1000000 in
theorem pB9 : endsQ (gxq (qtb wB9) 3000 8 (qr_105 wB9) 755 17 lB9 [] (hP9, [])) 17 lB8 [] hP8 ga8 = true := by decide +kernel
set_option maxRecDepth 1000000 in
theorem pB8 : endsQ (gxq (qtb wB8) 3000 8 (qr_105 wB8) 755 17 lB8 [] (hP8, [])) 17 lB7 [] hP7 ga7 = true := by decide +kernel
set_option maxRecDepth 1000000 in
theorem pB7 : endsQ (gxq (qtb wB7) 3000 8 (qr_105 wB7) 755 17 lB7 [] (hP7, [])) 17 lB6 [] hP6 ga6 = true := by decide +kernel
