/-! pieces of greater(6, 11) of the model -/
set_option maxRecDepth 1000000 in
theorem pB18 : endsQ (gxq (qtb wB18) 3000 8 (qr_105 wB18) 755 17 lB18 [] (hP18, [])) 17 lB17 [] hP17 ga17 = true := by decide +kernel
set_option maxRecDepth 1000000 in
theorem pB17 : endsQ (gxq (qtb wB17) 3000 8 (qr_105 wB17) 755 17 lB17 [] (hP17, [])) 17 lB16 [] hP16 ga16 = true := by decide +kernel
set_option maxRecDepth 1000000 in
theorem pB16 : endsQ (gxq (qtb wB16) 3000 8 (qr_105 wB16) 755 17 lB16 [] (hP16, [])) 17 lB15 [] hP15 ga15 = true := by decide +kernel
set_option maxRecDepth 1000000 in
theorem pB15 : endsQ (gxq (qtb wB15) 3000 8 (qr_105 wB15) 755 17 lB15 [] (hP15, [])) 17 lB14 [] hP14 ga14 = true := by decide +kernel
set_option maxRecDepth 1000000 in
theorem pB14 : endsQ (gxq (qtb wB14) 3000 8 (qr_105 wB14) 755 17 lB14 [] (hP14, [])) 17 lB13 [] hP13 ga13 = true := by decide +kernel
set_option maxRecDepth 1000000 in
theorem pB13 : endsQ (gxq (qtb wB13) 3000 8 (qr_105 wB13) 755 17 lB13 [] (hP13, [])) 17 lB12 [] hP12 ga12 = true := by decide +kernel
