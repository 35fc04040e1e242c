/-! pieces of greater(6, 11) of the model -/
set_option maxRecDepth 1000000 in
theorem pB6 : endsQ (gxq (qtb wB6) 3000 8 (qr_105 wB6) 755 17 lB6 [] (hP6, [])) 17 lB5 [] hP5 ga5 = true := by decide +kernel
set_option maxRecDepth 1000000 in
theorem pB5 : endsQ (gxq (qtb wB5) 3000 8 (qr_105 wB5) 755 17 lB5 [] (hP5, [])) 17 lB4 [] hP4 ga4 = true := by decide +kernel
set_option maxRecDepth 1000000 in
theorem pB4 : endsQ (gxq (qtb wB4) 3000 8 (qr_105 wB4) 755 17 lB4 [] (hP4, [])) 17 lB3 [] hP3 ga3 = true := by decide +kernel
set_option maxRecDepth 1000000 in
theorem pB3 : endsQ (gxq (qtb wB3) 3000 8 (qr_105 wB3) 755 17 lB3 [] (hP3, [])) 17 lB2 [] hP2 ga2 = true := by decide +kernel
set_option maxRecDepth 1000000 in
theorem pB2 : endsQ (gxq (qtb wB2) 3000 8 (qr_105 wB2) 755 17 lB2 [] (hP2, [])) 17 lB1 [] hP1 ga1 = true := by decide +kernel
set_option maxRecDepth 1000000 in
theorem pB1 : endsQ (gxq (qtb wB1) 3000 8 (qr_105 wB1) 755 17 lB1 [] (hP1, [])) 17 lB0 [] hP0 ga0 = true := by decide +kernel
