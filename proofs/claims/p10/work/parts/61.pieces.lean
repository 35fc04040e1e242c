/-! pieces of greater(6, 11) of the model -/
set_option maxRecDepth 1000000 in
theorem pB24 : endsQ (gxq (qtb wB24) 3000 8 (qr_105 wB24) 755 17 lB24 [] (hP24, [])) 17 lB23 [] hP23 ga23 = true := by decide +kernel
set_option maxRecDepth 1000000 in
theorem pB23 : endsQ (gxq (qtb wB23) 3000 8 (qr_105 wB23) 755 17 lB23 [] (hP23, [])) 17 lB22 [] hP22 ga22 = true := by decide +kernel
set_option maxRecDepth 1000000 in
theorem pB22 : endsQ (gxq (qtb wB22) 3000 8 (qr_105 wB22) 755 17 lB22 [] (hP22, [])) 17 lB21 [] hP21 ga21 = true := by decide +kernel
set_option maxRecDepth 1000000 in
theorem pB21 : endsQ (gxq (qtb wB21) 3000 8 (qr_105 wB21) 755 17 lB21 [] (hP21, [])) 17 lB20 [] hP20 ga20 = true := by decide +kernel
set_option maxRecDepth 1000000 in
theorem pB20 : endsQ (gxq (qtb wB20) 3000 8 (qr_105 wB20) 755 17 lB20 [] (hP20, [])) 17 lB19 [] hP19 ga19 = true := by decide +kernel
set_option maxRecDepth 1000000 in
theorem pB19 : endsQ (gxq (qtb wB19) 3000 8 (qr_105 wB19) 755 17 lB19 [] (hP19, [])) 17 lB18 [] hP18 ga18 = true := by decide +kernel
