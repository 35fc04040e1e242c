/-! pieces of isGreater of the model -/
set_option maxRecDepth 1000000 in
theorem pB1_24 : endsQ (gxq (qtb (157, 157, 207, 207, [], gg1_24)) 3000 27 (qr_105 (157, 157, 207, 207, [], gg1_24)) 755 17 lB1_24 [] (hQ1, tb1_24, [])) 17 lB1_23 [] hQ1 tb1_23 ga1_23 = true := by decide +kernel
set_option maxRecDepth 1000000 in
theorem pB1_23 : endsQ (gxq (qtb (157, 157, 207, 267, [], gg1_23)) 3000 27 (qr_105 (157, 157, 207, 267, [], gg1_23)) 755 17 lB1_23 [] (hQ1, tb1_23, [])) 17 lB1_22 [] hQ1 tb1_22 ga1_22 = true := by decide +kernel
set_option maxRecDepth 1000000 in
theorem pB1_22 : endsQ (gxq (qtb (157, 157, 207, 327, [], gg1_22)) 3000 27 (qr_105 (157, 157, 207, 327, [], gg1_22)) 755 17 lB1_22 [] (hQ1, tb1_22, [])) 17 lB1_21 [] hQ1 tb1_21 ga1_21 = true := by decide +kernel
set_option maxRecDepth 1000000 in
theorem pB1_21 : endsQ (gxq (qtb (157, 157, 207, 387, [], gg1_21)) 3000 27 (qr_105 (157, 157, 207, 387, [], gg1_21)) 755 17 lB1_21 [] (hQ1, tb1_21, [])) 17 lB1_20 [] hQ1 tb1_20 ga1_20 = true := by decide +kernel
set_option maxRecDepth 1000000 in
theorem pB1_20 : endsQ (gxq (qtb (157, 157, 207, 447, [], gg1_20)) 3000 27 (qr_105 (157, 157, 207, 447, [], gg1_20)) 755 17 lB1_20 [] (hQ1, tb1_20, [])) 17 lB1_19 [] hQ1 tb1_19 ga1_19 = true := by decide +kernel
set_option maxRecDepth 1000000 in
theorem pB1_19 : endsQ (gxq (qtb (157, 157, 207, 507, [], gg1_19)) 3000 27 (qr_105 (157, 157, 207, 507, [], gg1_19)) 755 17 lB1_19 [] (hQ1, tb1_19, [])) 17 lB1_18 [] hQ1 tb1_18 ga1_18 = true := by decide +kernel
