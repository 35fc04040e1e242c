/-! pieces of isGreater of the model -/
set_option maxRecDepth 1000000 in
theorem pB1_12 : endsQ (gxq (qtb (157, 157, 207, 927, [], gg1_12)) 3000 27 (qr_105 (157, 157, 207, 927, [], gg1_12)) 755 17 lB1_12 [] (hQ1, tb1_12, [])) 17 lB1_11 [] hQ1 tb1_11 ga1_11 = true := by decide +kernel
set_option maxRecDepth 1000000 in
theorem pB1_11 : endsQ (gxq (qtb (157, 157, 207, 987, [], gg1_11)) 3000 27 (qr_105 (157, 157, 207, 987, [], gg1_11)) 755 17 lB1_11 [] (hQ1, tb1_11, [])) 17 lB1_10 [] hQ1 tb1_10 ga1_10 = true := by decide +kernel
set_option maxRecDepth 1000000 in
theorem pB1_10 : endsQ (gxq (qtb (157, 157, 207, 1047, [], gg1_10)) 3000 27 (qr_105 (157, 157, 207, 1047, [], gg1_10)) 755 17 lB1_10 [] (hQ1, tb1_10, [])) 17 lB1_9 [] hQ1 tb1_9 ga1_9 = true := by decide +kernel
set_option maxRecDepth 1000000 in
theorem pB1_9 : endsQ (gxq (qtb (157, 157, 207, 1107, [], gg1_9)) 3000 27 (qr_105 (157, 157, 207, 1107, [], gg1_9)) 755 17 lB1_9 [] (hQ1, tb1_9, [])) 17 lB1_8 [] hQ1 tb1_8 ga1_8 = true := by decide +kernel
set_option maxRecDepth 1000000 in
theorem pB1_8 : endsQ (gxq (qtb (157, 157, 207, 1167, [], gg1_8)) 3000 27 (qr_105 (157, 157, 207, 1167, [], gg1_8)) 755 17 lB1_8 [] (hQ1, tb1_8, [])) 17 lB1_7 [] hQ1 tb1_7 ga1_7 = true := by decide +kernel
set_option maxRecDepth 1000000 in
theorem pB1_7 : endsQ (gxq (qtb (157, 157, 207, 1227, [], gg1_7)) 3000 27 (qr_105 (157, 157, 207, 1227, [], gg1_7)) 755 17 lB1_7 [] (hQ1, tb1_7, [])) 17 lB1_6 [] hQ1 tb1_6 ga1_6 = true := by decide +kernel
