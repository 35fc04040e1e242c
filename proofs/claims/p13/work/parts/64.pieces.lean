/-! pieces of isGreater of the model -/
set_option maxRecDepth 1000000 in
theorem pB1_6 : endsQ (gxq (qtb (157, 157, 207, 1287, [], gg1_6)) 3000 27 (qr_105 (157, 157, 207, 1287, [], gg1_6)) 755 17 lB1_6 [] (hQ1, tb1_6, [])) 17 lB1_5 [] hQ1 tb1_5 ga1_5 = true := by decide +kernel
set_option maxRecDepth 1000000 in
theorem pB1_5 : endsQ (gxq (qtb (157, 157, 207, 1347, [], gg1_5)) 3000 27 (qr_105 (157, 157, 207, 1347, [], gg1_5)) 755 17 lB1_5 [] (hQ1, tb1_5, [])) 17 lB1_4 [] hQ1 tb1_4 ga1_4 = true := by decide +kernel
set_option maxRecDepth 1000000 in
theorem pB1_4 : endsQ (gxq (qtb (157, 157, 207, 1407, [], gg1_4)) 3000 27 (qr_105 (157, 157, 207, 1407, [], gg1_4)) 755 17 lB1_4 [] (hQ1, tb1_4, [])) 17 lB1_3 [] hQ1 tb1_3 ga1_3 = true := by decide +kernel
set_option maxRecDepth 1000000 in
theorem pB1_3 : endsQ (gxq (qtb (157, 157, 207, 1467, [], gg1_3)) 3000 27 (qr_105 (157, 157, 207, 1467, [], gg1_3)) 755 17 lB1_3 [] (hQ1, tb1_3, [])) 17 lB1_2 [] hQ1 tb1_2 ga1_2 = true := by decide +kernel
set_option maxRecDepth 1000000 in
theorem pB1_2 : endsQ (gxq (qtb (157, 157, 207, 1527, [], gg1_2)) 3000 27 (qr_105 (157, 157, 207, 1527, [], gg1_2)) 755 17 lB1_2 [] (hQ1, tb1_2, [])) 17 lB1_1 [] hQ1 tb1_1 ga1_1 = true := by decide +kernel
set_option maxRecDepth 1000000 in
theorem pB1_1 : endsQ (gxq (qtb (157, 157, 207, 1587, [], gg1_1)) 3000 27 (qr_105 (157, 157, 207, 1587, [], gg1_1)) 755 17 lB1_1 [] (hQ1, tb1_1, [])) 17 lB1_0 [] hQ1 tb1_0 ga1_0 = true := by decide +kernel
