/-! pieces of isGreater of the model -/
set_option maxRecDepth 1000000 in
theorem pB1_18 : endsQ (gxq (qtb (157, 157, 207, 567, [], gg1_18)) 3000 27 (qr_105 (157, 157, 207, 567, [], gg1_18)) 755 17 lB1_18 [] (hQ1, tb1_18, [])) 17 lB1_17 [] hQ1 tb1_17 ga1_17 = true := by decide +kernel
set_option maxRecDepth 1000000 in
theorem pB1_17 : endsQ (gxq (qtb (157, 157, 207, 627, [], gg1_17)) 3000 27 (qr_105 (157, 157, 207, 627, [], gg1_17)) 755 17 lB1_17 [] (hQ1, tb1_17, [])) 17 lB1_16 [] hQ1 tb1_16 ga1_16 = true := by decide +kernel
set_option maxRecDepth 1000000 in
theorem pB1_16 : endsQ (gxq (qtb (157, 157, 207, 687, [], gg1_16)) 3000 27 (qr_105 (157, 157, 207, 687, [], gg1_16)) 755 17 lB1_16 [] (hQ1, tb1_16, [])) 17 lB1_15 [] hQ1 tb1_15 ga1_15 = true := by decide +kernel
set_option maxRecDepth 1000000 in
theorem pB1_15 : endsQ (gxq (qtb (157, 157, 207, 747, [], gg1_15)) 3000 27 (qr_105 (157, 157, 207, 747, [], gg1_15)) 755 17 lB1_15 [] (hQ1, tb1_15, [])) 17 lB1_14 [] hQ1 tb1_14 ga1_14 = true := by decide +kernel
set_option maxRecDepth 1000000 in
theorem pB1_14 : endsQ (gxq (qtb (157, 157, 207, 807, [], gg1_14)) 3000 27 (qr_105 (157, 157, 207, 807, [], gg1_14)) 755 17 lB1_14 [] (hQ1, tb1_14, [])) 17 lB1_13 [] hQ1 tb1_13 ga1_13 = true := by decide +kernel
set_option maxRecDepth 1000000 in
theorem pB1_13 : endsQ (gxq (qtb (157, 157, 207, 867, [], gg1_13)) 3000 27 (qr_105 (157, 157, 207, 867, [], gg1_13)) 755 17 lB1_13 [] (hQ1, tb1_13, [])) 17 lB1_12 [] hQ1 tb1_12 ga1_12 = true := by decide +kernel
