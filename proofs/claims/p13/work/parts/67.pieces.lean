/-! pieces of isGreater of the model -/
set_option maxRecDepth 1000000 in
theorem pB2_12 : endsQ (gxq (qtb (157, 1647, 1697, 2273, J1, gg2_12)) 3000 27 (qr_105 (157, 1647, 1697, 2273, J1, gg2_12)) 755 17 lB2_12 [] (hQ1, tb2_12, [])) 17 lB2_11 [] hQ1 tb2_11 ga2_11 = true := by decide +kernel
set_option maxRecDepth 1000000 in
theorem pB2_11 : endsQ (gxq (qtb (157, 1647, 1697, 2321, J1, gg2_11)) 3000 27 (qr_105 (157, 1647, 1697, 2321, J1, gg2_11)) 755 17 lB2_11 [] (hQ1, tb2_11, [])) 17 lB2_10 [] hQ1 tb2_10 ga2_10 = true := by decide +kernel
set_option maxRecDepth 1000000 in
theorem pB2_10 : endsQ (gxq (qtb (157, 1647, 1697, 2369, J1, gg2_10)) 3000 27 (qr_105 (157, 1647, 1697, 2369, J1, gg2_10)) 755 17 lB2_10 [] (hQ1, tb2_10, [])) 17 lB2_9 [] hQ1 tb2_9 ga2_9 = true := by decide +kernel
set_option maxRecDepth 1000000 in
theorem pB2_9 : endsQ (gxq (qtb (157, 1647, 1697, 2417, J1, gg2_9)) 3000 27 (qr_105 (157, 1647, 1697, 2417, J1, gg2_9)) 755 17 lB2_9 [] (hQ1, tb2_9, [])) 17 lB2_8 [] hQ1 tb2_8 ga2_8 = true := by decide +kernel
set_option maxRecDepth 1000000 in
theorem pB2_8 : endsQ (gxq (qtb (157, 1647, 1697, 2465, J1, gg2_8)) 3000 27 (qr_105 (157, 1647, 1697, 2465, J1, gg2_8)) 755 17 lB2_8 [] (hQ1, tb2_8, [])) 17 lB2_7 [] hQ1 tb2_7 ga2_7 = true := by decide +kernel
set_option maxRecDepth 1000000 in
theorem pB2_7 : endsQ (gxq (qtb (157, 1647, 1697, 2513, J1, gg2_7)) 3000 27 (qr_105 (157, 1647, 1697, 2513, J1, gg2_7)) 755 17 lB2_7 [] (hQ1, tb2_7, [])) 17 lB2_6 [] hQ1 tb2_6 ga2_6 = true := by decide +kernel
