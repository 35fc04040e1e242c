/-! pieces of isGreater of the model -/
set_option maxRecDepth 1000000 in
theorem pB2_6 : endsQ (gxq (qtb (157, 1647, 1697, 2561, J1, gg2_6)) 3000 27 (qr_105 (157, 1647, 1697, 2561, J1, gg2_6)) 755 17 lB2_6 [] (hQ1, tb2_6, [])) 17 lB2_5 [] hQ1 tb2_5 ga2_5 = true := by decide +kernel
set_option maxRecDepth 1000000 in
theorem pB2_5 : endsQ (gxq (qtb (157, 1647, 1697, 2609, J1, gg2_5)) 3000 27 (qr_105 (157, 1647, 1697, 2609, J1, gg2_5)) 755 17 lB2_5 [] (hQ1, tb2_5, [])) 17 lB2_4 [] hQ1 tb2_4 ga2_4 = true := by decide +kernel
set_option maxRecDepth 1000000 in
theorem pB2_4 : endsQ (gxq (qtb (157, 1647, 1697, 2657, J1, gg2_4)) 3000 27 (qr_105 (157, 1647, 1697, 2657, J1, gg2_4)) 755 17 lB2_4 [] (hQ1, tb2_4, [])) 17 lB2_3 [] hQ1 tb2_3 ga2_3 = true := by decide +kernel
set_option maxRecDepth 1000000 in
theorem pB2_3 : endsQ (gxq (qtb (157, 1647, 1697, 2705, J1, gg2_3)) 3000 27 (qr_105 (157, 1647, 1697, 2705, J1, gg2_3)) 755 17 lB2_3 [] (hQ1, tb2_3, [])) 17 lB2_2 [] hQ1 tb2_2 ga2_2 = true := by decide +kernel
set_option maxRecDepth 1000000 in
theorem pB2_2 : endsQ (gxq (qtb (157, 1647, 1697, 2753, J1, gg2_2)) 3000 27 (qr_105 (157, 1647, 1697, 2753, J1, gg2_2)) 755 17 lB2_2 [] (hQ1, tb2_2, [])) 17 lB2_1 [] hQ1 tb2_1 ga2_1 = true := by decide +kernel
set_option maxRecDepth 1000000 in
theorem pB2_1 : endsQ (gxq (qtb (157, 1647, 1697, 2801, J1, gg2_1)) 3000 27 (qr_105 (157, 1647, 1697, 2801, J1, gg2_1)) 755 17 lB2_1 [] (hQ1, tb2_1, [])) 17 lB2_0 [] hQ1 tb2_0 ga2_0 = true := by decide +kernel
