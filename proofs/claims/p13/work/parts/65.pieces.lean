/-! pieces of isGreater of the model -/
set_option maxRecDepth 1000000 in
theorem pB2_24 : endsQ (gxq (qtb (157, 1647, 1697, 1697, J1, gg2_24)) 3000 27 (qr_105 (157, 1647, 1697, 1697, J1, gg2_24)) 755 17 lB2_24 [] (hQ1, tb2_24, [])) 17 lB2_23 [] hQ1 tb2_23 ga2_23 = true := by decide +kernel
set_option maxRecDepth 1000000 in
theorem pB2_23 : endsQ (gxq (qtb (157, 1647, 1697, 1745, J1, gg2_23)) 3000 27 (qr_105 (157, 1647, 1697, 1745, J1, gg2_23)) 755 17 lB2_23 [] (hQ1, tb2_23, [])) 17 lB2_22 [] hQ1 tb2_22 ga2_22 = true := by decide +kernel
set_option maxRecDepth 1000000 in
theorem pB2_22 : endsQ (gxq (qtb (157, 1647, 1697, 1793, J1, gg2_22)) 3000 27 (qr_105 (157, 1647, 1697, 1793, J1, gg2_22)) 755 17 lB2_22 [] (hQ1, tb2_22, [])) 17 lB2_21 [] hQ1 tb2_21 ga2_21 = true := by decide +kernel
set_option maxRecDepth 1000000 in
theorem pB2_21 : endsQ (gxq (qtb (157, 1647, 1697, 1841, J1, gg2_21)) 3000 27 (qr_105 (157, 1647, 1697, 1841, J1, gg2_21)) 755 17 lB2_21 [] (hQ1, tb2_21, [])) 17 lB2_20 [] hQ1 tb2_20 ga2_20 = true := by decide +kernel
set_option maxRecDepth 1000000 in
theorem pB2_20 : endsQ (gxq (qtb (157, 1647, 1697, 1889, J1, gg2_20)) 3000 27 (qr_105 (157, 1647, 1697, 1889, J1, gg2_20)) 755 17 lB2_20 [] (hQ1, tb2_20, [])) 17 lB2_19 [] hQ1 tb2_19 ga2_19 = true := by decide +kernel
set_option maxRecDepth 1000000 in
theorem pB2_19 : endsQ (gxq (qtb (157, 1647, 1697, 1937, J1, gg2_19)) 3000 27 (qr_105 (157, 1647, 1697, 1937, J1, gg2_19)) 755 17 lB2_19 [] (hQ1, tb2_19, [])) 17 lB2_18 [] hQ1 tb2_18 ga2_18 = true := by decide +kernel
