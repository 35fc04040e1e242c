/-! pieces of isGreater of the model -/
set_option maxRecDepth 1000000 in
theorem pB2_18 : endsQ (gxq (qtb (157, 1647, 1697, 1985, J1, gg2_18)) 3000 27 (qr_105 (157, 1647, 1697, 1985, J1, gg2_18)) 755 17 lB2_18 [] (hQ1, tb2_18, [])) 17 lB2_17 [] hQ1 tb2_17 ga2_17 = true := by decide +kernel
set_option maxRecDepth 1000000 in
theorem pB2_17 : endsQ (gxq (qtb (157, 1647, 1697, 2033, J1, gg2_17)) 3000 27 (qr_105 (157, 1647, 1697, 2033, J1, gg2_17)) 755 17 lB2_17 [] (hQ1, tb2_17, [])) 17 lB2_16 [] hQ1 tb2_16 ga2_16 = true := by decide +kernel
set_option maxRecDepth 1000000 in
theorem pB2_16 : endsQ (gxq (qtb (157, 1647, 1697, 2081, J1, gg2_16)) 3000 27 (qr_105 (157, 1647, 1697, 2081, J1, gg2_16)) 755 17 lB2_16 [] (hQ1, tb2_16, [])) 17 lB2_15 [] hQ1 tb2_15 ga2_15 = true := by decide +kernel
set_option maxRecDepth 1000000 in
theorem pB2_15 : endsQ (gxq (qtb (157, 1647, 1697, 2129, J1, gg2_15)) 3000 27 (qr_105 (157, 1647, 1697, 2129, J1, gg2_15)) 755 17 lB2_15 [] (hQ1, tb2_15, [])) 17 lB2_14 [] hQ1 tb2_14 ga2_14 = true := by decide +kernel
set_option maxRecDepth 1000000 in
theorem pB2_14 : endsQ (gxq (qtb (157, 1647, 1697, 2177, J1, gg2_14)) 3000 27 (qr_105 (157, 1647, 1697, 2177, J1, gg2_14)) 755 17 lB2_14 [] (hQ1, tb2_14, [])) 17 lB2_13 [] hQ1 tb2_13 ga2_13 = true := by decide +kernel
set_option maxRecDepth 1000000 in
theorem pB2_13 : endsQ (gxq (qtb (157, 1647, 1697, 2225, J1, gg2_13)) 3000 27 (qr_105 (157, 1647, 1697, 2225, J1, gg2_13)) 755 17 lB2_13 [] (hQ1, tb2_13, [])) 17 lB2_12 [] hQ1 tb2_12 ga2_12 = true := by decide +kernel
