/-! pieces of complete(1) of the desk -/
set_option maxRecDepth 1000000 in
theorem pY1_1_0 : endsQ (gxq (qtb (83, 83, 83, 83, [], [])) 3000 27 (qr_31 (83, 83, 83, 83, [], [])) 3234 25 [some (.inr (some 7)), some (.inr (some 81)), some (.inr (some 82)), some (.inl 23), none] [] (hZ2, [], [])) 25 [some (.inr (some 7)), some (.inr (some 81)), some (.inr (some 82)), some (.inl 17), some (.inl (-1))] [] hZ2 [] [] = true := by decide +kernel
set_option maxRecDepth 1000000 in
theorem pY1_1_6 : endsQ (gxq (qtb (83, 83, 83, 83, [], [])) 3000 27 (qr_31 (83, 83, 83, 83, [], [])) 3234 25 [some (.inr (some 7)), some (.inr (some 81)), some (.inr (some 82)), some (.inl 17), some (.inl (-1))] [] (hZ2, [], [])) 25 [some (.inr (some 7)), some (.inr (some 81)), some (.inr (some 82)), some (.inl 11), some (.inl (-1))] [] hZ2 [] [] = true := by decide +kernel
set_option maxRecDepth 1000000 in
theorem pY1_1_12 : endsQ (gxq (qtb (83, 83, 83, 83, [], [])) 3000 27 (qr_31 (83, 83, 83, 83, [], [])) 3234 25 [some (.inr (some 7)), some (.inr (some 81)), some (.inr (some 82)), some (.inl 11), some (.inl (-1))] [] (hZ2, [], [])) 25 [some (.inr (some 7)), some (.inr (some 81)), some (.inr (some 82)), some (.inl 5), some (.inl (-1))] [] hZ2 [] [] = true := by decide +kernel
set_option maxRecDepth 1000000 in
theorem pY1_1_18 : endsQ (gxq (qtb (83, 83, 83, 83, [], [])) 3000 27 (qr_31 (83, 83, 83, 83, [], [])) 3234 25 [some (.inr (some 7)), some (.inr (some 81)), some (.inr (some 82)), some (.inl 5), some (.inl (-1))] [] (hZ2, [], [])) 25 [some (.inr (some 7)), some (.inr (some 81)), some (.inr (some 82)), some (.inl (-1)), some (.inl (-1))] [] hZ2 [] [] = true := by decide +kernel
set_option maxRecDepth 1000000 in
theorem pY1_2_0 : endsQ (gxq (qtb (83, 83, 83, 83, [], [])) 3000 27 (qr_31 (83, 83, 83, 83, [], [])) 3234 25 [some (.inr (some 7)), some (.inr (some 82)), some (.inr (some 81)), some (.inl 23), none] [] (hZ2, [], [])) 25 [some (.inr (some 7)), some (.inr (some 82)), some (.inr (some 81)), some (.inl 17), some (.inl (-1))] [] hZ3 [] [] = true := by decide +kernel
set_option maxRecDepth 1000000 in
theorem pY1_2_6 : endsQ (gxq (qtb (83, 83, 83, 83, [], [])) 3000 27 (qr_31 (83, 83, 83, 83, [], [])) 3234 25 [some (.inr (some 7)), some (.inr (some 82)), some (.inr (some 81)), some (.inl 17), some (.inl (-1))] [] (hZ3, [], [])) 25 [some (.inr (some 7)), some (.inr (some 82)), some (.inr (some 81)), some (.inl 11), some (.inl (-1))] [] hZ4 [] [] = true := by decide +kernel
set_option maxRecDepth 1000000 in
theorem pY1_2_12 : endsQ (gxq (qtb (83, 83, 83, 83, [], [])) 3000 27 (qr_31 (83, 83, 83, 83, [], [])) 3234 25 [some (.inr (some 7)), some (.inr (some 82)), some (.inr (some 81)), some (.inl 11), some (.inl (-1))] [] (hZ4, [], [])) 25 [some (.inr (some 7)), some (.inr (some 82)), some (.inr (some 81)), some (.inl 5), some (.inl (-1))] [] hZ5 [] [] = true := by decide +kernel
set_option maxRecDepth 1000000 in
theorem pY1_2_18 : endsQ (gxq (qtb (83, 83, 83, 83, [], [])) 3000 27 (qr_31 (83, 83, 83, 83, [], [])) 3234 25 [some (.inr (some 7)), some (.inr (some 82)), some (.inr (some 81)), some (.inl 5), some (.inl (-1))] [] (hZ5, [], [])) 25 [some (.inr (some 7)), some (.inr (some 82)), some (.inr (some 81)), some (.inl (-1)), some (.inl (-1))] [] hX16 [] [] = true := by decide +kernel
set_option maxRecDepth 1000000 in
theorem pT1_8 : endsP (fxp 3000 25 28 72 0 [some (.inr (some 41)), none, none, none, none, none, none, none, none] [] hX15) 27 [some (.inr (some 41)), some (.inl 0), some (.inr (some 81)), none, none, none, none, none, none] [.inr (some 58), .inr (some 82), .inr (some 29)] hZ6 = true := by decide +kernel
set_option maxRecDepth 1000000 in
theorem pT1_9 : endsP (fxp 3000 17 28 72 27 [some (.inr (some 41)), some (.inl 0), some (.inr (some 81)), none, none, none, none, none, none] [.inr (some 58), .inr (some 82), .inr (some 29)] hZ6) 51 [some (.inr (some 41)), some (.inl 0), some (.inr (some 81)), some (.inr (some 82)), none, none, none, none, none] [.inr (some 82), .inr (some 81), .inr (some 7)] hZ7 = true := by decide +kernel
set_option maxRecDepth 1000000 in
theorem pT1_10 : endsP (fxp 3000 7 28 72 52 [some (.inr (some 41)), some (.inl 0), some (.inr (some 81)), some (.inr (some 82)), none, none, none, none, none] [.inl 0] hZ2) 59 [some (.inr (some 41)), some (.inl 0), some (.inr (some 81)), some (.inr (some 82)), some (.inl 0), none, none, none, none] [.inr (some 81), .inr (some 82), .inr (some 7)] hZ2 = true := by decide +kernel
set_option maxRecDepth 1000000 in
theorem pT1_11 : endsP (fxp 3000 2 28 72 60 [some (.inr (some 41)), some (.inl 0), some (.inr (some 81)), some (.inr (some 82)), some (.inl 0), none, none, none, none] [.inl 0] hX16) 62 [some (.inr (some 41)), some (.inl 0), some (.inr (some 81)), some (.inr (some 82)), some (.inl 0), none, none, none, none] [.inl 1] hX16 = true := by decide +kernel
set_option maxRecDepth 1000000 in
theorem pD1_12 : endsP (fxp 3000 22 29 70 0 [some (.inr (some 0)), some (.inl 1), none, none, none] [] hX15) 24 [some (.inr (some 0)), some (.inl 1), some (.inl 1), some (.inl 0), some (.inl 0)] [.inr (some 41)] hX15 = true := by decide +kernel
set_option maxRecDepth 1000000 in
theorem pD1_13 : endsP (fxp 3000 14 29 70 25 [some (.inr (some 0)), some (.inl 1), some (.inl 1), some (.inl 0), some (.inl 0)] [.inl 1] hX16) 38 [some (.inr (some 0)), some (.inl 1), some (.inl 1), some (.inl 1), some (.inl 1)] [.inl 2] hX16 = true := by decide +kernel
set_option maxRecDepth 1000000 in
theorem pY2_1_0 : endsQ (gxq (qtb (83, 83, 83, 83, [], [])) 3000 27 (qr_31 (83, 83, 83, 83, [], [])) 3234 25 [some (.inr (some 7)), some (.inr (some 81)), some (.inr (some 82)), some (.inl 23), none] [] (hX16, [], [])) 25 [some (.inr (some 7)), some (.inr (some 81)), some (.inr (some 82)), some (.inl 17), some (.inl (-1))] [] hZ8 [] [] = true := by decide +kernel
set_option maxRecDepth 1000000 in
theorem pY2_1_6 : endsQ (gxq (qtb (83, 83, 83, 83, [], [])) 3000 27 (qr_31 (83, 83, 83, 83, [], [])) 3234 25 [some (.inr (some 7)), some (.inr (some 81)), some (.inr (some 82)), some (.inl 17), some (.inl (-1))] [] (hZ8, [], [])) 25 [some (.inr (some 7)), some (.inr (some 81)), some (.inr (some 82)), some (.inl 11), some (.inl (-1))] [] hZ9 [] [] = true := by decide +kernel
set_option maxRecDepth 1000000 in
theorem pY2_1_12 : endsQ (gxq (qtb (83, 83, 83, 83, [], [])) 3000 27 (qr_31 (83, 83, 83, 83, [], [])) 3234 25 [some (.inr (some 7)), some (.inr (some 81)), some (.inr (some 82)), some (.inl 11), some (.inl (-1))] [] (hZ9, [], [])) 25 [some (.inr (some 7)), some (.inr (some 81)), some (.inr (some 82)), some (.inl 5), some (.inl (-1))] [] hZ10 [] [] = true := by decide +kernel
set_option maxRecDepth 1000000 in
theorem pY2_1_18 : endsQ (gxq (qtb (83, 83, 83, 83, [], [])) 3000 27 (qr_31 (83, 83, 83, 83, [], [])) 3234 25 [some (.inr (some 7)), some (.inr (some 81)), some (.inr (some 82)), some (.inl 5), some (.inl (-1))] [] (hZ10, [], [])) 25 [some (.inr (some 7)), some (.inr (some 81)), some (.inr (some 82)), some (.inl (-1)), some (.inl (-1))] [] hZ2 [] [] = true := by decide +kernel
set_option maxRecDepth 1000000 in
theorem pY2_2_0 : endsQ (gxq (qtb (83, 83, 83, 83, [], [])) 3000 27 (qr_31 (83, 83, 83, 83, [], [])) 3234 25 [some (.inr (some 7)), some (.inr (some 82)), some (.inr (some 81)), some (.inl 23), none] [] (hZ2, [], [])) 25 [some (.inr (some 7)), some (.inr (some 82)), some (.inr (some 81)), some (.inl 17), some (.inl (-1))] [] hZ3 [] [] = true := by decide +kernel
set_option maxRecDepth 1000000 in
theorem pY2_2_6 : endsQ (gxq (qtb (83, 83, 83, 83, [], [])) 3000 27 (qr_31 (83, 83, 83, 83, [], [])) 3234 25 [some (.inr (some 7)), some (.inr (some 82)), some (.inr (some 81)), some (.inl 17), some (.inl (-1))] [] (hZ3, [], [])) 25 [some (.inr (some 7)), some (.inr (some 82)), some (.inr (some 81)), some (.inl 11), some (.inl (-1))] [] hZ4 [] [] = true := by decide +kernel
set_option maxRecDepth 1000000 in
theorem pY2_2_12 : endsQ (gxq (qtb (83, 83, 83, 83, [], [])) 3000 27 (qr_31 (83, 83, 83, 83, [], [])) 3234 25 [some (.inr (some 7)), some (.inr (some 82)), some (.inr (some 81)), some (.inl 11), some (.inl (-1))] [] (hZ4, [], [])) 25 [some (.inr (some 7)), some (.inr (some 82)), some (.inr (some 81)), some (.inl 5), some (.inl (-1))] [] hZ5 [] [] = true := by decide +kernel
set_option maxRecDepth 1000000 in
theorem pY2_2_18 : endsQ (gxq (qtb (83, 83, 83, 83, [], [])) 3000 27 (qr_31 (83, 83, 83, 83, [], [])) 3234 25 [some (.inr (some 7)), some (.inr (some 82)), some (.inr (some 81)), some (.inl 5), some (.inl (-1))] [] (hZ5, [], [])) 25 [some (.inr (some 7)), some (.inr (some 82)), some (.inr (some 81)), some (.inl (-1)), some (.inl (-1))] [] hX16 [] [] = true := by decide +kernel
set_option maxRecDepth 1000000 in
theorem pT2_22 : endsP (fxp 3000 25 28 72 0 [some (.inr (some 41)), none, none, none, none, none, none, none, none] [] hX16) 27 [some (.inr (some 41)), some (.inl 0), some (.inr (some 81)), none, none, none, none, none, none] [.inr (some 58), .inr (some 82), .inr (some 29)] hZ11 = true := by decide +kernel
set_option maxRecDepth 1000000 in
theorem pT2_23 : endsP (fxp 3000 17 28 72 27 [some (.inr (some 41)), some (.inl 0), some (.inr (some 81)), none, none, none, none, none, none] [.inr (some 58), .inr (some 82), .inr (some 29)] hZ11) 51 [some (.inr (some 41)), some (.inl 0), some (.inr (some 81)), some (.inr (some 82)), none, none, none, none, none] [.inr (some 82), .inr (some 81), .inr (some 7)] hX16 = true := by decide +kernel
set_option maxRecDepth 1000000 in
theorem pT2_24 : endsP (fxp 3000 7 28 72 52 [some (.inr (some 41)), some (.inl 0), some (.inr (some 81)), some (.inr (some 82)), none, none, none, none, none] [.inl 0] hZ2) 59 [some (.inr (some 41)), some (.inl 0), some (.inr (some 81)), some (.inr (some 82)), some (.inl 0), none, none, none, none] [.inr (some 81), .inr (some 82), .inr (some 7)] hZ2 = true := by decide +kernel
set_option maxRecDepth 1000000 in
theorem pT2_25 : endsP (fxp 3000 2 28 72 60 [some (.inr (some 41)), some (.inl 0), some (.inr (some 81)), some (.inr (some 82)), some (.inl 0), none, none, none, none] [.inl 0] hX16) 62 [some (.inr (some 41)), some (.inl 0), some (.inr (some 81)), some (.inr (some 82)), some (.inl 0), none, none, none, none] [.inl 1] hX16 = true := by decide +kernel
set_option maxRecDepth 1000000 in
theorem pD2_26 : endsP (fxp 3000 22 29 70 0 [some (.inr (some 0)), some (.inl 1), none, none, none] [] hX16) 24 [some (.inr (some 0)), some (.inl 1), some (.inl 1), some (.inl 0), some (.inl 0)] [.inr (some 41)] hX16 = true := by decide +kernel
set_option maxRecDepth 1000000 in
theorem pD2_27 : endsP (fxp 3000 14 29 70 25 [some (.inr (some 0)), some (.inl 1), some (.inl 1), some (.inl 0), some (.inl 0)] [.inl 1] hX16) 38 [some (.inr (some 0)), some (.inl 1), some (.inl 1), some (.inl 1), some (.inl 1)] [.inl 2] hX16 = true := by decide +kernel
