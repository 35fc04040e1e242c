/-! pieces of complete and step of the model -/
set_option maxRecDepth 1000000 in
theorem pS0 : endsP (fxp 3000 18 28 130 0 [some (.inr (some 0)), none, none, none, none, none, none, none, none, none, none, none, none, none] [] hM15) 20 [some (.inr (some 0)), some (.inl 0), some (.inr (some 121)), none, none, none, none, none, none, none, none, none, none, none] [.inr (some 74), .inr (some 0)] hR122 = true := by decide +kernel
set_option maxRecDepth 1000000 in
theorem pS1 : endsP (fxp 3000 12 28 130 20 [some (.inr (some 0)), some (.inl 0), some (.inr (some 121)), none, none, none, none, none, none, none, none, none, none, none] [.inr (some 74), .inr (some 0)] hR122) 39 [some (.inr (some 0)), some (.inl 0), some (.inr (some 121)), some (.inr (some 156)), none, none, none, none, none, none, none, none, none, none] [.inr (some 156), .inr (some 121), .inr (some 0)] hQ1 = true := by decide +kernel
set_option maxRecDepth 1000000 in
theorem pS2 : endsP (fxp 3000 6 28 130 40 [some (.inr (some 0)), some (.inl 0), some (.inr (some 121)), some (.inr (some 156)), none, none, none, none, none, none, none, none, none, none] [.inl 0] hQ2) 46 [some (.inr (some 0)), some (.inl 0), some (.inr (some 121)), some (.inr (some 156)), some (.inl 0), none, none, none, none, none, none, none, none, none] [.inr (some 121), .inr (some 156), .inr (some 0)] hQ2 = true := by decide +kernel
set_option maxRecDepth 1000000 in
theorem pS3 : endsP (fxp 3000 2 28 130 47 [some (.inr (some 0)), some (.inl 0), some (.inr (some 121)), some (.inr (some 156)), some (.inl 0), none, none, none, none, none, none, none, none, none] [.inl 0] hQ3) 49 [some (.inr (some 0)), some (.inl 0), some (.inr (some 121)), some (.inr (some 156)), some (.inl 0), none, none, none, none, none, none, none, none, none] [.inl 1] hQ3 = true := by decide +kernel
set_option maxRecDepth 1000000 in
theorem pC4 : endsP (fxp 3000 22 29 129 0 [some (.inr (some 0)), some (.inl 1), none, none, none] [] hM15) 22 [some (.inr (some 0)), some (.inl 1), some (.inl 0), some (.inl 0), none] [.inr (some 0)] hM15 = true := by decide +kernel
set_option maxRecDepth 1000000 in
theorem pC5 : endsP (fxp 3000 28 29 129 23 [some (.inr (some 0)), some (.inl 1), some (.inl 0), some (.inl 0), none] [.inl 1] hQ3) 56 [some (.inr (some 0)), some (.inl 1), some (.inl 1), some (.inl 1), some (.inl 1)] [.inl 2] hQ3 = true := by decide +kernel
