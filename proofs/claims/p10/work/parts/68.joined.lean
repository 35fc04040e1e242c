/-! greater(6, 11), joined out of its pieces (wip/whole/refute/gen_runs.py) -/
set_option maxRecDepth 1000000 in
theorem hM14_cl : hM14.all (fun c => c.2.all (clv hM14.length)) = true := by decide +kernel
set_option maxRecDepth 1000000 in
theorem hX15_cl : hX15.all (fun c => c.2.all (clv hX15.length)) = true := by decide +kernel
set_option maxRecDepth 1000000 in
set_option maxHeartbeats 40000000 in
theorem gM : Run2 104 3 [.inr (some 0), .inl 6, .inl 11] hM14 hM14 0 1490 1490 7980 := by
  refine ⟨tb0 ++ gg0, ?_, hM14_cl, by decide +kernel, by decide +kernel, by decide +kernel⟩
  refine qpiece0 (np := 37) qtb_ok qo_104 (F := 3000) (n := 18) (j2 := 18) (ml2 := [some (.inr (some 0)), some (.inl 6), some (.inl 11)]) (st2 := [.inr (some 36), .inr (some 31), .inr (some 0)]) (p2 := hM14) (s2 := []) (by decide +kernel) (by decide +kernel) ?_
  rw [List.append_nil]
  refine F_call rfl rfl rfl rfl ?_
  refine qpiece0 (np := 37) qtb_ok qo_105 (F := 3000) (n := 17) (j2 := 17) (ml2 := lB24) (st2 := []) (p2 := hM14) (s2 := tb24) (by decide +kernel) (by decide +kernel) ?_
  rw [show hM14 ++ tb24 = hP24 ++ gg24 by simp [hP24, gg24]]
  refine qpiece (w := wB24) (qtb_ok _) (qo_105 _) vB24 pB24 ?_
  show PF 8 105 17 lB23 [] (hP23 ++ gg23) _
  refine qpiece (w := wB23) (qtb_ok _) (qo_105 _) vB23 pB23 ?_
  show PF 8 105 17 lB22 [] (hP22 ++ gg22) _
  refine qpiece (w := wB22) (qtb_ok _) (qo_105 _) vB22 pB22 ?_
  show PF 8 105 17 lB21 [] (hP21 ++ gg21) _
  refine qpiece (w := wB21) (qtb_ok _) (qo_105 _) vB21 pB21 ?_
  show PF 8 105 17 lB20 [] (hP20 ++ gg20) _
  refine qpiece (w := wB20) (qtb_ok _) (qo_105 _) vB20 pB20 ?_
  show PF 8 105 17 lB19 [] (hP19 ++ gg19) _
  refine qpiece (w := wB19) (qtb_ok _) (qo_105 _) vB19 pB19 ?_
  show PF 8 105 17 lB18 [] (hP18 ++ gg18) _
  refine qpiece (w := wB18) (qtb_ok _) (qo_105 _) vB18 pB18 ?_
  show PF 8 105 17 lB17 [] (hP17 ++ gg17) _
  refine qpiece (w := wB17) (qtb_ok _) (qo_105 _) vB17 pB17 ?_
  show PF 8 105 17 lB16 [] (hP16 ++ gg16) _
  refine qpiece (w := wB16) (qtb_ok _) (qo_105 _) vB16 pB16 ?_
  show PF 8 105 17 lB15 [] (hP15 ++ gg15) _
  refine qpiece (w := wB15) (qtb_ok _) (qo_105 _) vB15 pB15 ?_
  show PF 8 105 17 lB14 [] (hP14 ++ gg14) _
  refine qpiece (w := wB14) (qtb_ok _) (qo_105 _) vB14 pB14 ?_
  show PF 8 105 17 lB13 [] (hP13 ++ gg13) _
  refine qpiece (w := wB13) (qtb_ok _) (qo_105 _) vB13 pB13 ?_
  show PF 8 105 17 lB12 [] (hP12 ++ gg12) _
  refine qpiece (w := wB12) (qtb_ok _) (qo_105 _) vB12 pB12 ?_
  show PF 8 105 17 lB11 [] (hP11 ++ gg11) _
  refine qpiece (w := wB11) (qtb_ok _) (qo_105 _) vB11 pB11 ?_
  show PF 8 105 17 lB10 [] (hP10 ++ gg10) _
  refine qpiece (w := wB10) (qtb_ok _) (qo_105 _) vB10 pB10 ?_
  show PF 8 105 17 lB9 [] (hP9 ++ gg9) _
  refine qpiece (w := wB9) (qtb_ok _) (qo_105 _) vB9 pB9 ?_
  show PF 8 105 17 lB8 [] (hP8 ++ gg8) _
  refine qpiece (w := wB8) (qtb_ok _) (qo_105 _) vB8 pB8 ?_
  show PF 8 105 17 lB7 [] (hP7 ++ gg7) _
  refine qpiece (w := wB7) (qtb_ok _) (qo_105 _) vB7 pB7 ?_
  show PF 8 105 17 lB6 [] (hP6 ++ gg6) _
  refine qpiece (w := wB6) (qtb_ok _) (qo_105 _) vB6 pB6 ?_
  show PF 8 105 17 lB5 [] (hP5 ++ gg5) _
  refine qpiece (w := wB5) (qtb_ok _) (qo_105 _) vB5 pB5 ?_
  show PF 8 105 17 lB4 [] (hP4 ++ gg4) _
  refine qpiece (w := wB4) (qtb_ok _) (qo_105 _) vB4 pB4 ?_
  show PF 8 105 17 lB3 [] (hP3 ++ gg3) _
  refine qpiece (w := wB3) (qtb_ok _) (qo_105 _) vB3 pB3 ?_
  show PF 8 105 17 lB2 [] (hP2 ++ gg2) _
  refine qpiece (w := wB2) (qtb_ok _) (qo_105 _) vB2 pB2 ?_
  show PF 8 105 17 lB1 [] (hP1 ++ gg1) _
  refine qpiece (w := wB1) (qtb_ok _) (qo_105 _) vB1 pB1 ?_
  show PF 8 105 17 lB0 [] (hP0 ++ gg0) _
  refine qpiece (w := wB0) (qtb_ok _) (qo_105 _) vB0 (F := 3000) (n := 7) (j2 := 62) (ml2 := [some (.inr (some 0)), some (.inr (some 31)), some (.inr (some 36)), some (.inr (some 37)), some (.inr (some 62)), some (.inl (-1)), some (.inl (-1))]) (st2 := [.inl 0]) (p2 := hP0) (s2 := []) (by decide +kernel) ?_
  refine F_ret rfl rfl rfl ?_
  show PF 9 104 _ _ _ (hP0 ++ (gg0 ++ [])) _
  rw [List.append_nil]
  refine qpiece (w := wB0) (qtb_ok _) (qo_104 _) vB0 (F := 3000) (n := 2) (j2 := 23) (ml2 := [some (.inr (some 0)), some (.inl 6), some (.inl 11)]) (st2 := [.inl 0]) (p2 := hP0) (s2 := []) (by decide +kernel) ?_
  refine F_ret rfl rfl rfl ⟨rfl, ?_⟩
  show hP0 ++ (gg0 ++ []) = hM14 ++ (tb0 ++ gg0)
  rw [List.append_nil, hP0, List.append_assoc]
set_option maxRecDepth 1000000 in
set_option maxHeartbeats 40000000 in
theorem gX1 : Run2 30 3 [.inr (some 0), .inl 6, .inl 11] hX14 hX15 0 0 1 24 := by
  refine ⟨[], ?_, hX15_cl, by decide +kernel, by decide +kernel, by decide +kernel⟩
  refine qpiece0 (np := 81) qtb_ok qo_30 (F := 3000) (n := 16) (j2 := 16) (ml2 := [some (.inr (some 0)), some (.inl 6), some (.inl 11)]) (st2 := [.inr (some 80), .inr (some 75), .inr (some 7)]) (p2 := hX14) (s2 := []) (by decide +kernel) (by decide +kernel) ?_
  rw [List.append_nil]
  refine F_call rfl rfl rfl rfl ?_
  refine qpiece0 (np := 81) qtb_ok qo_31 (F := 3000) (n := 23) (j2 := 25) (ml2 := lY1_0) (st2 := []) (p2 := hY1_0) (s2 := []) (by decide +kernel) (by decide +kernel) ?_
  rw [List.append_nil]
  refine qpiece0 qtb_ok qo_31 (by decide +kernel) pY1_0 ?_
  rw [List.append_nil]
  refine qpiece0 qtb_ok qo_31 (by decide +kernel) pY1_6 ?_
  rw [List.append_nil]
  refine qpiece0 qtb_ok qo_31 (by decide +kernel) pY1_12 ?_
  rw [List.append_nil]
  refine qpiece0 qtb_ok qo_31 (by decide +kernel) pY1_18 ?_
  rw [List.append_nil]
  refine qpiece0 (np := 81) qtb_ok qo_31 (F := 3000) (n := 9) (j2 := 65) (ml2 := [some (.inr (some 7)), some (.inr (some 75)), some (.inr (some 80)), some (.inl (-1)), some (.inl (-1))]) (st2 := [.inl 0]) (p2 := hX15) (s2 := []) (by decide +kernel) (by decide +kernel) ?_
  rw [List.append_nil]
  refine F_ret rfl rfl rfl ?_
  refine qpiece0 (np := 81) qtb_ok qo_30 (F := 3000) (n := 2) (j2 := 21) (ml2 := [some (.inr (some 0)), some (.inl 6), some (.inl 11)]) (st2 := [.inl 0]) (p2 := hX15) (s2 := []) (by decide +kernel) (by decide +kernel) ?_
  rw [List.append_nil]
  exact F_ret rfl rfl rfl ⟨rfl, (List.append_nil _).symm⟩
set_option maxRecDepth 1000000 in
set_option maxHeartbeats 40000000 in
theorem gX2 : Run2 30 3 [.inr (some 0), .inl 6, .inl 11] hX15 hX15 0 0 1 24 := by
  refine ⟨[], ?_, hX15_cl, by decide +kernel, by decide +kernel, by decide +kernel⟩
  refine qpiece0 (np := 81) qtb_ok qo_30 (F := 3000) (n := 16) (j2 := 16) (ml2 := [some (.inr (some 0)), some (.inl 6), some (.inl 11)]) (st2 := [.inr (some 80), .inr (some 75), .inr (some 7)]) (p2 := hX15) (s2 := []) (by decide +kernel) (by decide +kernel) ?_
  rw [List.append_nil]
  refine F_call rfl rfl rfl rfl ?_
  refine qpiece0 (np := 81) qtb_ok qo_31 (F := 3000) (n := 23) (j2 := 25) (ml2 := lY2_0) (st2 := []) (p2 := hY2_0) (s2 := []) (by decide +kernel) (by decide +kernel) ?_
  rw [List.append_nil]
  refine qpiece0 qtb_ok qo_31 (by decide +kernel) pY2_0 ?_
  rw [List.append_nil]
  refine qpiece0 qtb_ok qo_31 (by decide +kernel) pY2_6 ?_
  rw [List.append_nil]
  refine qpiece0 qtb_ok qo_31 (by decide +kernel) pY2_12 ?_
  rw [List.append_nil]
  refine qpiece0 qtb_ok qo_31 (by decide +kernel) pY2_18 ?_
  rw [List.append_nil]
  refine qpiece0 (np := 81) qtb_ok qo_31 (F := 3000) (n := 9) (j2 := 65) (ml2 := [some (.inr (some 7)), some (.inr (some 75)), some (.inr (some 80)), some (.inl (-1)), some (.inl (-1))]) (st2 := [.inl 0]) (p2 := hX15) (s2 := []) (by decide +kernel) (by decide +kernel) ?_
  rw [List.append_nil]
  refine F_ret rfl rfl rfl ?_
  refine qpiece0 (np := 81) qtb_ok qo_30 (F := 3000) (n := 2) (j2 := 21) (ml2 := [some (.inr (some 0)), some (.inl 6), some (.inl 11)]) (st2 := [.inl 0]) (p2 := hX15) (s2 := []) (by decide +kernel) (by decide +kernel) ?_
  rw [List.append_nil]
  exact F_ret rfl rfl rfl ⟨rfl, (List.append_nil _).symm⟩
