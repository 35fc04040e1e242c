/-! greater(6, 11), joined out of its pieces (wip/whole/refute/gen_runs.py) -/
set_option maxRecDepth 1000000 in
theorem hM14_cl : hM14.all (fun c => c.2.all (clv hM14.length)) = true := by decide +kernel
set_option maxRecDepth 1000000 in
theorem hX15_cl : hX15.all (fun c => c.2.all (clv hX15.length)) = true := by decide +kernel
set_option maxRecDepth 1000000 in
set_option maxHeartbeats 40000000 in
theorem gM : Run2 104 3 [.inr (some 0), .inl 6, .inl 11] hM14 hM14 0 1490 1490 7980 := by
  refine ⟨tb0 ++ gg0, ?_, hM14_cl, by decide +kernel, by decide +kernel, by decide +kernel⟩
  refine qpiece qtb_ok qo_104 (F := 3000) (n := 18) (j2 := 18) (ml2 := [some (.inr (some 0)), some (.inl 6), some (.inl 11)]) (st2 := [.inr (some 36), .inr (some 31), .inr (some 0)]) (h2 := hM14) (by decide +kernel) ?_
  refine F_call rfl rfl rfl rfl ?_
  refine qpiece qtb_ok qo_105 (F := 3000) (n := 17) (j2 := 17) (ml2 := lB24) (st2 := []) (h2 := hB24) (by decide +kernel) ?_
  refine qpiece qtb_ok qo_105 pB24 ?_
  refine qpiece qtb_ok qo_105 pB23 ?_
  refine qpiece qtb_ok qo_105 pB22 ?_
  refine qpiece qtb_ok qo_105 pB21 ?_
  refine qpiece qtb_ok qo_105 pB20 ?_
  refine qpiece qtb_ok qo_105 pB19 ?_
  refine qpiece qtb_ok qo_105 pB18_17 ?_
  refine qpiece qtb_ok qo_105 pB18_11 ?_
  refine qpiece qtb_ok qo_105 pB18_5 ?_
  refine qpiece qtb_ok qo_105 pB18e ?_
  refine qpiece qtb_ok qo_105 pB17 ?_
  refine qpiece qtb_ok qo_105 pB16 ?_
  refine qpiece qtb_ok qo_105 pB15 ?_
  refine qpiece qtb_ok qo_105 pB14 ?_
  refine qpiece qtb_ok qo_105 pB13 ?_
  refine qpiece qtb_ok qo_105 pB12 ?_
  refine qpiece qtb_ok qo_105 pB11_17 ?_
  refine qpiece qtb_ok qo_105 pB11_11 ?_
  refine qpiece qtb_ok qo_105 pB11_5 ?_
  refine qpiece qtb_ok qo_105 pB11e ?_
  refine qpiece qtb_ok qo_105 pB10 ?_
  refine qpiece qtb_ok qo_105 pB9 ?_
  refine qpiece qtb_ok qo_105 pB8 ?_
  refine qpiece qtb_ok qo_105 pB7 ?_
  refine qpiece qtb_ok qo_105 pB6 ?_
  refine qpiece qtb_ok qo_105 pB5 ?_
  refine qpiece qtb_ok qo_105 pB4_17 ?_
  refine qpiece qtb_ok qo_105 pB4_11 ?_
  refine qpiece qtb_ok qo_105 pB4_5 ?_
  refine qpiece qtb_ok qo_105 pB4e ?_
  refine qpiece qtb_ok qo_105 pB3_17 ?_
  refine qpiece qtb_ok qo_105 pB3_11 ?_
  refine qpiece qtb_ok qo_105 pB3_5 ?_
  refine qpiece qtb_ok qo_105 pB3e ?_
  refine qpiece qtb_ok qo_105 pB2_17 ?_
  refine qpiece qtb_ok qo_105 pB2_11 ?_
  refine qpiece qtb_ok qo_105 pB2_5 ?_
  refine qpiece qtb_ok qo_105 pB2e ?_
  refine qpiece qtb_ok qo_105 pB1_17 ?_
  refine qpiece qtb_ok qo_105 pB1_11 ?_
  refine qpiece qtb_ok qo_105 pB1_5 ?_
  refine qpiece qtb_ok qo_105 pB1e ?_
  refine qpiece qtb_ok qo_105 (F := 3000) (n := 7) (j2 := 62) (ml2 := [some (.inr (some 0)), some (.inr (some 31)), some (.inr (some 36)), some (.inr (some 37)), some (.inr (some 62)), some (.inl (-1)), some (.inl (-1))]) (st2 := [.inl 0]) (h2 := hB0) (by decide +kernel) ?_
  refine F_ret rfl rfl rfl ?_
  refine qpiece qtb_ok qo_104 (F := 3000) (n := 2) (j2 := 23) (ml2 := [some (.inr (some 0)), some (.inl 6), some (.inl 11)]) (st2 := [.inl 0]) (h2 := hB0) (by decide +kernel) ?_
  exact F_ret rfl rfl rfl ⟨rfl, rfl⟩
set_option maxRecDepth 1000000 in
set_option maxHeartbeats 40000000 in
theorem gX1 : Run2 30 3 [.inr (some 0), .inl 6, .inl 11] hX14 hX15 0 0 1 24 := by
  refine ⟨[], ?_, hX15_cl, by decide +kernel, by decide +kernel, by decide +kernel⟩
  refine qpiece qtb_ok qo_30 (F := 3000) (n := 16) (j2 := 16) (ml2 := [some (.inr (some 0)), some (.inl 6), some (.inl 11)]) (st2 := [.inr (some 80), .inr (some 75), .inr (some 7)]) (h2 := hX14) (by decide +kernel) ?_
  refine F_call rfl rfl rfl rfl ?_
  refine qpiece qtb_ok qo_31 (F := 3000) (n := 23) (j2 := 25) (ml2 := lY1_0) (st2 := []) (h2 := hY1_0) (by decide +kernel) ?_
  refine qpiece qtb_ok qo_31 pY1_0 ?_
  refine qpiece qtb_ok qo_31 pY1_6 ?_
  refine qpiece qtb_ok qo_31 pY1_12 ?_
  refine qpiece qtb_ok qo_31 pY1_18 ?_
  refine qpiece qtb_ok qo_31 (F := 3000) (n := 9) (j2 := 65) (ml2 := [some (.inr (some 7)), some (.inr (some 75)), some (.inr (some 80)), some (.inl (-1)), some (.inl (-1))]) (st2 := [.inl 0]) (h2 := hX15) (by decide +kernel) ?_
  refine F_ret rfl rfl rfl ?_
  refine qpiece qtb_ok qo_30 (F := 3000) (n := 2) (j2 := 21) (ml2 := [some (.inr (some 0)), some (.inl 6), some (.inl 11)]) (st2 := [.inl 0]) (h2 := hX15) (by decide +kernel) ?_
  exact F_ret rfl rfl rfl ⟨rfl, (List.append_nil _).symm⟩
set_option maxRecDepth 1000000 in
set_option maxHeartbeats 40000000 in
theorem gX2 : Run2 30 3 [.inr (some 0), .inl 6, .inl 11] hX15 hX15 0 0 1 24 := by
  refine ⟨[], ?_, hX15_cl, by decide +kernel, by decide +kernel, by decide +kernel⟩
  refine qpiece qtb_ok qo_30 (F := 3000) (n := 16) (j2 := 16) (ml2 := [some (.inr (some 0)), some (.inl 6), some (.inl 11)]) (st2 := [.inr (some 80), .inr (some 75), .inr (some 7)]) (h2 := hX15) (by decide +kernel) ?_
  refine F_call rfl rfl rfl rfl ?_
  refine qpiece qtb_ok qo_31 (F := 3000) (n := 23) (j2 := 25) (ml2 := lY2_0) (st2 := []) (h2 := hY2_0) (by decide +kernel) ?_
  refine qpiece qtb_ok qo_31 pY2_0 ?_
  refine qpiece qtb_ok qo_31 pY2_6 ?_
  refine qpiece qtb_ok qo_31 pY2_12 ?_
  refine qpiece qtb_ok qo_31 pY2_18 ?_
  refine qpiece qtb_ok qo_31 (F := 3000) (n := 9) (j2 := 65) (ml2 := [some (.inr (some 7)), some (.inr (some 75)), some (.inr (some 80)), some (.inl (-1)), some (.inl (-1))]) (st2 := [.inl 0]) (h2 := hX15) (by decide +kernel) ?_
  refine F_ret rfl rfl rfl ?_
  refine qpiece qtb_ok qo_30 (F := 3000) (n := 2) (j2 := 21) (ml2 := [some (.inr (some 0)), some (.inl 6), some (.inl 11)]) (st2 := [.inl 0]) (h2 := hX15) (by decide +kernel) ?_
  exact F_ret rfl rfl rfl ⟨rfl, (List.append_nil _).symm⟩
