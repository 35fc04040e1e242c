/-! complete(1), joined out of its pieces (wip/whole/refute/B/gen_runs.py) -/
set_option maxRecDepth 1000000 in
theorem hM15_cl : hM15.all (fun c => c.2.all (clv hM15.length)) = true := by decide +kernel
set_option maxRecDepth 1000000 in
set_option maxHeartbeats 40000000 in
theorem gM : Run2 129 5 [.inr (some 0), .inl 1] hM15 hM15 2 2774 2774 14996 := by
  refine ⟨gR ++ (J1 ++ J2), ?_, hM15_cl, by decide +kernel, by decide +kernel, by decide +kernel⟩
  refine piece pC4 ?_
  refine F_call rfl rfl rfl rfl ?_
  refine piece pS0 ?_
  refine piece pS1 ?_
  refine F_call rfl rfl rfl rfl ?_
  rw [show hQ1 = hQ1 ++ ([] ++ ([] ++ [])) by simp]
  refine qpiece (np := 157) (b1 := 157) (b2 := 157) (b3 := 157) (g1 := []) (g2 := []) (t := []) qtb_ok qo_105 (F := 3000) (n := 17) (j2 := 17) (ml2 := lB1_24) (st2 := []) (p2 := hQ1) (t2 := []) (s2 := tb1_24) ⟨by decide +kernel, by decide +kernel, rfl, rfl⟩ (by decide +kernel) ?_
  rw [show hQ1 ++ ([] ++ ([] ++ ([] ++ tb1_24))) = hQ1 ++ ([] ++ (tb1_24 ++ gg1_24)) by simp [gg1_24]]
  refine qpiece qtb_ok qo_105 vB1_24 pB1_24 ?_
  show PF 27 105 17 lB1_23 [] (hQ1 ++ ([] ++ (tb1_23 ++ gg1_23))) _
  refine qpiece qtb_ok qo_105 vB1_23 pB1_23 ?_
  show PF 27 105 17 lB1_22 [] (hQ1 ++ ([] ++ (tb1_22 ++ gg1_22))) _
  refine qpiece qtb_ok qo_105 vB1_22 pB1_22 ?_
  show PF 27 105 17 lB1_21 [] (hQ1 ++ ([] ++ (tb1_21 ++ gg1_21))) _
  refine qpiece qtb_ok qo_105 vB1_21 pB1_21 ?_
  show PF 27 105 17 lB1_20 [] (hQ1 ++ ([] ++ (tb1_20 ++ gg1_20))) _
  refine qpiece qtb_ok qo_105 vB1_20 pB1_20 ?_
  show PF 27 105 17 lB1_19 [] (hQ1 ++ ([] ++ (tb1_19 ++ gg1_19))) _
  refine qpiece qtb_ok qo_105 vB1_19 pB1_19 ?_
  show PF 27 105 17 lB1_18 [] (hQ1 ++ ([] ++ (tb1_18 ++ gg1_18))) _
  refine qpiece qtb_ok qo_105 vB1_18 pB1_18 ?_
  show PF 27 105 17 lB1_17 [] (hQ1 ++ ([] ++ (tb1_17 ++ gg1_17))) _
  refine qpiece qtb_ok qo_105 vB1_17 pB1_17 ?_
  show PF 27 105 17 lB1_16 [] (hQ1 ++ ([] ++ (tb1_16 ++ gg1_16))) _
  refine qpiece qtb_ok qo_105 vB1_16 pB1_16 ?_
  show PF 27 105 17 lB1_15 [] (hQ1 ++ ([] ++ (tb1_15 ++ gg1_15))) _
  refine qpiece qtb_ok qo_105 vB1_15 pB1_15 ?_
  show PF 27 105 17 lB1_14 [] (hQ1 ++ ([] ++ (tb1_14 ++ gg1_14))) _
  refine qpiece qtb_ok qo_105 vB1_14 pB1_14 ?_
  show PF 27 105 17 lB1_13 [] (hQ1 ++ ([] ++ (tb1_13 ++ gg1_13))) _
  refine qpiece qtb_ok qo_105 vB1_13 pB1_13 ?_
  show PF 27 105 17 lB1_12 [] (hQ1 ++ ([] ++ (tb1_12 ++ gg1_12))) _
  refine qpiece qtb_ok qo_105 vB1_12 pB1_12 ?_
  show PF 27 105 17 lB1_11 [] (hQ1 ++ ([] ++ (tb1_11 ++ gg1_11))) _
  refine qpiece qtb_ok qo_105 vB1_11 pB1_11 ?_
  show PF 27 105 17 lB1_10 [] (hQ1 ++ ([] ++ (tb1_10 ++ gg1_10))) _
  refine qpiece qtb_ok qo_105 vB1_10 pB1_10 ?_
  show PF 27 105 17 lB1_9 [] (hQ1 ++ ([] ++ (tb1_9 ++ gg1_9))) _
  refine qpiece qtb_ok qo_105 vB1_9 pB1_9 ?_
  show PF 27 105 17 lB1_8 [] (hQ1 ++ ([] ++ (tb1_8 ++ gg1_8))) _
  refine qpiece qtb_ok qo_105 vB1_8 pB1_8 ?_
  show PF 27 105 17 lB1_7 [] (hQ1 ++ ([] ++ (tb1_7 ++ gg1_7))) _
  refine qpiece qtb_ok qo_105 vB1_7 pB1_7 ?_
  show PF 27 105 17 lB1_6 [] (hQ1 ++ ([] ++ (tb1_6 ++ gg1_6))) _
  refine qpiece qtb_ok qo_105 vB1_6 pB1_6 ?_
  show PF 27 105 17 lB1_5 [] (hQ1 ++ ([] ++ (tb1_5 ++ gg1_5))) _
  refine qpiece qtb_ok qo_105 vB1_5 pB1_5 ?_
  show PF 27 105 17 lB1_4 [] (hQ1 ++ ([] ++ (tb1_4 ++ gg1_4))) _
  refine qpiece qtb_ok qo_105 vB1_4 pB1_4 ?_
  show PF 27 105 17 lB1_3 [] (hQ1 ++ ([] ++ (tb1_3 ++ gg1_3))) _
  refine qpiece qtb_ok qo_105 vB1_3 pB1_3 ?_
  show PF 27 105 17 lB1_2 [] (hQ1 ++ ([] ++ (tb1_2 ++ gg1_2))) _
  refine qpiece qtb_ok qo_105 vB1_2 pB1_2 ?_
  show PF 27 105 17 lB1_1 [] (hQ1 ++ ([] ++ (tb1_1 ++ gg1_1))) _
  refine qpiece qtb_ok qo_105 vB1_1 pB1_1 ?_
  show PF 27 105 17 lB1_0 [] (hQ1 ++ ([] ++ (tb1_0 ++ gg1_0))) _
  refine qpiece qtb_ok qo_105 vB1_0 (F := 3000) (n := 7) (j2 := 62) (ml2 := [some (.inr (some 0)), some (.inr (some 121)), some (.inr (some 156)), some (.inr (some 157)), some (.inr (some 182)), some (.inl (-1)), some (.inl (-1))]) (st2 := [.inl 0]) (p2 := hQ1) (t2 := tb1_0) (s2 := []) (by decide +kernel) ?_
  refine F_ret rfl rfl rfl ?_
  show PF 28 130 _ _ _ (hQ1 ++ ([] ++ (tb1_0 ++ (gg1_0 ++ [])))) _
  rw [show hQ1 ++ ([] ++ (tb1_0 ++ (gg1_0 ++ []))) = hQ2 by simp [hQ2, J1]]
  refine piece pS2 ?_
  refine F_call rfl rfl rfl rfl ?_
  rw [show hQ2 = hQ1 ++ (J1 ++ ([] ++ [])) by simp [hQ2]]
  refine qpiece (np := 157) (b1 := 1647) (b2 := 1647) (b3 := 1647) (g1 := J1) (g2 := []) (t := []) qtb_ok qo_105 (F := 3000) (n := 17) (j2 := 17) (ml2 := lB2_24) (st2 := []) (p2 := hQ1) (t2 := []) (s2 := tb2_24) ⟨by decide +kernel, by decide +kernel, rfl, rfl⟩ (by decide +kernel) ?_
  rw [show hQ1 ++ (J1 ++ ([] ++ ([] ++ tb2_24))) = hQ1 ++ (J1 ++ (tb2_24 ++ gg2_24)) by simp [gg2_24]]
  refine qpiece qtb_ok qo_105 vB2_24 pB2_24 ?_
  show PF 27 105 17 lB2_23 [] (hQ1 ++ (J1 ++ (tb2_23 ++ gg2_23))) _
  refine qpiece qtb_ok qo_105 vB2_23 pB2_23 ?_
  show PF 27 105 17 lB2_22 [] (hQ1 ++ (J1 ++ (tb2_22 ++ gg2_22))) _
  refine qpiece qtb_ok qo_105 vB2_22 pB2_22 ?_
  show PF 27 105 17 lB2_21 [] (hQ1 ++ (J1 ++ (tb2_21 ++ gg2_21))) _
  refine qpiece qtb_ok qo_105 vB2_21 pB2_21 ?_
  show PF 27 105 17 lB2_20 [] (hQ1 ++ (J1 ++ (tb2_20 ++ gg2_20))) _
  refine qpiece qtb_ok qo_105 vB2_20 pB2_20 ?_
  show PF 27 105 17 lB2_19 [] (hQ1 ++ (J1 ++ (tb2_19 ++ gg2_19))) _
  refine qpiece qtb_ok qo_105 vB2_19 pB2_19 ?_
  show PF 27 105 17 lB2_18 [] (hQ1 ++ (J1 ++ (tb2_18 ++ gg2_18))) _
  refine qpiece qtb_ok qo_105 vB2_18 pB2_18 ?_
  show PF 27 105 17 lB2_17 [] (hQ1 ++ (J1 ++ (tb2_17 ++ gg2_17))) _
  refine qpiece qtb_ok qo_105 vB2_17 pB2_17 ?_
  show PF 27 105 17 lB2_16 [] (hQ1 ++ (J1 ++ (tb2_16 ++ gg2_16))) _
  refine qpiece qtb_ok qo_105 vB2_16 pB2_16 ?_
  show PF 27 105 17 lB2_15 [] (hQ1 ++ (J1 ++ (tb2_15 ++ gg2_15))) _
  refine qpiece qtb_ok qo_105 vB2_15 pB2_15 ?_
  show PF 27 105 17 lB2_14 [] (hQ1 ++ (J1 ++ (tb2_14 ++ gg2_14))) _
  refine qpiece qtb_ok qo_105 vB2_14 pB2_14 ?_
  show PF 27 105 17 lB2_13 [] (hQ1 ++ (J1 ++ (tb2_13 ++ gg2_13))) _
  refine qpiece qtb_ok qo_105 vB2_13 pB2_13 ?_
  show PF 27 105 17 lB2_12 [] (hQ1 ++ (J1 ++ (tb2_12 ++ gg2_12))) _
  refine qpiece qtb_ok qo_105 vB2_12 pB2_12 ?_
  show PF 27 105 17 lB2_11 [] (hQ1 ++ (J1 ++ (tb2_11 ++ gg2_11))) _
  refine qpiece qtb_ok qo_105 vB2_11 pB2_11 ?_
  show PF 27 105 17 lB2_10 [] (hQ1 ++ (J1 ++ (tb2_10 ++ gg2_10))) _
  refine qpiece qtb_ok qo_105 vB2_10 pB2_10 ?_
  show PF 27 105 17 lB2_9 [] (hQ1 ++ (J1 ++ (tb2_9 ++ gg2_9))) _
  refine qpiece qtb_ok qo_105 vB2_9 pB2_9 ?_
  show PF 27 105 17 lB2_8 [] (hQ1 ++ (J1 ++ (tb2_8 ++ gg2_8))) _
  refine qpiece qtb_ok qo_105 vB2_8 pB2_8 ?_
  show PF 27 105 17 lB2_7 [] (hQ1 ++ (J1 ++ (tb2_7 ++ gg2_7))) _
  refine qpiece qtb_ok qo_105 vB2_7 pB2_7 ?_
  show PF 27 105 17 lB2_6 [] (hQ1 ++ (J1 ++ (tb2_6 ++ gg2_6))) _
  refine qpiece qtb_ok qo_105 vB2_6 pB2_6 ?_
  show PF 27 105 17 lB2_5 [] (hQ1 ++ (J1 ++ (tb2_5 ++ gg2_5))) _
  refine qpiece qtb_ok qo_105 vB2_5 pB2_5 ?_
  show PF 27 105 17 lB2_4 [] (hQ1 ++ (J1 ++ (tb2_4 ++ gg2_4))) _
  refine qpiece qtb_ok qo_105 vB2_4 pB2_4 ?_
  show PF 27 105 17 lB2_3 [] (hQ1 ++ (J1 ++ (tb2_3 ++ gg2_3))) _
  refine qpiece qtb_ok qo_105 vB2_3 pB2_3 ?_
  show PF 27 105 17 lB2_2 [] (hQ1 ++ (J1 ++ (tb2_2 ++ gg2_2))) _
  refine qpiece qtb_ok qo_105 vB2_2 pB2_2 ?_
  show PF 27 105 17 lB2_1 [] (hQ1 ++ (J1 ++ (tb2_1 ++ gg2_1))) _
  refine qpiece qtb_ok qo_105 vB2_1 pB2_1 ?_
  show PF 27 105 17 lB2_0 [] (hQ1 ++ (J1 ++ (tb2_0 ++ gg2_0))) _
  refine qpiece qtb_ok qo_105 vB2_0 (F := 3000) (n := 7) (j2 := 62) (ml2 := [some (.inr (some 0)), some (.inr (some 156)), some (.inr (some 121)), some (.inr (some 1647)), some (.inr (some 1672)), some (.inl (-1)), some (.inl (-1))]) (st2 := [.inl 0]) (p2 := hQ1) (t2 := tb2_0) (s2 := []) (by decide +kernel) ?_
  refine F_ret rfl rfl rfl ?_
  show PF 28 130 _ _ _ (hQ1 ++ (J1 ++ (tb2_0 ++ (gg2_0 ++ [])))) _
  rw [show hQ1 ++ (J1 ++ (tb2_0 ++ (gg2_0 ++ []))) = hQ3 by simp [hQ2, hQ3, J2]]
  refine piece pS3 ?_
  refine F_ret rfl rfl rfl ?_
  refine piece pC5 ?_
  refine F_ret rfl rfl rfl ⟨rfl, ?_⟩
  show hQ3 = hM15 ++ (gR ++ (J1 ++ J2))
  simp only [hQ3, hQ2, hQ1, List.append_assoc]
set_option maxRecDepth 1000000 in
theorem hX16_cl : hX16.all (fun c => c.2.all (clv hX16.length)) = true := by decide +kernel
set_option maxRecDepth 1000000 in
set_option maxHeartbeats 40000000 in
theorem gX1 : Run2 70 5 [.inr (some 0), .inl 1] hX15 hX16 2 0 2 48 := by
  refine ⟨[], ?_, hX16_cl, by decide +kernel, by decide +kernel, by decide +kernel⟩
  refine piece pD1_12 ?_
  refine F_call rfl rfl rfl rfl ?_
  refine piece pT1_8 ?_
  refine piece pT1_9 ?_
  refine F_call rfl rfl rfl rfl ?_
  refine qpiece0 (np := 83) qtb_ok qo_31 (F := 3000) (n := 23) (j2 := 25) (ml2 := [some (.inr (some 7)), some (.inr (some 81)), some (.inr (some 82)), some (.inl 23), none]) (st2 := []) (p2 := hZ2) (s2 := []) (by decide +kernel) (by decide +kernel) ?_
  rw [List.append_nil]
  refine qpiece0 qtb_ok qo_31 (by decide +kernel) pY1_1_0 ?_
  rw [List.append_nil]
  refine qpiece0 qtb_ok qo_31 (by decide +kernel) pY1_1_6 ?_
  rw [List.append_nil]
  refine qpiece0 qtb_ok qo_31 (by decide +kernel) pY1_1_12 ?_
  rw [List.append_nil]
  refine qpiece0 qtb_ok qo_31 (by decide +kernel) pY1_1_18 ?_
  rw [List.append_nil]
  refine qpiece0 (np := 83) qtb_ok qo_31 (F := 3000) (n := 9) (j2 := 65) (ml2 := [some (.inr (some 7)), some (.inr (some 81)), some (.inr (some 82)), some (.inl (-1)), some (.inl (-1))]) (st2 := [.inl 0]) (p2 := hZ2) (s2 := []) (by decide +kernel) (by decide +kernel) ?_
  rw [List.append_nil]
  refine F_ret rfl rfl rfl ?_
  refine piece pT1_10 ?_
  refine F_call rfl rfl rfl rfl ?_
  refine qpiece0 (np := 83) qtb_ok qo_31 (F := 3000) (n := 23) (j2 := 25) (ml2 := [some (.inr (some 7)), some (.inr (some 82)), some (.inr (some 81)), some (.inl 23), none]) (st2 := []) (p2 := hZ2) (s2 := []) (by decide +kernel) (by decide +kernel) ?_
  rw [List.append_nil]
  refine qpiece0 qtb_ok qo_31 (by decide +kernel) pY1_2_0 ?_
  rw [List.append_nil]
  refine qpiece0 qtb_ok qo_31 (by decide +kernel) pY1_2_6 ?_
  rw [List.append_nil]
  refine qpiece0 qtb_ok qo_31 (by decide +kernel) pY1_2_12 ?_
  rw [List.append_nil]
  refine qpiece0 qtb_ok qo_31 (by decide +kernel) pY1_2_18 ?_
  rw [List.append_nil]
  refine qpiece0 (np := 83) qtb_ok qo_31 (F := 3000) (n := 9) (j2 := 65) (ml2 := [some (.inr (some 7)), some (.inr (some 82)), some (.inr (some 81)), some (.inl (-1)), some (.inl (-1))]) (st2 := [.inl 0]) (p2 := hX16) (s2 := []) (by decide +kernel) (by decide +kernel) ?_
  rw [List.append_nil]
  refine F_ret rfl rfl rfl ?_
  refine piece pT1_11 ?_
  refine F_ret rfl rfl rfl ?_
  refine piece pD1_13 ?_
  exact F_ret rfl rfl rfl ⟨rfl, (List.append_nil _).symm⟩
set_option maxRecDepth 1000000 in
set_option maxHeartbeats 40000000 in
theorem gX2 : Run2 70 5 [.inr (some 0), .inl 1] hX16 hX16 2 0 2 48 := by
  refine ⟨[], ?_, hX16_cl, by decide +kernel, by decide +kernel, by decide +kernel⟩
  refine piece pD2_26 ?_
  refine F_call rfl rfl rfl rfl ?_
  refine piece pT2_22 ?_
  refine piece pT2_23 ?_
  refine F_call rfl rfl rfl rfl ?_
  refine qpiece0 (np := 83) qtb_ok qo_31 (F := 3000) (n := 23) (j2 := 25) (ml2 := [some (.inr (some 7)), some (.inr (some 81)), some (.inr (some 82)), some (.inl 23), none]) (st2 := []) (p2 := hX16) (s2 := []) (by decide +kernel) (by decide +kernel) ?_
  rw [List.append_nil]
  refine qpiece0 qtb_ok qo_31 (by decide +kernel) pY2_1_0 ?_
  rw [List.append_nil]
  refine qpiece0 qtb_ok qo_31 (by decide +kernel) pY2_1_6 ?_
  rw [List.append_nil]
  refine qpiece0 qtb_ok qo_31 (by decide +kernel) pY2_1_12 ?_
  rw [List.append_nil]
  refine qpiece0 qtb_ok qo_31 (by decide +kernel) pY2_1_18 ?_
  rw [List.append_nil]
  refine qpiece0 (np := 83) qtb_ok qo_31 (F := 3000) (n := 9) (j2 := 65) (ml2 := [some (.inr (some 7)), some (.inr (some 81)), some (.inr (some 82)), some (.inl (-1)), some (.inl (-1))]) (st2 := [.inl 0]) (p2 := hZ2) (s2 := []) (by decide +kernel) (by decide +kernel) ?_
  rw [List.append_nil]
  refine F_ret rfl rfl rfl ?_
  refine piece pT2_24 ?_
  refine F_call rfl rfl rfl rfl ?_
  refine qpiece0 (np := 83) qtb_ok qo_31 (F := 3000) (n := 23) (j2 := 25) (ml2 := [some (.inr (some 7)), some (.inr (some 82)), some (.inr (some 81)), some (.inl 23), none]) (st2 := []) (p2 := hZ2) (s2 := []) (by decide +kernel) (by decide +kernel) ?_
  rw [List.append_nil]
  refine qpiece0 qtb_ok qo_31 (by decide +kernel) pY2_2_0 ?_
  rw [List.append_nil]
  refine qpiece0 qtb_ok qo_31 (by decide +kernel) pY2_2_6 ?_
  rw [List.append_nil]
  refine qpiece0 qtb_ok qo_31 (by decide +kernel) pY2_2_12 ?_
  rw [List.append_nil]
  refine qpiece0 qtb_ok qo_31 (by decide +kernel) pY2_2_18 ?_
  rw [List.append_nil]
  refine qpiece0 (np := 83) qtb_ok qo_31 (F := 3000) (n := 9) (j2 := 65) (ml2 := [some (.inr (some 7)), some (.inr (some 82)), some (.inr (some 81)), some (.inl (-1)), some (.inl (-1))]) (st2 := [.inl 0]) (p2 := hX16) (s2 := []) (by decide +kernel) (by decide +kernel) ?_
  rw [List.append_nil]
  refine F_ret rfl rfl rfl ?_
  refine piece pT2_25 ?_
  refine F_ret rfl rfl rfl ?_
  refine piece pD2_27 ?_
  exact F_ret rfl rfl rfl ⟨rfl, (List.append_nil _).symm⟩
