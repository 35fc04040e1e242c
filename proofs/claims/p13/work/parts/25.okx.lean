/-! the decoded rows are the methods' own (a row a few methods) -/
set_option maxRecDepth 1000000 in
theorem okx_0 : (List.range' 0 12).all fcm = true := by decide +kernel
set_option maxRecDepth 1000000 in
theorem okx_12 : (List.range' 12 12).all fcm = true := by decide +kernel
set_option maxRecDepth 1000000 in
theorem okx_24 : (List.range' 24 12).all fcm = true := by decide +kernel
set_option maxRecDepth 1000000 in
theorem okx_36 : (List.range' 36 12).all fcm = true := by decide +kernel
set_option maxRecDepth 1000000 in
theorem okx_48 : (List.range' 48 12).all fcm = true := by decide +kernel
set_option maxRecDepth 1000000 in
theorem okx_60 : (List.range' 60 12).all fcm = true := by decide +kernel
set_option maxRecDepth 1000000 in
theorem okx_72 : (List.range' 72 12).all fcm = true := by decide +kernel
set_option maxRecDepth 1000000 in
theorem okx_84 : (List.range' 84 12).all fcm = true := by decide +kernel
set_option maxRecDepth 1000000 in
theorem okx_96 : (List.range' 96 12).all fcm = true := by decide +kernel
set_option maxRecDepth 1000000 in
theorem okx_108 : (List.range' 108 12).all fcm = true := by decide +kernel
set_option maxRecDepth 1000000 in
theorem okx_120 : (List.range' 120 12).all fcm = true := by decide +kernel
set_option maxRecDepth 1000000 in
theorem okx_132 : (List.range' 132 12).all fcm = true := by decide +kernel
set_option maxRecDepth 1000000 in
theorem okx_144 : (List.range' 144 3).all fcm = true := by decide +kernel
theorem mmt_len : mmt.length = 147 := by decide +kernel
theorem okx : ∀ M, Fok M := by
  intro M q hq
  have hM : M < 147 := by rw [← mmt_len]; exact (List.getElem?_eq_some_iff.mp hq).1
  have h : fcm M = true := by
    by_cases c0 : M < 12
    · exact List.all_eq_true.mp okx_0 M (List.mem_range'_1.mpr (by omega))
    by_cases c1 : M < 24
    · exact List.all_eq_true.mp okx_12 M (List.mem_range'_1.mpr (by omega))
    by_cases c2 : M < 36
    · exact List.all_eq_true.mp okx_24 M (List.mem_range'_1.mpr (by omega))
    by_cases c3 : M < 48
    · exact List.all_eq_true.mp okx_36 M (List.mem_range'_1.mpr (by omega))
    by_cases c4 : M < 60
    · exact List.all_eq_true.mp okx_48 M (List.mem_range'_1.mpr (by omega))
    by_cases c5 : M < 72
    · exact List.all_eq_true.mp okx_60 M (List.mem_range'_1.mpr (by omega))
    by_cases c6 : M < 84
    · exact List.all_eq_true.mp okx_72 M (List.mem_range'_1.mpr (by omega))
    by_cases c7 : M < 96
    · exact List.all_eq_true.mp okx_84 M (List.mem_range'_1.mpr (by omega))
    by_cases c8 : M < 108
    · exact List.all_eq_true.mp okx_96 M (List.mem_range'_1.mpr (by omega))
    by_cases c9 : M < 120
    · exact List.all_eq_true.mp okx_108 M (List.mem_range'_1.mpr (by omega))
    by_cases c10 : M < 132
    · exact List.all_eq_true.mp okx_120 M (List.mem_range'_1.mpr (by omega))
    by_cases c11 : M < 144
    · exact List.all_eq_true.mp okx_132 M (List.mem_range'_1.mpr (by omega))
    by_cases c12 : M < 147
    · exact List.all_eq_true.mp okx_144 M (List.mem_range'_1.mpr (by omega))
    omega
  exact Fok_of h q hq
