/-! the same, places 4 and on -/
set_option maxRecDepth 1000000 in
theorem hU_4 : [0, 1, 2, 3, 4, 5, 6, 7, 8, 9, 10, 11, 12, 13, 14, 15].all (fun j => hUok 4 j) = true := by decide +kernel
set_option maxRecDepth 1000000 in
theorem hU_5 : [0, 1, 2, 3, 4, 5, 6, 7, 8, 9, 10, 11, 12, 13, 14, 15].all (fun j => hUok 5 j) = true := by decide +kernel
set_option maxRecDepth 1000000 in
theorem hU_6 : [0, 1, 2, 3, 4, 5, 6, 7, 8, 9, 10, 11, 12, 13, 14, 15].all (fun j => hUok 6 j) = true := by decide +kernel
set_option maxRecDepth 1000000 in
theorem hU_7 : [0, 1, 2, 3, 4, 5, 6, 7, 8, 9, 10, 11, 12, 13, 14, 15].all (fun j => hUok 7 j) = true := by decide +kernel
