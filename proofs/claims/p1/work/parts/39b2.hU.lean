/-! the same, places 8 and on -/
set_option maxRecDepth 1000000 in
theorem hU_8 : [0, 1, 2, 3, 4, 5, 6, 7, 8, 9, 10, 11, 12, 13, 14, 15].all (fun j => hUok 8 j) = true := by decide +kernel
set_option maxRecDepth 1000000 in
theorem hU_9 : [0, 1, 2, 3, 4, 5, 6, 7, 8, 9, 10, 11, 12, 13, 14, 15].all (fun j => hUok 9 j) = true := by decide +kernel
set_option maxRecDepth 1000000 in
theorem hU_10 : [0, 1, 2, 3, 4, 5, 6, 7, 8, 9, 10, 11, 12, 13, 14, 15].all (fun j => hUok 10 j) = true := by decide +kernel
set_option maxRecDepth 1000000 in
theorem hU_11 : [0, 1, 2, 3, 4, 5, 6, 7, 8, 9, 10, 11, 12, 13, 14, 15].all (fun j => hUok 11 j) = true := by decide +kernel
