/-! the same, places 12 and on -/
set_option maxRecDepth 1000000 in
theorem hU_12 : [0, 1, 2, 3, 4, 5, 6, 7, 8, 9, 10, 11, 12, 13, 14, 15].all (fun j => hUok 12 j) = true := by decide +kernel
set_option maxRecDepth 1000000 in
theorem hU_13 : [0, 1, 2, 3, 4, 5, 6, 7, 8, 9, 10, 11, 12, 13, 14, 15].all (fun j => hUok 13 j) = true := by decide +kernel
set_option maxRecDepth 1000000 in
theorem hU_14 : [0, 1, 2, 3, 4, 5, 6, 7, 8, 9, 10, 11, 12, 13, 14, 15].all (fun j => hUok 14 j) = true := by decide +kernel
set_option maxRecDepth 1000000 in
theorem hU_15 : [0, 1, 2, 3, 4, 5, 6, 7, 8, 9, 10, 11, 12, 13, 14, 15].all (fun j => hUok 15 j) = true := by decide +kernel
theorem hU_made {i j : Nat} (hi : i < 16) (hj : j < 16) : fx 600 8 119 0 [some (.inr (some 0)), some (.inr (some (10 + i))), some (.inr (some (10 + j))), none] [] hM = some (none, hU i j) := by
  refine endsV_eq (?_ : hUok i j = true)
  rcases (show i = 0 ∨ i = 1 ∨ i = 2 ∨ i = 3 ∨ i = 4 ∨ i = 5 ∨ i = 6 ∨ i = 7 ∨ i = 8 ∨ i = 9 ∨ i = 10 ∨ i = 11 ∨ i = 12 ∨ i = 13 ∨ i = 14 ∨ i = 15 by omega) with rfl | rfl | rfl | rfl | rfl | rfl | rfl | rfl | rfl | rfl | rfl | rfl | rfl | rfl | rfl | rfl
  · exact all16 hU_0 hj
  · exact all16 hU_1 hj
  · exact all16 hU_2 hj
  · exact all16 hU_3 hj
  · exact all16 hU_4 hj
  · exact all16 hU_5 hj
  · exact all16 hU_6 hj
  · exact all16 hU_7 hj
  · exact all16 hU_8 hj
  · exact all16 hU_9 hj
  · exact all16 hU_10 hj
  · exact all16 hU_11 hj
  · exact all16 hU_12 hj
  · exact all16 hU_13 hj
  · exact all16 hU_14 hj
  · exact all16 hU_15 hj
