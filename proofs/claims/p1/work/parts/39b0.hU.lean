/-! THE MODEL'S LOOKING FOR UNIFIERS, at two places (closed runs) -/
/-- the heap behind findUnifiers of the places i, j of a fresh model -/
def hU (i j : Nat) : List MC := [(21, [.inl 0, .inr (some 1), .inr (some 2), .inl 0, .inr (some 3), .inr (some 4), .inr (some 5), .inl 0, .inr (some 6), .inr (some 7), .inl 0, .inl 0, .inl 0, .inl 1, .inl 0, .inl 119998, .inl 0, .inr (some 8), .inl 1, .inr (some 9), .inl 0, .inr none, .inr none]),
  (0, List.replicate 10 (.inl 0)),
  (1, List.replicate 10 (.inl 0)),
  (2, plc),
  (2, List.replicate 40 (.inr none)),
  (2, List.replicate 40 (.inr none)),
  (2, List.replicate 4000 (.inr none)),
  (2, List.replicate 4000 (.inr none)),
  (3, .inr (some 27) :: List.replicate 63 (.inr none)),
  (0, List.replicate 12 (.inl 0)),
  (0, [.inl 100]),
  (0, [.inl 100]),
  (0, [.inl 100]),
  (0, [.inl 100]),
  (0, [.inl 100]),
  (0, [.inl 100]),
  (0, [.inl 100]),
  (0, [.inl 100]),
  (0, [.inl 100]),
  (0, [.inl 100]),
  (0, [.inl 100]),
  (0, [.inl 100]),
  (0, [.inl 100]),
  (0, [.inl 100]),
  (0, [.inl 100]),
  (0, [.inl 100]),
  (2, [.inr (some (10 + i)), .inr (some (10 + j))]),
  (2, List.replicate 12 (.inr none)),
  (0, [.inl 100]),
  (0, [.inl 100])]
theorem all16 {p : Nat → Bool} (h : [0, 1, 2, 3, 4, 5, 6, 7, 8, 9, 10, 11, 12, 13, 14, 15].all p = true) {n : Nat} (hn : n < 16) : p n = true := by
  refine List.all_eq_true.mp h n ?_
  have e : ∀ m, m < 16 → m ∈ [0, 1, 2, 3, 4, 5, 6, 7, 8, 9, 10, 11, 12, 13, 14, 15] := by decide
  exact e n hn
def hUok (i j : Nat) : Bool := endsV (fx 600 8 119 0 [some (.inr (some 0)), some (.inr (some (10 + i))), some (.inr (some (10 + j))), none] [] hM) (hU i j)
set_option maxRecDepth 1000000 in
theorem hU_0 : [0, 1, 2, 3, 4, 5, 6, 7, 8, 9, 10, 11, 12, 13, 14, 15].all (fun j => hUok 0 j) = true := by decide +kernel
set_option maxRecDepth 1000000 in
theorem hU_1 : [0, 1, 2, 3, 4, 5, 6, 7, 8, 9, 10, 11, 12, 13, 14, 15].all (fun j => hUok 1 j) = true := by decide +kernel
set_option maxRecDepth 1000000 in
theorem hU_2 : [0, 1, 2, 3, 4, 5, 6, 7, 8, 9, 10, 11, 12, 13, 14, 15].all (fun j => hUok 2 j) = true := by decide +kernel
set_option maxRecDepth 1000000 in
theorem hU_3 : [0, 1, 2, 3, 4, 5, 6, 7, 8, 9, 10, 11, 12, 13, 14, 15].all (fun j => hUok 3 j) = true := by decide +kernel
