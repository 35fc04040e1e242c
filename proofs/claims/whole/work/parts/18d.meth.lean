/-! THE METHODS ON A FRESH DESK (rows for p1) -/
section FD
variable {d M j : Nat} {ml : List (Option MV)} {st : List MV} {h : List MC} {Q : Option MV → List MC → Prop} {pc len nj tj a b : Nat} {q : MM}
/-- a place of an array whose places all hold the same -/
theorem F_aald_rep {i : Int32} {av n t : Nat} {v : Option Nat} (hx : fget M j = some (pc, .aaload, 1, nj, tj, a, b, 0)) (hq : mmt[M]? = some q) (hc : h[av]? = some (t, List.replicate n (.inr v))) (ht : t = 2 ∨ t = 3 ∨ t = 4) (h0 : ¬ i < 0) (h1 : i.toNatClampNeg < n) (k : PF d M nj ml (.inr v :: st) h Q) : PF d M j ml (.inl i :: .inr (some av) :: st) h Q := by
  refine F_ps (p1 := pc + 1) (ml1 := ml) (st1 := .inr v :: st) (h1 := h) hx hq ?_ k
  simp only [mpsG, k_aaload, hc, ht, and_self, if_true, List.length_replicate, mix, h0, if_false, h1, Option.bind_some, List.getElem?_replicate, mref, Option.map_some]
end FD
/-- EquationDesk.size on a fresh desk, a place -/
theorem fd_size_in {d : Nat} {x : Int32} {Q : Option MV → List MC → Prop} (h0 : ¬ x < 0) (h1 : ¬ (16 : Int32) ≤ x) (h2 : x.toNatClampNeg < 16) (k : Q (some (.inl 1)) hD) : PF (d + 1) 25 0 [some (.inr (some 0)), some (.inl x)] [] hD Q := by
  repeat (first | refine F_ps rfl rfl rfl ?_ | refine F_call rfl rfl rfl rfl ?_ | refine F_nat rfl rfl rfl rfl ?_ | refine F_ret rfl rfl rfl ?_ | refine F_goto rfl rfl ?_ | (refine F_ift rfl rfl ?_ ?_; · (first | rfl | (simp [mcmp, *]; done))) | (refine F_iff rfl rfl ?_ ?_; · (first | rfl | (simp [mcmp, *]; done))) | (refine F_ct rfl rfl ?_ ?_; · (first | rfl | (simp [mcmp, *]; done))) | (refine F_cf rfl rfl ?_ ?_; · (first | rfl | (simp [mcmp, *]; done))) | refine F_aald_rep rfl rfl rfl (by decide) h0 h2 ?_ | exact k)
/-- EquationDesk.size on a fresh desk, no place -/
theorem fd_size_neg {d : Nat} {x : Int32} {Q : Option MV → List MC → Prop} (h0 : x < 0) (k : Q (some (.inl (-1))) hD) : PF (d + 1) 25 0 [some (.inr (some 0)), some (.inl x)] [] hD Q := by
  repeat (first | refine F_ps rfl rfl rfl ?_ | refine F_call rfl rfl rfl rfl ?_ | refine F_nat rfl rfl rfl rfl ?_ | refine F_ret rfl rfl rfl ?_ | refine F_goto rfl rfl ?_ | (refine F_ift rfl rfl ?_ ?_; · (first | rfl | (simp [mcmp, *]; done))) | (refine F_iff rfl rfl ?_ ?_; · (first | rfl | (simp [mcmp, *]; done))) | (refine F_ct rfl rfl ?_ ?_; · (first | rfl | (simp [mcmp, *]; done))) | (refine F_cf rfl rfl ?_ ?_; · (first | rfl | (simp [mcmp, *]; done))) | exact k)
set_option maxRecDepth 100000 in
set_option maxHeartbeats 40000000 in
/-- EquationDesk.greater on a fresh desk, two places -/
theorem fd_greater_in {x y : Int32} {Q : Option MV → List MC → Prop} (h0 : ¬ x < 0) (h1 : ¬ (16 : Int32) ≤ x) (h2 : x.toNatClampNeg < 16) (g0 : ¬ y < 0) (g1 : ¬ (16 : Int32) ≤ y) (g2 : y.toNatClampNeg < 16) (k : ∀ h, Q (some (.inl 0)) h) : PF 9 30 0 [some (.inr (some 0)), some (.inl x), some (.inl y)] [] hD Q := by
  repeat (first | refine F_ps rfl rfl rfl ?_ | refine F_call rfl rfl rfl rfl ?_ | refine F_nat rfl rfl rfl rfl ?_ | refine F_ret rfl rfl rfl ?_ | refine F_goto rfl rfl ?_ | (refine F_ift rfl rfl ?_ ?_; · (first | rfl | (simp [mcmp, *]; done))) | (refine F_iff rfl rfl ?_ ?_; · (first | rfl | (simp [mcmp, *]; done))) | (refine F_ct rfl rfl ?_ ?_; · (first | rfl | (simp [mcmp, *]; done))) | (refine F_cf rfl rfl ?_ ?_; · (first | rfl | (simp [mcmp, *]; done))) | refine F_aald_rep rfl rfl rfl (by decide) h0 h2 ?_ | refine F_aald_rep rfl rfl rfl (by decide) g0 g2 ?_ | exact k _)
