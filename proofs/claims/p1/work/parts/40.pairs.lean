/-! EACH CALL ON A FRESH DESK AND ON A FRESH MODEL: the same answer (gen_law.py) -/
theorem pr_symbol (x y : Int32) (hy : y = 0 ∨ y = 1) : ∃ v : Int32, (∀ Q : Option MV → List MC → Prop, (∀ h, okD h → Q (some (.inl v)) h) → PF 9 11 0 [some (.inr (some 0)), some (.inl x), some (.inl y)] [] hJ Q) ∧ (∀ Q : Option MV → List MC → Prop, (∀ h, okM h → Q (some (.inl v)) h) → PF 9 93 0 [some (.inr (some 0)), some (.inl x), some (.inl y)] [] hM Q) := by
  rcases ic_cases x 3 (by decide) with ⟨xa, xb, xc, xd⟩ | ⟨xa, xb, xc, xd⟩ | ⟨xa, xb, xc, xd⟩
  · skip
    rcases hy with rfl | rfl
    · skip
      exact ⟨-1, fun Q k => fD_symbol_n0 xa xb xc xd k, fun Q k => fM_symbol_n0 xa xb xc xd k⟩
    · skip
      exact ⟨-1, fun Q k => fD_symbol_n1 xa xb xc xd k, fun Q k => fM_symbol_n1 xa xb xc xd k⟩
  · skip
    rcases hy with rfl | rfl
    · skip
      exact ⟨-1, fun Q k => fD_symbol_b0 xa xb xc xd (ic_gt2 xc) k, fun Q k => fM_symbol_b0 xa xb xc xd (ic_gt2 xc) k⟩
    · skip
      exact ⟨-1, fun Q k => fD_symbol_b1 xa xb xc xd (ic_gt2 xc) k, fun Q k => fM_symbol_b1 xa xb xc xd (ic_gt2 xc) k⟩
  · skip
    rcases ic_eq3 xa xd with rfl | rfl | rfl
    · skip
      rcases hy with rfl | rfl
      · skip
        exact ⟨0, fun Q k => fD_symbol_00 k, fun Q k => fM_symbol_00 k⟩
      · skip
        exact ⟨-1, fun Q k => fD_symbol_01 k, fun Q k => fM_symbol_01 k⟩
    · skip
      rcases hy with rfl | rfl
      · skip
        exact ⟨0, fun Q k => fD_symbol_10 k, fun Q k => fM_symbol_10 k⟩
      · skip
        exact ⟨-1, fun Q k => fD_symbol_11 k, fun Q k => fM_symbol_11 k⟩
    · skip
      rcases hy with rfl | rfl
      · skip
        exact ⟨0, fun Q k => fD_symbol_20 k, fun Q k => fM_symbol_20 k⟩
      · skip
        exact ⟨0, fun Q k => fD_symbol_21 k, fun Q k => fM_symbol_21 k⟩
theorem pr_variable (x y : Int32) : ∃ v : Int32, (∀ Q : Option MV → List MC → Prop, (∀ h, okD h → Q (some (.inl v)) h) → PF 9 13 0 [some (.inr (some 0)), some (.inl x), some (.inl y)] [] hJ Q) ∧ (∀ Q : Option MV → List MC → Prop, (∀ h, okM h → Q (some (.inl v)) h) → PF 9 94 0 [some (.inr (some 0)), some (.inl x), some (.inl y)] [] hM Q) := by
  rcases ic_cases x 16 (by decide) with ⟨xa, xb, xc, xd⟩ | ⟨xa, xb, xc, xd⟩ | ⟨xa, xb, xc, xd⟩
  · skip
    exact ⟨0, fun Q k => fD_variable_n xa xb xc xd k, fun Q k => fM_variable_n xa xb xc xd k⟩
  · skip
    exact ⟨0, fun Q k => fD_variable_b xa xb xc xd k, fun Q k => fM_variable_b xa xb xc xd k⟩
  · skip
    rcases ic_cases y 6 (by decide) with ⟨ya, yb, yc, yd⟩ | ⟨ya, yb, yc, yd⟩ | ⟨ya, yb, yc, yd⟩
    · skip
      exact ⟨0, fun Q k => fD_variable_In xa xb xc xd (ic_nat xa xd) ya yb yc yd k, fun Q k => fM_variable_In xa xb xc xd (ic_nat xa xd) ya yb yc yd k⟩
    · skip
      exact ⟨0, fun Q k => fD_variable_Ib xa xb xc xd (ic_nat xa xd) ya yb yc yd k, fun Q k => fM_variable_Ib xa xb xc xd (ic_nat xa xd) ya yb yc yd k⟩
    · skip
      exact ⟨1, fun Q k => fD_variable_II xa xb xc xd (ic_nat xa xd) ya yb yc yd k, fun Q k => fM_variable_II xa xb xc xd (ic_nat xa xd) ya yb yc yd k⟩
theorem pr_term (x y z w : Int32) : ∃ v : Int32, (∀ Q : Option MV → List MC → Prop, (∀ h, okD h → Q (some (.inl v)) h) → PF 9 16 0 [some (.inr (some 0)), some (.inl x), some (.inl y), some (.inl z), some (.inl w), none, none] [] hJ Q) ∧ (∀ Q : Option MV → List MC → Prop, (∀ h, okM h → Q (some (.inl v)) h) → PF 9 96 0 [some (.inr (some 0)), some (.inl x), some (.inl y), some (.inl z), some (.inl w), none, none, none] [] hM Q) := by
  rcases ic_cases x 16 (by decide) with ⟨xa, xb, xc, xd⟩ | ⟨xa, xb, xc, xd⟩ | ⟨xa, xb, xc, xd⟩
  · skip
    exact ⟨0, fun Q k => fD_term_n xa xb xc xd k, fun Q k => fM_term_n xa xb xc xd k⟩
  · skip
    exact ⟨0, fun Q k => fD_term_b xa xb xc xd k, fun Q k => fM_term_b xa xb xc xd k⟩
  · skip
    rcases ic_cases y 0 (by decide) with ⟨ya, yb, yc, yd⟩ | ⟨ya, yb, yc, yd⟩ | ⟨ya, yb, yc, yd⟩
    · skip
      exact ⟨0, fun Q k => fD_term_In xa xb xc xd (ic_nat xa xd) ya yb yc yd k, fun Q k => fM_term_In xa xb xc xd (ic_nat xa xd) ya yb yc yd k⟩
    · skip
      exact ⟨0, fun Q k => fD_term_Ib xa xb xc xd (ic_nat xa xd) ya yb yc yd k, fun Q k => fM_term_Ib xa xb xc xd (ic_nat xa xd) ya yb yc yd k⟩
    · skip
      exact absurd ya (fun q => q yd)
theorem pr_size (x : Int32) : ∃ v : Int32, (∀ Q : Option MV → List MC → Prop, (∀ h, okD h → Q (some (.inl v)) h) → PF 9 25 0 [some (.inr (some 0)), some (.inl x)] [] hJ Q) ∧ (∀ Q : Option MV → List MC → Prop, (∀ h, okM h → Q (some (.inl v)) h) → PF 9 100 0 [some (.inr (some 0)), some (.inl x)] [] hM Q) := by
  rcases ic_cases x 16 (by decide) with ⟨xa, xb, xc, xd⟩ | ⟨xa, xb, xc, xd⟩ | ⟨xa, xb, xc, xd⟩
  · skip
    exact ⟨-1, fun Q k => fD_size_n xa xb xc xd k, fun Q k => fM_size_n xa xb xc xd k⟩
  · skip
    exact ⟨-1, fun Q k => fD_size_b xa xb xc xd k, fun Q k => fM_size_b xa xb xc xd k⟩
  · skip
    exact ⟨1, fun Q k => fD_size_I xa xb xc xd (ic_nat xa xd) k, fun Q k => fM_size_I xa xb xc xd (ic_nat xa xd) k⟩
theorem pr_node (x y : Int32) : ∃ v : Int32, (∀ Q : Option MV → List MC → Prop, (∀ h, okD h → Q (some (.inl v)) h) → PF 9 26 0 [some (.inr (some 0)), some (.inl x), some (.inl y), none] [] hJ Q) ∧ (∀ Q : Option MV → List MC → Prop, (∀ h, okM h → Q (some (.inl v)) h) → PF 9 101 0 [some (.inr (some 0)), some (.inl x), some (.inl y)] [] hM Q) := by
  rcases ic_cases x 16 (by decide) with ⟨xa, xb, xc, xd⟩ | ⟨xa, xb, xc, xd⟩ | ⟨xa, xb, xc, xd⟩
  · skip
    exact ⟨-1, fun Q k => fD_node_n xa xb xc xd k, fun Q k => fM_node_n xa xb xc xd k⟩
  · skip
    exact ⟨-1, fun Q k => fD_node_b xa xb xc xd k, fun Q k => fM_node_b xa xb xc xd k⟩
  · skip
    rcases ic_cases y 1 (by decide) with ⟨ya, yb, yc, yd⟩ | ⟨ya, yb, yc, yd⟩ | ⟨ya, yb, yc, yd⟩
    · skip
      exact ⟨-1, fun Q k => fD_node_In xa xb xc xd (ic_nat xa xd) ya yb yc yd k, fun Q k => fM_node_In xa xb xc xd (ic_nat xa xd) ya yb yc yd k⟩
    · skip
      exact ⟨-1, fun Q k => fD_node_Ib xa xb xc xd (ic_nat xa xd) ya yb yc yd k, fun Q k => fM_node_Ib xa xb xc xd (ic_nat xa xd) ya yb yc yd k⟩
    · skip
      have ey := ic_eq1 ya yd
      subst ey
      exact ⟨100, fun Q k => fD_node_I0 xa xb xc xd (ic_nat xa xd) k, fun Q k => fM_node_I0 xa xb xc xd (ic_nat xa xd) k⟩
theorem pr_same (x y : Int32) : ∃ v : Int32, (∀ Q : Option MV → List MC → Prop, (∀ h, okD h → Q (some (.inl v)) h) → PF 9 27 0 [some (.inr (some 0)), some (.inl x), some (.inl y)] [] hJ Q) ∧ (∀ Q : Option MV → List MC → Prop, (∀ h, okM h → Q (some (.inl v)) h) → PF 9 102 0 [some (.inr (some 0)), some (.inl x), some (.inl y)] [] hM Q) := by
  rcases ic_cases x 16 (by decide) with ⟨xa, xb, xc, xd⟩ | ⟨xa, xb, xc, xd⟩ | ⟨xa, xb, xc, xd⟩
  · skip
    exact ⟨0, fun Q k => fD_same_n xa xb xc xd k, fun Q k => fM_same_n xa xb xc xd k⟩
  · skip
    exact ⟨0, fun Q k => fD_same_b xa xb xc xd k, fun Q k => fM_same_b xa xb xc xd k⟩
  · skip
    rcases ic_cases y 16 (by decide) with ⟨ya, yb, yc, yd⟩ | ⟨ya, yb, yc, yd⟩ | ⟨ya, yb, yc, yd⟩
    · skip
      exact ⟨0, fun Q k => fD_same_In xa xb xc xd (ic_nat xa xd) ya yb yc yd k, fun Q k => fM_same_In xa xb xc xd (ic_nat xa xd) ya yb yc yd k⟩
    · skip
      exact ⟨0, fun Q k => fD_same_Ib xa xb xc xd (ic_nat xa xd) ya yb yc yd k, fun Q k => fM_same_Ib xa xb xc xd (ic_nat xa xd) ya yb yc yd k⟩
    · skip
      exact ⟨1, fun Q k => fD_same_II xa xb xc xd (ic_nat xa xd) ya yb yc yd (ic_nat ya yd) k, fun Q k => fM_same_II xa xb xc xd (ic_nat xa xd) ya yb yc yd (ic_nat ya yd) k⟩
theorem pr_greater (x y : Int32) : ∃ v : Int32, (∀ Q : Option MV → List MC → Prop, (∀ h, okD h → Q (some (.inl v)) h) → PF 9 30 0 [some (.inr (some 0)), some (.inl x), some (.inl y)] [] hJ Q) ∧ (∀ Q : Option MV → List MC → Prop, (∀ h, okM h → Q (some (.inl v)) h) → PF 9 104 0 [some (.inr (some 0)), some (.inl x), some (.inl y)] [] hM Q) := by
  rcases ic_cases x 16 (by decide) with ⟨xa, xb, xc, xd⟩ | ⟨xa, xb, xc, xd⟩ | ⟨xa, xb, xc, xd⟩
  · skip
    exact ⟨0, fun Q k => fD_greater_n xa xb xc xd k, fun Q k => fM_greater_n xa xb xc xd k⟩
  · skip
    exact ⟨0, fun Q k => fD_greater_b xa xb xc xd k, fun Q k => fM_greater_b xa xb xc xd k⟩
  · skip
    rcases ic_cases y 16 (by decide) with ⟨ya, yb, yc, yd⟩ | ⟨ya, yb, yc, yd⟩ | ⟨ya, yb, yc, yd⟩
    · skip
      exact ⟨0, fun Q k => fD_greater_In xa xb xc xd (ic_nat xa xd) ya yb yc yd k, fun Q k => fM_greater_In xa xb xc xd (ic_nat xa xd) ya yb yc yd k⟩
    · skip
      exact ⟨0, fun Q k => fD_greater_Ib xa xb xc xd (ic_nat xa xd) ya yb yc yd k, fun Q k => fM_greater_Ib xa xb xc xd (ic_nat xa xd) ya yb yc yd k⟩
    · skip
      exact ⟨0, fun Q k => fD_greater_II xa xb xc xd (ic_nat xa xd) ya yb yc yd (ic_nat ya yd) k, fun Q k => fM_greater_II xa xb xc xd (ic_nat xa xd) ya yb yc yd (ic_nat ya yd) k⟩
theorem pr_matches (x y : Int32) : ∃ v : Int32, (∀ Q : Option MV → List MC → Prop, (∀ h, okD h → Q (some (.inl v)) h) → PF 9 39 0 [some (.inr (some 0)), some (.inl x), some (.inl y)] [] hJ Q) ∧ (∀ Q : Option MV → List MC → Prop, (∀ h, okM h → Q (some (.inl v)) h) → PF 9 111 0 [some (.inr (some 0)), some (.inl x), some (.inl y)] [] hM Q) := by
  rcases ic_cases x 16 (by decide) with ⟨xa, xb, xc, xd⟩ | ⟨xa, xb, xc, xd⟩ | ⟨xa, xb, xc, xd⟩
  · skip
    exact ⟨-1, fun Q k => fD_matches_n xa xb xc xd k, fun Q k => fM_matches_n xa xb xc xd k⟩
  · skip
    exact ⟨-1, fun Q k => fD_matches_b xa xb xc xd k, fun Q k => fM_matches_b xa xb xc xd k⟩
  · skip
    rcases ic_cases y 16 (by decide) with ⟨ya, yb, yc, yd⟩ | ⟨ya, yb, yc, yd⟩ | ⟨ya, yb, yc, yd⟩
    · skip
      exact ⟨-1, fun Q k => fD_matches_In xa xb xc xd (ic_nat xa xd) ya yb yc yd k, fun Q k => fM_matches_In xa xb xc xd (ic_nat xa xd) ya yb yc yd k⟩
    · skip
      exact ⟨-1, fun Q k => fD_matches_Ib xa xb xc xd (ic_nat xa xd) ya yb yc yd k, fun Q k => fM_matches_Ib xa xb xc xd (ic_nat xa xd) ya yb yc yd k⟩
    · skip
      exact ⟨1, fun Q k => fD_matches_II xa xb xc xd (ic_nat xa xd) ya yb yc yd (ic_nat ya yd) k, fun Q k => fM_matches_II xa xb xc xd (ic_nat xa xd) ya yb yc yd (ic_nat ya yd) k⟩
theorem pr_match (x y z w u : Int32) : ∃ v : Int32, (∀ Q : Option MV → List MC → Prop, (∀ h, okD h → Q (some (.inl v)) h) → PF 9 46 0 [some (.inr (some 0)), some (.inl x), some (.inl y), some (.inl z), some (.inl w), some (.inl u), none, none, none] [] hJ Q) ∧ (∀ Q : Option MV → List MC → Prop, (∀ h, okM h → Q (some (.inl v)) h) → PF 9 117 0 [some (.inr (some 0)), some (.inl x), some (.inl y), some (.inl z), some (.inl w), some (.inl u)] [] hM Q) := by
  rcases ic_cases x 16 (by decide) with ⟨xa, xb, xc, xd⟩ | ⟨xa, xb, xc, xd⟩ | ⟨xa, xb, xc, xd⟩
  · skip
    exact ⟨0, fun Q k => fD_match_n xa xb xc xd k, fun Q k => fM_match_n xa xb xc xd k⟩
  · skip
    exact ⟨0, fun Q k => fD_match_b xa xb xc xd k, fun Q k => fM_match_b xa xb xc xd k⟩
  · skip
    rcases ic_cases y 16 (by decide) with ⟨ya, yb, yc, yd⟩ | ⟨ya, yb, yc, yd⟩ | ⟨ya, yb, yc, yd⟩
    · skip
      exact ⟨0, fun Q k => fD_match_In xa xb xc xd (ic_nat xa xd) ya yb yc yd k, fun Q k => fM_match_In xa xb xc xd (ic_nat xa xd) ya yb yc yd k⟩
    · skip
      exact ⟨0, fun Q k => fD_match_Ib xa xb xc xd (ic_nat xa xd) ya yb yc yd k, fun Q k => fM_match_Ib xa xb xc xd (ic_nat xa xd) ya yb yc yd k⟩
    · skip
      rcases ic_cases z 1 (by decide) with ⟨za, zb, zc, zd⟩ | ⟨za, zb, zc, zd⟩ | ⟨za, zb, zc, zd⟩
      · skip
        rcases ic_cases w 6 (by decide) with ⟨wa, wb, wc, wd⟩ | ⟨wa, wb, wc, wd⟩ | ⟨wa, wb, wc, wd⟩
        · skip
          rcases ic_cases u 16 (by decide) with ⟨ua, ub, uc, ud⟩ | ⟨ua, ub, uc, ud⟩ | ⟨ua, ub, uc, ud⟩
          · skip
            exact ⟨0, fun Q k => fD_match_IInn xa xb xc xd (ic_nat xa xd) ya yb yc yd (ic_nat ya yd) wa wb wc wd ua ub uc ud k, fun Q k => fM_match_IInn xa xb xc xd (ic_nat xa xd) ya yb yc yd (ic_nat ya yd) wa wb wc wd ua ub uc ud k⟩
          · skip
            exact ⟨0, fun Q k => fD_match_IInb xa xb xc xd (ic_nat xa xd) ya yb yc yd (ic_nat ya yd) wa wb wc wd ua ub uc ud k, fun Q k => fM_match_IInb xa xb xc xd (ic_nat xa xd) ya yb yc yd (ic_nat ya yd) wa wb wc wd ua ub uc ud k⟩
          · skip
            exact ⟨0, fun Q k => fD_match_IIni xa xb xc xd (ic_nat xa xd) ya yb yc yd (ic_nat ya yd) wa wb wc wd ua ub uc ud (ic_nat ua ud) k, fun Q k => fM_match_IIni xa xb xc xd (ic_nat xa xd) ya yb yc yd (ic_nat ya yd) wa wb wc wd ua ub uc ud (ic_nat ua ud) k⟩
        · skip
          rcases ic_cases u 16 (by decide) with ⟨ua, ub, uc, ud⟩ | ⟨ua, ub, uc, ud⟩ | ⟨ua, ub, uc, ud⟩
          · skip
            exact ⟨0, fun Q k => fD_match_IIbn xa xb xc xd (ic_nat xa xd) ya yb yc yd (ic_nat ya yd) wa wb wc wd ua ub uc ud k, fun Q k => fM_match_IIbn xa xb xc xd (ic_nat xa xd) ya yb yc yd (ic_nat ya yd) wa wb wc wd ua ub uc ud k⟩
          · skip
            exact ⟨0, fun Q k => fD_match_IIbb xa xb xc xd (ic_nat xa xd) ya yb yc yd (ic_nat ya yd) wa wb wc wd ua ub uc ud k, fun Q k => fM_match_IIbb xa xb xc xd (ic_nat xa xd) ya yb yc yd (ic_nat ya yd) wa wb wc wd ua ub uc ud k⟩
          · skip
            exact ⟨0, fun Q k => fD_match_IIbi xa xb xc xd (ic_nat xa xd) ya yb yc yd (ic_nat ya yd) wa wb wc wd ua ub uc ud (ic_nat ua ud) k, fun Q k => fM_match_IIbi xa xb xc xd (ic_nat xa xd) ya yb yc yd (ic_nat ya yd) wa wb wc wd ua ub uc ud (ic_nat ua ud) k⟩
        · skip
          rcases ic_cases u 16 (by decide) with ⟨ua, ub, uc, ud⟩ | ⟨ua, ub, uc, ud⟩ | ⟨ua, ub, uc, ud⟩
          · skip
            exact ⟨0, fun Q k => fD_match_IIin xa xb xc xd (ic_nat xa xd) ya yb yc yd (ic_nat ya yd) wa wb wc wd ua ub uc ud k, fun Q k => fM_match_IIin xa xb xc xd (ic_nat xa xd) ya yb yc yd (ic_nat ya yd) wa wb wc wd ua ub uc ud k⟩
          · skip
            exact ⟨0, fun Q k => fD_match_IIib xa xb xc xd (ic_nat xa xd) ya yb yc yd (ic_nat ya yd) wa wb wc wd ua ub uc ud k, fun Q k => fM_match_IIib xa xb xc xd (ic_nat xa xd) ya yb yc yd (ic_nat ya yd) wa wb wc wd ua ub uc ud k⟩
          · skip
            exact ⟨0, fun Q k => fD_match_IInII xa xb xc xd (ic_nat xa xd) ya yb yc yd (ic_nat ya yd) za zb zc zd wa wb wc wd ua ub uc ud (ic_nat ua ud) k, fun Q k => fM_match_IInII xa xb xc xd (ic_nat xa xd) ya yb yc yd (ic_nat ya yd) za zb zc zd wa wb wc wd ua ub uc ud (ic_nat ua ud) k⟩
      · skip
        rcases ic_cases w 6 (by decide) with ⟨wa, wb, wc, wd⟩ | ⟨wa, wb, wc, wd⟩ | ⟨wa, wb, wc, wd⟩
        · skip
          rcases ic_cases u 16 (by decide) with ⟨ua, ub, uc, ud⟩ | ⟨ua, ub, uc, ud⟩ | ⟨ua, ub, uc, ud⟩
          · skip
            exact ⟨0, fun Q k => fD_match_IInn xa xb xc xd (ic_nat xa xd) ya yb yc yd (ic_nat ya yd) wa wb wc wd ua ub uc ud k, fun Q k => fM_match_IInn xa xb xc xd (ic_nat xa xd) ya yb yc yd (ic_nat ya yd) wa wb wc wd ua ub uc ud k⟩
          · skip
            exact ⟨0, fun Q k => fD_match_IInb xa xb xc xd (ic_nat xa xd) ya yb yc yd (ic_nat ya yd) wa wb wc wd ua ub uc ud k, fun Q k => fM_match_IInb xa xb xc xd (ic_nat xa xd) ya yb yc yd (ic_nat ya yd) wa wb wc wd ua ub uc ud k⟩
          · skip
            exact ⟨0, fun Q k => fD_match_IIni xa xb xc xd (ic_nat xa xd) ya yb yc yd (ic_nat ya yd) wa wb wc wd ua ub uc ud (ic_nat ua ud) k, fun Q k => fM_match_IIni xa xb xc xd (ic_nat xa xd) ya yb yc yd (ic_nat ya yd) wa wb wc wd ua ub uc ud (ic_nat ua ud) k⟩
        · skip
          rcases ic_cases u 16 (by decide) with ⟨ua, ub, uc, ud⟩ | ⟨ua, ub, uc, ud⟩ | ⟨ua, ub, uc, ud⟩
          · skip
            exact ⟨0, fun Q k => fD_match_IIbn xa xb xc xd (ic_nat xa xd) ya yb yc yd (ic_nat ya yd) wa wb wc wd ua ub uc ud k, fun Q k => fM_match_IIbn xa xb xc xd (ic_nat xa xd) ya yb yc yd (ic_nat ya yd) wa wb wc wd ua ub uc ud k⟩
          · skip
            exact ⟨0, fun Q k => fD_match_IIbb xa xb xc xd (ic_nat xa xd) ya yb yc yd (ic_nat ya yd) wa wb wc wd ua ub uc ud k, fun Q k => fM_match_IIbb xa xb xc xd (ic_nat xa xd) ya yb yc yd (ic_nat ya yd) wa wb wc wd ua ub uc ud k⟩
          · skip
            exact ⟨0, fun Q k => fD_match_IIbi xa xb xc xd (ic_nat xa xd) ya yb yc yd (ic_nat ya yd) wa wb wc wd ua ub uc ud (ic_nat ua ud) k, fun Q k => fM_match_IIbi xa xb xc xd (ic_nat xa xd) ya yb yc yd (ic_nat ya yd) wa wb wc wd ua ub uc ud (ic_nat ua ud) k⟩
        · skip
          rcases ic_cases u 16 (by decide) with ⟨ua, ub, uc, ud⟩ | ⟨ua, ub, uc, ud⟩ | ⟨ua, ub, uc, ud⟩
          · skip
            exact ⟨0, fun Q k => fD_match_IIin xa xb xc xd (ic_nat xa xd) ya yb yc yd (ic_nat ya yd) wa wb wc wd ua ub uc ud k, fun Q k => fM_match_IIin xa xb xc xd (ic_nat xa xd) ya yb yc yd (ic_nat ya yd) wa wb wc wd ua ub uc ud k⟩
          · skip
            exact ⟨0, fun Q k => fD_match_IIib xa xb xc xd (ic_nat xa xd) ya yb yc yd (ic_nat ya yd) wa wb wc wd ua ub uc ud k, fun Q k => fM_match_IIib xa xb xc xd (ic_nat xa xd) ya yb yc yd (ic_nat ya yd) wa wb wc wd ua ub uc ud k⟩
          · skip
            exact ⟨0, fun Q k => fD_match_IIbII xa xb xc xd (ic_nat xa xd) ya yb yc yd (ic_nat ya yd) za zb zc zd wa wb wc wd ua ub uc ud (ic_nat ua ud) k, fun Q k => fM_match_IIbII xa xb xc xd (ic_nat xa xd) ya yb yc yd (ic_nat ya yd) za zb zc zd wa wb wc wd ua ub uc ud (ic_nat ua ud) k⟩
      · skip
        have ez := ic_eq1 za zd
        subst ez
        rcases ic_cases w 6 (by decide) with ⟨wa, wb, wc, wd⟩ | ⟨wa, wb, wc, wd⟩ | ⟨wa, wb, wc, wd⟩
        · skip
          rcases ic_cases u 16 (by decide) with ⟨ua, ub, uc, ud⟩ | ⟨ua, ub, uc, ud⟩ | ⟨ua, ub, uc, ud⟩
          · skip
            exact ⟨0, fun Q k => fD_match_IInn xa xb xc xd (ic_nat xa xd) ya yb yc yd (ic_nat ya yd) wa wb wc wd ua ub uc ud k, fun Q k => fM_match_IInn xa xb xc xd (ic_nat xa xd) ya yb yc yd (ic_nat ya yd) wa wb wc wd ua ub uc ud k⟩
          · skip
            exact ⟨0, fun Q k => fD_match_IInb xa xb xc xd (ic_nat xa xd) ya yb yc yd (ic_nat ya yd) wa wb wc wd ua ub uc ud k, fun Q k => fM_match_IInb xa xb xc xd (ic_nat xa xd) ya yb yc yd (ic_nat ya yd) wa wb wc wd ua ub uc ud k⟩
          · skip
            exact ⟨0, fun Q k => fD_match_IIni xa xb xc xd (ic_nat xa xd) ya yb yc yd (ic_nat ya yd) wa wb wc wd ua ub uc ud (ic_nat ua ud) k, fun Q k => fM_match_IIni xa xb xc xd (ic_nat xa xd) ya yb yc yd (ic_nat ya yd) wa wb wc wd ua ub uc ud (ic_nat ua ud) k⟩
        · skip
          rcases ic_cases u 16 (by decide) with ⟨ua, ub, uc, ud⟩ | ⟨ua, ub, uc, ud⟩ | ⟨ua, ub, uc, ud⟩
          · skip
            exact ⟨0, fun Q k => fD_match_IIbn xa xb xc xd (ic_nat xa xd) ya yb yc yd (ic_nat ya yd) wa wb wc wd ua ub uc ud k, fun Q k => fM_match_IIbn xa xb xc xd (ic_nat xa xd) ya yb yc yd (ic_nat ya yd) wa wb wc wd ua ub uc ud k⟩
          · skip
            exact ⟨0, fun Q k => fD_match_IIbb xa xb xc xd (ic_nat xa xd) ya yb yc yd (ic_nat ya yd) wa wb wc wd ua ub uc ud k, fun Q k => fM_match_IIbb xa xb xc xd (ic_nat xa xd) ya yb yc yd (ic_nat ya yd) wa wb wc wd ua ub uc ud k⟩
          · skip
            exact ⟨0, fun Q k => fD_match_IIbi xa xb xc xd (ic_nat xa xd) ya yb yc yd (ic_nat ya yd) wa wb wc wd ua ub uc ud (ic_nat ua ud) k, fun Q k => fM_match_IIbi xa xb xc xd (ic_nat xa xd) ya yb yc yd (ic_nat ya yd) wa wb wc wd ua ub uc ud (ic_nat ua ud) k⟩
        · skip
          rcases ic_eq6 wa wd with rfl | rfl | rfl | rfl | rfl | rfl
          · skip
            rcases ic_cases u 16 (by decide) with ⟨ua, ub, uc, ud⟩ | ⟨ua, ub, uc, ud⟩ | ⟨ua, ub, uc, ud⟩
            · skip
              exact ⟨0, fun Q k => fD_match_IIin xa xb xc xd (ic_nat xa xd) ya yb yc yd (ic_nat ya yd) wa wb wc wd ua ub uc ud k, fun Q k => fM_match_IIin xa xb xc xd (ic_nat xa xd) ya yb yc yd (ic_nat ya yd) wa wb wc wd ua ub uc ud k⟩
            · skip
              exact ⟨0, fun Q k => fD_match_IIib xa xb xc xd (ic_nat xa xd) ya yb yc yd (ic_nat ya yd) wa wb wc wd ua ub uc ud k, fun Q k => fM_match_IIib xa xb xc xd (ic_nat xa xd) ya yb yc yd (ic_nat ya yd) wa wb wc wd ua ub uc ud k⟩
            · skip
              exact ⟨1, fun Q k => fD_match_II00I xa xb xc xd (ic_nat xa xd) ya yb yc yd (ic_nat ya yd) ua ub uc ud (ic_nat ua ud) k, fun Q k => fM_match_II00I xa xb xc xd (ic_nat xa xd) ya yb yc yd (ic_nat ya yd) ua ub uc ud (ic_nat ua ud) k⟩
          · skip
            rcases ic_cases u 16 (by decide) with ⟨ua, ub, uc, ud⟩ | ⟨ua, ub, uc, ud⟩ | ⟨ua, ub, uc, ud⟩
            · skip
              exact ⟨0, fun Q k => fD_match_IIin xa xb xc xd (ic_nat xa xd) ya yb yc yd (ic_nat ya yd) wa wb wc wd ua ub uc ud k, fun Q k => fM_match_IIin xa xb xc xd (ic_nat xa xd) ya yb yc yd (ic_nat ya yd) wa wb wc wd ua ub uc ud k⟩
            · skip
              exact ⟨0, fun Q k => fD_match_IIib xa xb xc xd (ic_nat xa xd) ya yb yc yd (ic_nat ya yd) wa wb wc wd ua ub uc ud k, fun Q k => fM_match_IIib xa xb xc xd (ic_nat xa xd) ya yb yc yd (ic_nat ya yd) wa wb wc wd ua ub uc ud k⟩
            · skip
              exact ⟨0, fun Q k => fD_match_II01I xa xb xc xd (ic_nat xa xd) ya yb yc yd (ic_nat ya yd) ua ub uc ud (ic_nat ua ud) k, fun Q k => fM_match_II01I xa xb xc xd (ic_nat xa xd) ya yb yc yd (ic_nat ya yd) ua ub uc ud (ic_nat ua ud) k⟩
          · skip
            rcases ic_cases u 16 (by decide) with ⟨ua, ub, uc, ud⟩ | ⟨ua, ub, uc, ud⟩ | ⟨ua, ub, uc, ud⟩
            · skip
              exact ⟨0, fun Q k => fD_match_IIin xa xb xc xd (ic_nat xa xd) ya yb yc yd (ic_nat ya yd) wa wb wc wd ua ub uc ud k, fun Q k => fM_match_IIin xa xb xc xd (ic_nat xa xd) ya yb yc yd (ic_nat ya yd) wa wb wc wd ua ub uc ud k⟩
            · skip
              exact ⟨0, fun Q k => fD_match_IIib xa xb xc xd (ic_nat xa xd) ya yb yc yd (ic_nat ya yd) wa wb wc wd ua ub uc ud k, fun Q k => fM_match_IIib xa xb xc xd (ic_nat xa xd) ya yb yc yd (ic_nat ya yd) wa wb wc wd ua ub uc ud k⟩
            · skip
              exact ⟨0, fun Q k => fD_match_II02I xa xb xc xd (ic_nat xa xd) ya yb yc yd (ic_nat ya yd) ua ub uc ud (ic_nat ua ud) k, fun Q k => fM_match_II02I xa xb xc xd (ic_nat xa xd) ya yb yc yd (ic_nat ya yd) ua ub uc ud (ic_nat ua ud) k⟩
          · skip
            rcases ic_cases u 16 (by decide) with ⟨ua, ub, uc, ud⟩ | ⟨ua, ub, uc, ud⟩ | ⟨ua, ub, uc, ud⟩
            · skip
              exact ⟨0, fun Q k => fD_match_IIin xa xb xc xd (ic_nat xa xd) ya yb yc yd (ic_nat ya yd) wa wb wc wd ua ub uc ud k, fun Q k => fM_match_IIin xa xb xc xd (ic_nat xa xd) ya yb yc yd (ic_nat ya yd) wa wb wc wd ua ub uc ud k⟩
            · skip
              exact ⟨0, fun Q k => fD_match_IIib xa xb xc xd (ic_nat xa xd) ya yb yc yd (ic_nat ya yd) wa wb wc wd ua ub uc ud k, fun Q k => fM_match_IIib xa xb xc xd (ic_nat xa xd) ya yb yc yd (ic_nat ya yd) wa wb wc wd ua ub uc ud k⟩
            · skip
              exact ⟨0, fun Q k => fD_match_II03I xa xb xc xd (ic_nat xa xd) ya yb yc yd (ic_nat ya yd) ua ub uc ud (ic_nat ua ud) k, fun Q k => fM_match_II03I xa xb xc xd (ic_nat xa xd) ya yb yc yd (ic_nat ya yd) ua ub uc ud (ic_nat ua ud) k⟩
          · skip
            rcases ic_cases u 16 (by decide) with ⟨ua, ub, uc, ud⟩ | ⟨ua, ub, uc, ud⟩ | ⟨ua, ub, uc, ud⟩
            · skip
              exact ⟨0, fun Q k => fD_match_IIin xa xb xc xd (ic_nat xa xd) ya yb yc yd (ic_nat ya yd) wa wb wc wd ua ub uc ud k, fun Q k => fM_match_IIin xa xb xc xd (ic_nat xa xd) ya yb yc yd (ic_nat ya yd) wa wb wc wd ua ub uc ud k⟩
            · skip
              exact ⟨0, fun Q k => fD_match_IIib xa xb xc xd (ic_nat xa xd) ya yb yc yd (ic_nat ya yd) wa wb wc wd ua ub uc ud k, fun Q k => fM_match_IIib xa xb xc xd (ic_nat xa xd) ya yb yc yd (ic_nat ya yd) wa wb wc wd ua ub uc ud k⟩
            · skip
              exact ⟨0, fun Q k => fD_match_II04I xa xb xc xd (ic_nat xa xd) ya yb yc yd (ic_nat ya yd) ua ub uc ud (ic_nat ua ud) k, fun Q k => fM_match_II04I xa xb xc xd (ic_nat xa xd) ya yb yc yd (ic_nat ya yd) ua ub uc ud (ic_nat ua ud) k⟩
          · skip
            rcases ic_cases u 16 (by decide) with ⟨ua, ub, uc, ud⟩ | ⟨ua, ub, uc, ud⟩ | ⟨ua, ub, uc, ud⟩
            · skip
              exact ⟨0, fun Q k => fD_match_IIin xa xb xc xd (ic_nat xa xd) ya yb yc yd (ic_nat ya yd) wa wb wc wd ua ub uc ud k, fun Q k => fM_match_IIin xa xb xc xd (ic_nat xa xd) ya yb yc yd (ic_nat ya yd) wa wb wc wd ua ub uc ud k⟩
            · skip
              exact ⟨0, fun Q k => fD_match_IIib xa xb xc xd (ic_nat xa xd) ya yb yc yd (ic_nat ya yd) wa wb wc wd ua ub uc ud k, fun Q k => fM_match_IIib xa xb xc xd (ic_nat xa xd) ya yb yc yd (ic_nat ya yd) wa wb wc wd ua ub uc ud k⟩
            · skip
              exact ⟨0, fun Q k => fD_match_II05I xa xb xc xd (ic_nat xa xd) ya yb yc yd (ic_nat ya yd) ua ub uc ud (ic_nat ua ud) k, fun Q k => fM_match_II05I xa xb xc xd (ic_nat xa xd) ya yb yc yd (ic_nat ya yd) ua ub uc ud (ic_nat ua ud) k⟩
theorem pr_unifiers (x y : Int32) : ∃ v : Int32, (∀ Q : Option MV → List MC → Prop, (∀ h, okD h → Q (some (.inl v)) h) → PF 9 51 0 [some (.inr (some 0)), some (.inl x), some (.inl y)] [] hJ Q) ∧ (∀ Q : Option MV → List MC → Prop, (∀ h, okM h → Q (some (.inl v)) h) → PF 9 118 0 [some (.inr (some 0)), some (.inl x), some (.inl y)] [] hM Q) := by
  rcases ic_cases x 16 (by decide) with ⟨xa, xb, xc, xd⟩ | ⟨xa, xb, xc, xd⟩ | ⟨xa, xb, xc, xd⟩
  · skip
    exact ⟨-1, fun Q k => fD_unifiers_n xa xb xc xd k, fun Q k => fM_unifiers_n xa xb xc xd k⟩
  · skip
    exact ⟨-1, fun Q k => fD_unifiers_b xa xb xc xd k, fun Q k => fM_unifiers_b xa xb xc xd k⟩
  · skip
    rcases ic_cases y 16 (by decide) with ⟨ya, yb, yc, yd⟩ | ⟨ya, yb, yc, yd⟩ | ⟨ya, yb, yc, yd⟩
    · skip
      exact ⟨-1, fun Q k => fD_unifiers_In xa xb xc xd (ic_nat xa xd) ya yb yc yd k, fun Q k => fM_unifiers_In xa xb xc xd (ic_nat xa xd) ya yb yc yd k⟩
    · skip
      exact ⟨-1, fun Q k => fD_unifiers_Ib xa xb xc xd (ic_nat xa xd) ya yb yc yd k, fun Q k => fM_unifiers_Ib xa xb xc xd (ic_nat xa xd) ya yb yc yd k⟩
    · skip
      exact ⟨1, fun Q k => fD_unifiers_II xa xb xc xd (ic_nat xa xd) ya yb yc yd (ic_nat ya yd) k, fun Q k => fM_unifiers_II xa xb xc xd (ic_nat xa xd) ya yb yc yd (ic_nat ya yd) k⟩
theorem pr_unifier (x y z w : Int32) : ∃ v : Int32, (∀ Q : Option MV → List MC → Prop, (∀ h, okD h → Q (some (.inl v)) h) → PF 9 64 0 [some (.inr (some 0)), some (.inl x), some (.inl y), some (.inl z), some (.inl w), none] [] hJ Q) ∧ (∀ Q : Option MV → List MC → Prop, (∀ h, okM h → Q (some (.inl v)) h) → PF 9 124 0 [some (.inr (some 0)), some (.inl x), some (.inl y), some (.inl z), some (.inl w), none] [] hM Q) := by
  rcases ic_cases x 16 (by decide) with ⟨xa, xb, xc, xd⟩ | ⟨xa, xb, xc, xd⟩ | ⟨xa, xb, xc, xd⟩
  · skip
    exact ⟨0, fun Q k => fD_unifier_n xa xb xc xd k, fun Q k => fM_unifier_n xa xb xc xd k⟩
  · skip
    exact ⟨0, fun Q k => fD_unifier_b xa xb xc xd k, fun Q k => fM_unifier_b xa xb xc xd k⟩
  · skip
    rcases ic_cases y 16 (by decide) with ⟨ya, yb, yc, yd⟩ | ⟨ya, yb, yc, yd⟩ | ⟨ya, yb, yc, yd⟩
    · skip
      exact ⟨0, fun Q k => fD_unifier_In xa xb xc xd (ic_nat xa xd) ya yb yc yd k, fun Q k => fM_unifier_In xa xb xc xd (ic_nat xa xd) ya yb yc yd k⟩
    · skip
      exact ⟨0, fun Q k => fD_unifier_Ib xa xb xc xd (ic_nat xa xd) ya yb yc yd k, fun Q k => fM_unifier_Ib xa xb xc xd (ic_nat xa xd) ya yb yc yd k⟩
    · skip
      rcases ic_cases z 1 (by decide) with ⟨za, zb, zc, zd⟩ | ⟨za, zb, zc, zd⟩ | ⟨za, zb, zc, zd⟩
      · skip
        rcases ic_cases w 16 (by decide) with ⟨wa, wb, wc, wd⟩ | ⟨wa, wb, wc, wd⟩ | ⟨wa, wb, wc, wd⟩
        · skip
          exact ⟨0, fun Q k => fD_unifier_IIn xa xb xc xd (ic_nat xa xd) ya yb yc yd (ic_nat ya yd) wa wb wc wd k, fun Q k => fM_unifier_IIn xa xb xc xd (ic_nat xa xd) ya yb yc yd (ic_nat ya yd) wa wb wc wd k⟩
        · skip
          exact ⟨0, fun Q k => fD_unifier_IIb xa xb xc xd (ic_nat xa xd) ya yb yc yd (ic_nat ya yd) wa wb wc wd k, fun Q k => fM_unifier_IIb xa xb xc xd (ic_nat xa xd) ya yb yc yd (ic_nat ya yd) wa wb wc wd k⟩
        · skip
          exact ⟨0, fun Q k => fD_unifier_IInI xa xb xc xd (ic_nat xa xd) ya yb yc yd (ic_nat ya yd) za zb zc zd wa wb wc wd (ic_nat wa wd) k, fun Q k => fM_unifier_IInI xa xb xc xd (ic_nat xa xd) ya yb yc yd (ic_nat ya yd) za zb zc zd wa wb wc wd (ic_nat wa wd) k⟩
      · skip
        rcases ic_cases w 16 (by decide) with ⟨wa, wb, wc, wd⟩ | ⟨wa, wb, wc, wd⟩ | ⟨wa, wb, wc, wd⟩
        · skip
          exact ⟨0, fun Q k => fD_unifier_IIn xa xb xc xd (ic_nat xa xd) ya yb yc yd (ic_nat ya yd) wa wb wc wd k, fun Q k => fM_unifier_IIn xa xb xc xd (ic_nat xa xd) ya yb yc yd (ic_nat ya yd) wa wb wc wd k⟩
        · skip
          exact ⟨0, fun Q k => fD_unifier_IIb xa xb xc xd (ic_nat xa xd) ya yb yc yd (ic_nat ya yd) wa wb wc wd k, fun Q k => fM_unifier_IIb xa xb xc xd (ic_nat xa xd) ya yb yc yd (ic_nat ya yd) wa wb wc wd k⟩
        · skip
          exact ⟨0, fun Q k => fD_unifier_IIbI xa xb xc xd (ic_nat xa xd) ya yb yc yd (ic_nat ya yd) za zb zc zd wa wb wc wd (ic_nat wa wd) k, fun Q k => fM_unifier_IIbI xa xb xc xd (ic_nat xa xd) ya yb yc yd (ic_nat ya yd) za zb zc zd wa wb wc wd (ic_nat wa wd) k⟩
      · skip
        have ez := ic_eq1 za zd
        subst ez
        rcases ic_cases w 16 (by decide) with ⟨wa, wb, wc, wd⟩ | ⟨wa, wb, wc, wd⟩ | ⟨wa, wb, wc, wd⟩
        · skip
          exact ⟨0, fun Q k => fD_unifier_IIn xa xb xc xd (ic_nat xa xd) ya yb yc yd (ic_nat ya yd) wa wb wc wd k, fun Q k => fM_unifier_IIn xa xb xc xd (ic_nat xa xd) ya yb yc yd (ic_nat ya yd) wa wb wc wd k⟩
        · skip
          exact ⟨0, fun Q k => fD_unifier_IIb xa xb xc xd (ic_nat xa xd) ya yb yc yd (ic_nat ya yd) wa wb wc wd k, fun Q k => fM_unifier_IIb xa xb xc xd (ic_nat xa xd) ya yb yc yd (ic_nat ya yd) wa wb wc wd k⟩
        · skip
          exact ⟨1, fun Q k => fD_unifier_II0I xa xb xc xd (ic_nat xa xd) ya yb yc yd (ic_nat ya yd) wa wb wc wd (ic_nat wa wd) k, fun Q k => fM_unifier_II0I xa xb xc xd (ic_nat xa xd) ya yb yc yd (ic_nat ya yd) wa wb wc wd (ic_nat wa wd) k⟩
theorem pr_equation (x y : Int32) : ∃ v : Int32, (∀ Q : Option MV → List MC → Prop, (∀ h, okD h → Q (some (.inl v)) h) → PF 9 66 0 [some (.inr (some 0)), some (.inl x), some (.inl y)] [] hJ Q) ∧ (∀ Q : Option MV → List MC → Prop, (∀ h, okM h → Q (some (.inl v)) h) → PF 9 125 0 [some (.inr (some 0)), some (.inl x), some (.inl y)] [] hM Q) := by
  rcases ic_cases x 16 (by decide) with ⟨xa, xb, xc, xd⟩ | ⟨xa, xb, xc, xd⟩ | ⟨xa, xb, xc, xd⟩
  · skip
    exact ⟨0, fun Q k => fD_equation_n xa xb xc xd k, fun Q k => fM_equation_n xa xb xc xd k⟩
  · skip
    exact ⟨0, fun Q k => fD_equation_b xa xb xc xd k, fun Q k => fM_equation_b xa xb xc xd k⟩
  · skip
    rcases ic_cases y 16 (by decide) with ⟨ya, yb, yc, yd⟩ | ⟨ya, yb, yc, yd⟩ | ⟨ya, yb, yc, yd⟩
    · skip
      exact ⟨0, fun Q k => fD_equation_In xa xb xc xd (ic_nat xa xd) ya yb yc yd k, fun Q k => fM_equation_In xa xb xc xd (ic_nat xa xd) ya yb yc yd k⟩
    · skip
      exact ⟨0, fun Q k => fD_equation_Ib xa xb xc xd (ic_nat xa xd) ya yb yc yd k, fun Q k => fM_equation_Ib xa xb xc xd (ic_nat xa xd) ya yb yc yd k⟩
    · skip
      exact ⟨1, fun Q k => fD_equation_II xa xb xc xd (ic_nat xa xd) ya yb yc yd (ic_nat ya yd) k, fun Q k => fM_equation_II xa xb xc xd (ic_nat xa xd) ya yb yc yd (ic_nat ya yd) k⟩
theorem pr_complete (x : Int32) : ∃ v : Int32, (∀ Q : Option MV → List MC → Prop, (∀ h, okD h → Q (some (.inl v)) h) → PF 9 70 0 [some (.inr (some 0)), some (.inl x), none, none, none] [] hJ Q) ∧ (∀ Q : Option MV → List MC → Prop, (∀ h, okM h → Q (some (.inl v)) h) → PF 9 129 0 [some (.inr (some 0)), some (.inl x), none, none, none] [] hM Q) := by
  rcases ic_cases x 31 (by decide) with ⟨xa, xb, xc, xd⟩ | ⟨xa, xb, xc, xd⟩ | ⟨xa, xb, xc, xd⟩
  all_goals simp only [Int32.lt_iff_toInt_lt, Int32.le_iff_toInt_le, show (31 : Int32).toInt = 31 from rfl, show (0 : Int32).toInt = 0 from rfl] at xa xb xc xd
  · have h1 : x < 0 := by rw [Int32.lt_iff_toInt_lt]; exact xa
    have h2 : ¬ 0 ≤ x := by rw [Int32.le_iff_toInt_le]; exact xb
    have h3 : ¬ 30 < x := by rw [Int32.lt_iff_toInt_lt, show (30 : Int32).toInt = 30 from rfl]; omega
    have h4 : x ≤ 30 := by rw [Int32.le_iff_toInt_le, show (30 : Int32).toInt = 30 from rfl]; omega
    have h5 : ¬ 0 < x := by rw [Int32.lt_iff_toInt_lt, show (0 : Int32).toInt = 0 from rfl]; omega
    have h6 : x ≤ 0 := by rw [Int32.le_iff_toInt_le, show (0 : Int32).toInt = 0 from rfl]; omega
    exact ⟨1, fun Q k => fD_complete_n h1 h2 h3 h4 h5 h6 k, fun Q k => fM_complete_n h1 h2 h3 h4 h5 h6 k⟩
  · have h1 : ¬ x < 0 := by rw [Int32.lt_iff_toInt_lt]; exact xa
    have h2 : 0 ≤ x := by rw [Int32.le_iff_toInt_le]; exact xb
    have h3 : 30 < x := by rw [Int32.lt_iff_toInt_lt, show (30 : Int32).toInt = 30 from rfl]; omega
    have h4 : ¬ x ≤ 30 := by rw [Int32.le_iff_toInt_le, show (30 : Int32).toInt = 30 from rfl]; omega
    have h5 : 0 < x := by rw [Int32.lt_iff_toInt_lt, show (0 : Int32).toInt = 0 from rfl]; omega
    have h6 : ¬ x ≤ 0 := by rw [Int32.le_iff_toInt_le, show (0 : Int32).toInt = 0 from rfl]; omega
    exact ⟨1, fun Q k => fD_complete_b h1 h2 h3 h4 h5 h6 k, fun Q k => fM_complete_b h1 h2 h3 h4 h5 h6 k⟩
  · by_cases hz : x = 0
    · subst hz
      exact ⟨1, fun Q k => fD_complete_0 k, fun Q k => fM_complete_0 k⟩
    · have hz2 : ¬ x.toInt = 0 := fun q => hz (Int32.toInt_inj.mp q)
      have h1 : ¬ x < 0 := by rw [Int32.lt_iff_toInt_lt]; exact xa
      have h2 : 0 ≤ x := by rw [Int32.le_iff_toInt_le]; exact xb
      have h3 : ¬ 30 < x := by rw [Int32.lt_iff_toInt_lt, show (30 : Int32).toInt = 30 from rfl]; omega
      have h4 : x ≤ 30 := by rw [Int32.le_iff_toInt_le, show (30 : Int32).toInt = 30 from rfl]; omega
      have h5 : 0 < x := by rw [Int32.lt_iff_toInt_lt, show (0 : Int32).toInt = 0 from rfl]; omega
      have h6 : ¬ x ≤ 0 := by rw [Int32.le_iff_toInt_le, show (0 : Int32).toInt = 0 from rfl]; omega
      exact ⟨1, fun Q k => fD_complete_i h1 h2 h3 h4 h5 h6 k, fun Q k => fM_complete_i h1 h2 h3 h4 h5 h6 k⟩
theorem pr_rules : ∃ v : Int32, (∀ Q : Option MV → List MC → Prop, (∀ h, okD h → Q (some (.inl v)) h) → PF 9 85 0 [some (.inr (some 0))] [] hJ Q) ∧ (∀ Q : Option MV → List MC → Prop, (∀ h, okM h → Q (some (.inl v)) h) → PF 9 141 0 [some (.inr (some 0))] [] hM Q) := by
  exact ⟨0, fun Q k => fD_rules k, fun Q k => fM_rules k⟩
theorem pr_rule (x y z : Int32) : ∃ v : Int32, (∀ Q : Option MV → List MC → Prop, (∀ h, okD h → Q (some (.inl v)) h) → PF 9 86 0 [some (.inr (some 0)), some (.inl x), some (.inl y), some (.inl z)] [] hJ Q) ∧ (∀ Q : Option MV → List MC → Prop, (∀ h, okM h → Q (some (.inl v)) h) → PF 9 142 0 [some (.inr (some 0)), some (.inl x), some (.inl y), some (.inl z)] [] hM Q) := by
  rcases ic_cases x 0 (by decide) with ⟨xa, xb, xc, xd⟩ | ⟨xa, xb, xc, xd⟩ | ⟨xa, xb, xc, xd⟩
  · skip
    exact ⟨0, fun Q k => fD_rule_n xa xb xc xd k, fun Q k => fM_rule_n xa xb xc xd k⟩
  · skip
    exact ⟨0, fun Q k => fD_rule_b xa xb xc xd k, fun Q k => fM_rule_b xa xb xc xd k⟩
  · skip
    exact absurd xa (fun q => q xd)
theorem pr_waiting : ∃ v : Int32, (∀ Q : Option MV → List MC → Prop, (∀ h, okD h → Q (some (.inl v)) h) → PF 9 88 0 [some (.inr (some 0))] [] hJ Q) ∧ (∀ Q : Option MV → List MC → Prop, (∀ h, okM h → Q (some (.inl v)) h) → PF 9 143 0 [some (.inr (some 0))] [] hM Q) := by
  exact ⟨0, fun Q k => fD_waiting k, fun Q k => fM_waiting k⟩
theorem pr_pair (x y z : Int32) : ∃ v : Int32, (∀ Q : Option MV → List MC → Prop, (∀ h, okD h → Q (some (.inl v)) h) → PF 9 89 0 [some (.inr (some 0)), some (.inl x), some (.inl y), some (.inl z)] [] hJ Q) ∧ (∀ Q : Option MV → List MC → Prop, (∀ h, okM h → Q (some (.inl v)) h) → PF 9 144 0 [some (.inr (some 0)), some (.inl x), some (.inl y), some (.inl z)] [] hM Q) := by
  rcases ic_cases x 0 (by decide) with ⟨xa, xb, xc, xd⟩ | ⟨xa, xb, xc, xd⟩ | ⟨xa, xb, xc, xd⟩
  · skip
    exact ⟨0, fun Q k => fD_pair_n xa xb xc xd k, fun Q k => fM_pair_n xa xb xc xd k⟩
  · skip
    exact ⟨0, fun Q k => fD_pair_b xa xb xc xd k, fun Q k => fM_pair_b xa xb xc xd k⟩
  · skip
    exact absurd xa (fun q => q xd)
theorem pr_reduce (x y : Int32) : ∃ v : Int32, (∀ Q : Option MV → List MC → Prop, (∀ h, okD h → Q (some (.inl v)) h) → PF 9 90 0 [some (.inr (some 0)), some (.inl x), some (.inl y), none] [] hJ Q) ∧ (∀ Q : Option MV → List MC → Prop, (∀ h, okM h → Q (some (.inl v)) h) → PF 9 145 0 [some (.inr (some 0)), some (.inl x), some (.inl y), none] [] hM Q) := by
  rcases ic_cases x 16 (by decide) with ⟨xa, xb, xc, xd⟩ | ⟨xa, xb, xc, xd⟩ | ⟨xa, xb, xc, xd⟩
  · skip
    exact ⟨0, fun Q k => fD_reduce_n xa xb xc xd k, fun Q k => fM_reduce_n xa xb xc xd k⟩
  · skip
    exact ⟨0, fun Q k => fD_reduce_b xa xb xc xd k, fun Q k => fM_reduce_b xa xb xc xd k⟩
  · skip
    rcases ic_cases y 16 (by decide) with ⟨ya, yb, yc, yd⟩ | ⟨ya, yb, yc, yd⟩ | ⟨ya, yb, yc, yd⟩
    · skip
      exact ⟨0, fun Q k => fD_reduce_In xa xb xc xd (ic_nat xa xd) ya yb yc yd k, fun Q k => fM_reduce_In xa xb xc xd (ic_nat xa xd) ya yb yc yd k⟩
    · skip
      exact ⟨0, fun Q k => fD_reduce_Ib xa xb xc xd (ic_nat xa xd) ya yb yc yd k, fun Q k => fM_reduce_Ib xa xb xc xd (ic_nat xa xd) ya yb yc yd k⟩
    · skip
      exact ⟨1, fun Q k => fD_reduce_II xa xb xc xd (ic_nat xa xd) ya yb yc yd (ic_nat ya yd) k, fun Q k => fM_reduce_II xa xb xc xd (ic_nat xa xd) ya yb yc yd (ic_nat ya yd) k⟩
theorem pr_prove (x y : Int32) : ∃ v : Int32, (∀ Q : Option MV → List MC → Prop, (∀ h, okD h → Q (some (.inl v)) h) → PF 9 91 0 [some (.inr (some 0)), some (.inl x), some (.inl y), none, none] [] hJ Q) ∧ (∀ Q : Option MV → List MC → Prop, (∀ h, okM h → Q (some (.inl v)) h) → PF 9 146 0 [some (.inr (some 0)), some (.inl x), some (.inl y), none, none] [] hM Q) := by
  rcases ic_cases x 16 (by decide) with ⟨xa, xb, xc, xd⟩ | ⟨xa, xb, xc, xd⟩ | ⟨xa, xb, xc, xd⟩
  · skip
    exact ⟨-1, fun Q k => fD_prove_n xa xb xc xd k, fun Q k => fM_prove_n xa xb xc xd k⟩
  · skip
    exact ⟨-1, fun Q k => fD_prove_b xa xb xc xd k, fun Q k => fM_prove_b xa xb xc xd k⟩
  · skip
    rcases ic_cases y 16 (by decide) with ⟨ya, yb, yc, yd⟩ | ⟨ya, yb, yc, yd⟩ | ⟨ya, yb, yc, yd⟩
    · skip
      exact ⟨-1, fun Q k => fD_prove_In xa xb xc xd (ic_nat xa xd) ya yb yc yd k, fun Q k => fM_prove_In xa xb xc xd (ic_nat xa xd) ya yb yc yd k⟩
    · skip
      exact ⟨-1, fun Q k => fD_prove_Ib xa xb xc xd (ic_nat xa xd) ya yb yc yd k, fun Q k => fM_prove_Ib xa xb xc xd (ic_nat xa xd) ya yb yc yd k⟩
    · skip
      exact ⟨1, fun Q k => fD_prove_II xa xb xc xd (ic_nat xa xd) ya yb yc yd (ic_nat ya yd) k, fun Q k => fM_prove_II xa xb xc xd (ic_nat xa xd) ya yb yc yd (ic_nat ya yd) k⟩
