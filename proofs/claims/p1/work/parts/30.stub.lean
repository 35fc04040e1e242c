theorem fD_symbol_n0 {x : Int32} {Q : Option MV → List MC → Prop} (pa : x < 0) (pb : ¬ 0 ≤ x) (pc : ¬ (3 : Int32) ≤ x) (pd : x < (3 : Int32)) (k : ∀ h, okD h → Q (some (.inl (-1))) h) : PF 9 11 0 [some (.inr (some 0)), some (.inl x), some (.inl 0)] [] hJ Q := by
  sorry
theorem fD_symbol_b0 {x : Int32} {Q : Option MV → List MC → Prop} (pa : ¬ x < 0) (pb : 0 ≤ x) (pc : (3 : Int32) ≤ x) (pd : ¬ x < (3 : Int32)) (pe : (2 : Int32) < x) (k : ∀ h, okD h → Q (some (.inl (-1))) h) : PF 9 11 0 [some (.inr (some 0)), some (.inl x), some (.inl 0)] [] hJ Q := by
  sorry
theorem fD_symbol_00 {Q : Option MV → List MC → Prop} (k : ∀ h, okD h → Q (some (.inl 0)) h) : PF 9 11 0 [some (.inr (some 0)), some (.inl 0), some (.inl 0)] [] hJ Q := by
  sorry
theorem fD_symbol_10 {Q : Option MV → List MC → Prop} (k : ∀ h, okD h → Q (some (.inl 0)) h) : PF 9 11 0 [some (.inr (some 0)), some (.inl 1), some (.inl 0)] [] hJ Q := by
  sorry
theorem fD_symbol_20 {Q : Option MV → List MC → Prop} (k : ∀ h, okD h → Q (some (.inl 0)) h) : PF 9 11 0 [some (.inr (some 0)), some (.inl 2), some (.inl 0)] [] hJ Q := by
  sorry
theorem fD_symbol_n1 {x : Int32} {Q : Option MV → List MC → Prop} (pa : x < 0) (pb : ¬ 0 ≤ x) (pc : ¬ (3 : Int32) ≤ x) (pd : x < (3 : Int32)) (k : ∀ h, okD h → Q (some (.inl (-1))) h) : PF 9 11 0 [some (.inr (some 0)), some (.inl x), some (.inl 1)] [] hJ Q := by
  sorry
theorem fD_symbol_b1 {x : Int32} {Q : Option MV → List MC → Prop} (pa : ¬ x < 0) (pb : 0 ≤ x) (pc : (3 : Int32) ≤ x) (pd : ¬ x < (3 : Int32)) (pe : (2 : Int32) < x) (k : ∀ h, okD h → Q (some (.inl (-1))) h) : PF 9 11 0 [some (.inr (some 0)), some (.inl x), some (.inl 1)] [] hJ Q := by
  sorry
theorem fD_symbol_01 {Q : Option MV → List MC → Prop} (k : ∀ h, okD h → Q (some (.inl (-1))) h) : PF 9 11 0 [some (.inr (some 0)), some (.inl 0), some (.inl 1)] [] hJ Q := by
  sorry
theorem fD_symbol_11 {Q : Option MV → List MC → Prop} (k : ∀ h, okD h → Q (some (.inl (-1))) h) : PF 9 11 0 [some (.inr (some 0)), some (.inl 1), some (.inl 1)] [] hJ Q := by
  sorry
theorem fD_symbol_21 {Q : Option MV → List MC → Prop} (k : ∀ h, okD h → Q (some (.inl 0)) h) : PF 9 11 0 [some (.inr (some 0)), some (.inl 2), some (.inl 1)] [] hJ Q := by
  sorry
theorem fD_variable_n {x y : Int32} {Q : Option MV → List MC → Prop} (pa : x < 0) (pb : ¬ 0 ≤ x) (pc : ¬ (16 : Int32) ≤ x) (pd : x < (16 : Int32)) (k : ∀ h, okD h → Q (some (.inl 0)) h) : PF 9 13 0 [some (.inr (some 0)), some (.inl x), some (.inl y)] [] hJ Q := by
  sorry
theorem fD_variable_b {x y : Int32} {Q : Option MV → List MC → Prop} (pa : ¬ x < 0) (pb : 0 ≤ x) (pc : (16 : Int32) ≤ x) (pd : ¬ x < (16 : Int32)) (k : ∀ h, okD h → Q (some (.inl 0)) h) : PF 9 13 0 [some (.inr (some 0)), some (.inl x), some (.inl y)] [] hJ Q := by
  sorry
theorem fD_variable_In {x y : Int32} {Q : Option MV → List MC → Prop} (pa : ¬ x < 0) (pb : 0 ≤ x) (pc : ¬ (16 : Int32) ≤ x) (pd : x < (16 : Int32)) (pe : x.toNatClampNeg < 16) (qa : y < 0) (qb : ¬ 0 ≤ y) (qc : ¬ (6 : Int32) ≤ y) (qd : y < (6 : Int32)) (k : ∀ h, okD h → Q (some (.inl 0)) h) : PF 9 13 0 [some (.inr (some 0)), some (.inl x), some (.inl y)] [] hJ Q := by
  sorry
theorem fD_variable_Ib {x y : Int32} {Q : Option MV → List MC → Prop} (pa : ¬ x < 0) (pb : 0 ≤ x) (pc : ¬ (16 : Int32) ≤ x) (pd : x < (16 : Int32)) (pe : x.toNatClampNeg < 16) (qa : ¬ y < 0) (qb : 0 ≤ y) (qc : (6 : Int32) ≤ y) (qd : ¬ y < (6 : Int32)) (k : ∀ h, okD h → Q (some (.inl 0)) h) : PF 9 13 0 [some (.inr (some 0)), some (.inl x), some (.inl y)] [] hJ Q := by
  sorry
theorem fD_variable_II {x y : Int32} {Q : Option MV → List MC → Prop} (pa : ¬ x < 0) (pb : 0 ≤ x) (pc : ¬ (16 : Int32) ≤ x) (pd : x < (16 : Int32)) (pe : x.toNatClampNeg < 16) (qa : ¬ y < 0) (qb : 0 ≤ y) (qc : ¬ (6 : Int32) ≤ y) (qd : y < (6 : Int32)) (k : ∀ h, okD h → Q (some (.inl 1)) h) : PF 9 13 0 [some (.inr (some 0)), some (.inl x), some (.inl y)] [] hJ Q := by
  sorry
theorem fD_term_n {x y z w : Int32} {Q : Option MV → List MC → Prop} (pa : x < 0) (pb : ¬ 0 ≤ x) (pc : ¬ (16 : Int32) ≤ x) (pd : x < (16 : Int32)) (k : ∀ h, okD h → Q (some (.inl 0)) h) : PF 9 16 0 [some (.inr (some 0)), some (.inl x), some (.inl y), some (.inl z), some (.inl w), none, none] [] hJ Q := by
  sorry
theorem fD_term_b {x y z w : Int32} {Q : Option MV → List MC → Prop} (pa : ¬ x < 0) (pb : 0 ≤ x) (pc : (16 : Int32) ≤ x) (pd : ¬ x < (16 : Int32)) (k : ∀ h, okD h → Q (some (.inl 0)) h) : PF 9 16 0 [some (.inr (some 0)), some (.inl x), some (.inl y), some (.inl z), some (.inl w), none, none] [] hJ Q := by
  sorry
theorem fD_term_In {x y z w : Int32} {Q : Option MV → List MC → Prop} (pa : ¬ x < 0) (pb : 0 ≤ x) (pc : ¬ (16 : Int32) ≤ x) (pd : x < (16 : Int32)) (pe : x.toNatClampNeg < 16) (qa : y < 0) (qb : ¬ 0 ≤ y) (qc : ¬ (0 : Int32) ≤ y) (qd : y < (0 : Int32)) (k : ∀ h, okD h → Q (some (.inl 0)) h) : PF 9 16 0 [some (.inr (some 0)), some (.inl x), some (.inl y), some (.inl z), some (.inl w), none, none] [] hJ Q := by
  sorry
theorem fD_term_Ib {x y z w : Int32} {Q : Option MV → List MC → Prop} (pa : ¬ x < 0) (pb : 0 ≤ x) (pc : ¬ (16 : Int32) ≤ x) (pd : x < (16 : Int32)) (pe : x.toNatClampNeg < 16) (qa : ¬ y < 0) (qb : 0 ≤ y) (qc : (0 : Int32) ≤ y) (qd : ¬ y < (0 : Int32)) (k : ∀ h, okD h → Q (some (.inl 0)) h) : PF 9 16 0 [some (.inr (some 0)), some (.inl x), some (.inl y), some (.inl z), some (.inl w), none, none] [] hJ Q := by
  sorry
theorem fD_size_n {x : Int32} {Q : Option MV → List MC → Prop} (pa : x < 0) (pb : ¬ 0 ≤ x) (pc : ¬ (16 : Int32) ≤ x) (pd : x < (16 : Int32)) (k : ∀ h, okD h → Q (some (.inl (-1))) h) : PF 9 25 0 [some (.inr (some 0)), some (.inl x)] [] hJ Q := by
  sorry
theorem fD_size_b {x : Int32} {Q : Option MV → List MC → Prop} (pa : ¬ x < 0) (pb : 0 ≤ x) (pc : (16 : Int32) ≤ x) (pd : ¬ x < (16 : Int32)) (k : ∀ h, okD h → Q (some (.inl (-1))) h) : PF 9 25 0 [some (.inr (some 0)), some (.inl x)] [] hJ Q := by
  sorry
theorem fD_size_I {x : Int32} {Q : Option MV → List MC → Prop} (pa : ¬ x < 0) (pb : 0 ≤ x) (pc : ¬ (16 : Int32) ≤ x) (pd : x < (16 : Int32)) (pe : x.toNatClampNeg < 16) (k : ∀ h, okD h → Q (some (.inl 1)) h) : PF 9 25 0 [some (.inr (some 0)), some (.inl x)] [] hJ Q := by
  sorry
theorem fD_node_n {x y : Int32} {Q : Option MV → List MC → Prop} (pa : x < 0) (pb : ¬ 0 ≤ x) (pc : ¬ (16 : Int32) ≤ x) (pd : x < (16 : Int32)) (k : ∀ h, okD h → Q (some (.inl (-1))) h) : PF 9 26 0 [some (.inr (some 0)), some (.inl x), some (.inl y), none] [] hJ Q := by
  sorry
theorem fD_node_b {x y : Int32} {Q : Option MV → List MC → Prop} (pa : ¬ x < 0) (pb : 0 ≤ x) (pc : (16 : Int32) ≤ x) (pd : ¬ x < (16 : Int32)) (k : ∀ h, okD h → Q (some (.inl (-1))) h) : PF 9 26 0 [some (.inr (some 0)), some (.inl x), some (.inl y), none] [] hJ Q := by
  sorry
theorem fD_node_In {x y : Int32} {Q : Option MV → List MC → Prop} (pa : ¬ x < 0) (pb : 0 ≤ x) (pc : ¬ (16 : Int32) ≤ x) (pd : x < (16 : Int32)) (pe : x.toNatClampNeg < 16) (qa : y < 0) (qb : ¬ 0 ≤ y) (qc : ¬ (1 : Int32) ≤ y) (qd : y < (1 : Int32)) (k : ∀ h, okD h → Q (some (.inl (-1))) h) : PF 9 26 0 [some (.inr (some 0)), some (.inl x), some (.inl y), none] [] hJ Q := by
  sorry
theorem fD_node_Ib {x y : Int32} {Q : Option MV → List MC → Prop} (pa : ¬ x < 0) (pb : 0 ≤ x) (pc : ¬ (16 : Int32) ≤ x) (pd : x < (16 : Int32)) (pe : x.toNatClampNeg < 16) (qa : ¬ y < 0) (qb : 0 ≤ y) (qc : (1 : Int32) ≤ y) (qd : ¬ y < (1 : Int32)) (k : ∀ h, okD h → Q (some (.inl (-1))) h) : PF 9 26 0 [some (.inr (some 0)), some (.inl x), some (.inl y), none] [] hJ Q := by
  sorry
theorem fD_node_I0 {x : Int32} {Q : Option MV → List MC → Prop} (pa : ¬ x < 0) (pb : 0 ≤ x) (pc : ¬ (16 : Int32) ≤ x) (pd : x < (16 : Int32)) (pe : x.toNatClampNeg < 16) (k : ∀ h, okD h → Q (some (.inl 100)) h) : PF 9 26 0 [some (.inr (some 0)), some (.inl x), some (.inl 0), none] [] hJ Q := by
  sorry
theorem fD_same_n {x y : Int32} {Q : Option MV → List MC → Prop} (pa : x < 0) (pb : ¬ 0 ≤ x) (pc : ¬ (16 : Int32) ≤ x) (pd : x < (16 : Int32)) (k : ∀ h, okD h → Q (some (.inl 0)) h) : PF 9 27 0 [some (.inr (some 0)), some (.inl x), some (.inl y)] [] hJ Q := by
  sorry
theorem fD_same_b {x y : Int32} {Q : Option MV → List MC → Prop} (pa : ¬ x < 0) (pb : 0 ≤ x) (pc : (16 : Int32) ≤ x) (pd : ¬ x < (16 : Int32)) (k : ∀ h, okD h → Q (some (.inl 0)) h) : PF 9 27 0 [some (.inr (some 0)), some (.inl x), some (.inl y)] [] hJ Q := by
  sorry
theorem fD_same_In {x y : Int32} {Q : Option MV → List MC → Prop} (pa : ¬ x < 0) (pb : 0 ≤ x) (pc : ¬ (16 : Int32) ≤ x) (pd : x < (16 : Int32)) (pe : x.toNatClampNeg < 16) (qa : y < 0) (qb : ¬ 0 ≤ y) (qc : ¬ (16 : Int32) ≤ y) (qd : y < (16 : Int32)) (k : ∀ h, okD h → Q (some (.inl 0)) h) : PF 9 27 0 [some (.inr (some 0)), some (.inl x), some (.inl y)] [] hJ Q := by
  sorry
theorem fD_same_Ib {x y : Int32} {Q : Option MV → List MC → Prop} (pa : ¬ x < 0) (pb : 0 ≤ x) (pc : ¬ (16 : Int32) ≤ x) (pd : x < (16 : Int32)) (pe : x.toNatClampNeg < 16) (qa : ¬ y < 0) (qb : 0 ≤ y) (qc : (16 : Int32) ≤ y) (qd : ¬ y < (16 : Int32)) (k : ∀ h, okD h → Q (some (.inl 0)) h) : PF 9 27 0 [some (.inr (some 0)), some (.inl x), some (.inl y)] [] hJ Q := by
  sorry
theorem fD_same_II {x y : Int32} {Q : Option MV → List MC → Prop} (pa : ¬ x < 0) (pb : 0 ≤ x) (pc : ¬ (16 : Int32) ≤ x) (pd : x < (16 : Int32)) (pe : x.toNatClampNeg < 16) (qa : ¬ y < 0) (qb : 0 ≤ y) (qc : ¬ (16 : Int32) ≤ y) (qd : y < (16 : Int32)) (qe : y.toNatClampNeg < 16) (k : ∀ h, okD h → Q (some (.inl 1)) h) : PF 9 27 0 [some (.inr (some 0)), some (.inl x), some (.inl y)] [] hJ Q := by
  sorry
theorem fD_greater_n {x y : Int32} {Q : Option MV → List MC → Prop} (pa : x < 0) (pb : ¬ 0 ≤ x) (pc : ¬ (16 : Int32) ≤ x) (pd : x < (16 : Int32)) (k : ∀ h, okD h → Q (some (.inl 0)) h) : PF 9 30 0 [some (.inr (some 0)), some (.inl x), some (.inl y)] [] hJ Q := by
  sorry
theorem fD_greater_b {x y : Int32} {Q : Option MV → List MC → Prop} (pa : ¬ x < 0) (pb : 0 ≤ x) (pc : (16 : Int32) ≤ x) (pd : ¬ x < (16 : Int32)) (k : ∀ h, okD h → Q (some (.inl 0)) h) : PF 9 30 0 [some (.inr (some 0)), some (.inl x), some (.inl y)] [] hJ Q := by
  sorry
theorem fD_greater_In {x y : Int32} {Q : Option MV → List MC → Prop} (pa : ¬ x < 0) (pb : 0 ≤ x) (pc : ¬ (16 : Int32) ≤ x) (pd : x < (16 : Int32)) (pe : x.toNatClampNeg < 16) (qa : y < 0) (qb : ¬ 0 ≤ y) (qc : ¬ (16 : Int32) ≤ y) (qd : y < (16 : Int32)) (k : ∀ h, okD h → Q (some (.inl 0)) h) : PF 9 30 0 [some (.inr (some 0)), some (.inl x), some (.inl y)] [] hJ Q := by
  sorry
theorem fD_greater_Ib {x y : Int32} {Q : Option MV → List MC → Prop} (pa : ¬ x < 0) (pb : 0 ≤ x) (pc : ¬ (16 : Int32) ≤ x) (pd : x < (16 : Int32)) (pe : x.toNatClampNeg < 16) (qa : ¬ y < 0) (qb : 0 ≤ y) (qc : (16 : Int32) ≤ y) (qd : ¬ y < (16 : Int32)) (k : ∀ h, okD h → Q (some (.inl 0)) h) : PF 9 30 0 [some (.inr (some 0)), some (.inl x), some (.inl y)] [] hJ Q := by
  sorry
theorem fD_matches_n {x y : Int32} {Q : Option MV → List MC → Prop} (pa : x < 0) (pb : ¬ 0 ≤ x) (pc : ¬ (16 : Int32) ≤ x) (pd : x < (16 : Int32)) (k : ∀ h, okD h → Q (some (.inl (-1))) h) : PF 9 39 0 [some (.inr (some 0)), some (.inl x), some (.inl y)] [] hJ Q := by
  sorry
theorem fD_matches_b {x y : Int32} {Q : Option MV → List MC → Prop} (pa : ¬ x < 0) (pb : 0 ≤ x) (pc : (16 : Int32) ≤ x) (pd : ¬ x < (16 : Int32)) (k : ∀ h, okD h → Q (some (.inl (-1))) h) : PF 9 39 0 [some (.inr (some 0)), some (.inl x), some (.inl y)] [] hJ Q := by
  sorry
theorem fD_matches_In {x y : Int32} {Q : Option MV → List MC → Prop} (pa : ¬ x < 0) (pb : 0 ≤ x) (pc : ¬ (16 : Int32) ≤ x) (pd : x < (16 : Int32)) (pe : x.toNatClampNeg < 16) (qa : y < 0) (qb : ¬ 0 ≤ y) (qc : ¬ (16 : Int32) ≤ y) (qd : y < (16 : Int32)) (k : ∀ h, okD h → Q (some (.inl (-1))) h) : PF 9 39 0 [some (.inr (some 0)), some (.inl x), some (.inl y)] [] hJ Q := by
  sorry
theorem fD_matches_Ib {x y : Int32} {Q : Option MV → List MC → Prop} (pa : ¬ x < 0) (pb : 0 ≤ x) (pc : ¬ (16 : Int32) ≤ x) (pd : x < (16 : Int32)) (pe : x.toNatClampNeg < 16) (qa : ¬ y < 0) (qb : 0 ≤ y) (qc : (16 : Int32) ≤ y) (qd : ¬ y < (16 : Int32)) (k : ∀ h, okD h → Q (some (.inl (-1))) h) : PF 9 39 0 [some (.inr (some 0)), some (.inl x), some (.inl y)] [] hJ Q := by
  sorry
theorem fD_unifiers_n {x y : Int32} {Q : Option MV → List MC → Prop} (pa : x < 0) (pb : ¬ 0 ≤ x) (pc : ¬ (16 : Int32) ≤ x) (pd : x < (16 : Int32)) (k : ∀ h, okD h → Q (some (.inl (-1))) h) : PF 9 51 0 [some (.inr (some 0)), some (.inl x), some (.inl y)] [] hJ Q := by
  sorry
theorem fD_unifiers_b {x y : Int32} {Q : Option MV → List MC → Prop} (pa : ¬ x < 0) (pb : 0 ≤ x) (pc : (16 : Int32) ≤ x) (pd : ¬ x < (16 : Int32)) (k : ∀ h, okD h → Q (some (.inl (-1))) h) : PF 9 51 0 [some (.inr (some 0)), some (.inl x), some (.inl y)] [] hJ Q := by
  sorry
theorem fD_unifiers_In {x y : Int32} {Q : Option MV → List MC → Prop} (pa : ¬ x < 0) (pb : 0 ≤ x) (pc : ¬ (16 : Int32) ≤ x) (pd : x < (16 : Int32)) (pe : x.toNatClampNeg < 16) (qa : y < 0) (qb : ¬ 0 ≤ y) (qc : ¬ (16 : Int32) ≤ y) (qd : y < (16 : Int32)) (k : ∀ h, okD h → Q (some (.inl (-1))) h) : PF 9 51 0 [some (.inr (some 0)), some (.inl x), some (.inl y)] [] hJ Q := by
  sorry
theorem fD_unifiers_Ib {x y : Int32} {Q : Option MV → List MC → Prop} (pa : ¬ x < 0) (pb : 0 ≤ x) (pc : ¬ (16 : Int32) ≤ x) (pd : x < (16 : Int32)) (pe : x.toNatClampNeg < 16) (qa : ¬ y < 0) (qb : 0 ≤ y) (qc : (16 : Int32) ≤ y) (qd : ¬ y < (16 : Int32)) (k : ∀ h, okD h → Q (some (.inl (-1))) h) : PF 9 51 0 [some (.inr (some 0)), some (.inl x), some (.inl y)] [] hJ Q := by
  sorry
theorem fD_equation_n {x y : Int32} {Q : Option MV → List MC → Prop} (pa : x < 0) (pb : ¬ 0 ≤ x) (pc : ¬ (16 : Int32) ≤ x) (pd : x < (16 : Int32)) (k : ∀ h, okD h → Q (some (.inl 0)) h) : PF 9 66 0 [some (.inr (some 0)), some (.inl x), some (.inl y)] [] hJ Q := by
  sorry
theorem fD_equation_b {x y : Int32} {Q : Option MV → List MC → Prop} (pa : ¬ x < 0) (pb : 0 ≤ x) (pc : (16 : Int32) ≤ x) (pd : ¬ x < (16 : Int32)) (k : ∀ h, okD h → Q (some (.inl 0)) h) : PF 9 66 0 [some (.inr (some 0)), some (.inl x), some (.inl y)] [] hJ Q := by
  sorry
theorem fD_equation_In {x y : Int32} {Q : Option MV → List MC → Prop} (pa : ¬ x < 0) (pb : 0 ≤ x) (pc : ¬ (16 : Int32) ≤ x) (pd : x < (16 : Int32)) (pe : x.toNatClampNeg < 16) (qa : y < 0) (qb : ¬ 0 ≤ y) (qc : ¬ (16 : Int32) ≤ y) (qd : y < (16 : Int32)) (k : ∀ h, okD h → Q (some (.inl 0)) h) : PF 9 66 0 [some (.inr (some 0)), some (.inl x), some (.inl y)] [] hJ Q := by
  sorry
theorem fD_equation_Ib {x y : Int32} {Q : Option MV → List MC → Prop} (pa : ¬ x < 0) (pb : 0 ≤ x) (pc : ¬ (16 : Int32) ≤ x) (pd : x < (16 : Int32)) (pe : x.toNatClampNeg < 16) (qa : ¬ y < 0) (qb : 0 ≤ y) (qc : (16 : Int32) ≤ y) (qd : ¬ y < (16 : Int32)) (k : ∀ h, okD h → Q (some (.inl 0)) h) : PF 9 66 0 [some (.inr (some 0)), some (.inl x), some (.inl y)] [] hJ Q := by
  sorry
theorem fD_reduce_n {x y : Int32} {Q : Option MV → List MC → Prop} (pa : x < 0) (pb : ¬ 0 ≤ x) (pc : ¬ (16 : Int32) ≤ x) (pd : x < (16 : Int32)) (k : ∀ h, okD h → Q (some (.inl 0)) h) : PF 9 90 0 [some (.inr (some 0)), some (.inl x), some (.inl y), none] [] hJ Q := by
  sorry
theorem fD_reduce_b {x y : Int32} {Q : Option MV → List MC → Prop} (pa : ¬ x < 0) (pb : 0 ≤ x) (pc : (16 : Int32) ≤ x) (pd : ¬ x < (16 : Int32)) (k : ∀ h, okD h → Q (some (.inl 0)) h) : PF 9 90 0 [some (.inr (some 0)), some (.inl x), some (.inl y), none] [] hJ Q := by
  sorry
theorem fD_reduce_In {x y : Int32} {Q : Option MV → List MC → Prop} (pa : ¬ x < 0) (pb : 0 ≤ x) (pc : ¬ (16 : Int32) ≤ x) (pd : x < (16 : Int32)) (pe : x.toNatClampNeg < 16) (qa : y < 0) (qb : ¬ 0 ≤ y) (qc : ¬ (16 : Int32) ≤ y) (qd : y < (16 : Int32)) (k : ∀ h, okD h → Q (some (.inl 0)) h) : PF 9 90 0 [some (.inr (some 0)), some (.inl x), some (.inl y), none] [] hJ Q := by
  sorry
theorem fD_reduce_Ib {x y : Int32} {Q : Option MV → List MC → Prop} (pa : ¬ x < 0) (pb : 0 ≤ x) (pc : ¬ (16 : Int32) ≤ x) (pd : x < (16 : Int32)) (pe : x.toNatClampNeg < 16) (qa : ¬ y < 0) (qb : 0 ≤ y) (qc : (16 : Int32) ≤ y) (qd : ¬ y < (16 : Int32)) (k : ∀ h, okD h → Q (some (.inl 0)) h) : PF 9 90 0 [some (.inr (some 0)), some (.inl x), some (.inl y), none] [] hJ Q := by
  sorry
theorem fD_prove_n {x y : Int32} {Q : Option MV → List MC → Prop} (pa : x < 0) (pb : ¬ 0 ≤ x) (pc : ¬ (16 : Int32) ≤ x) (pd : x < (16 : Int32)) (k : ∀ h, okD h → Q (some (.inl (-1))) h) : PF 9 91 0 [some (.inr (some 0)), some (.inl x), some (.inl y), none, none] [] hJ Q := by
  sorry
theorem fD_prove_b {x y : Int32} {Q : Option MV → List MC → Prop} (pa : ¬ x < 0) (pb : 0 ≤ x) (pc : (16 : Int32) ≤ x) (pd : ¬ x < (16 : Int32)) (k : ∀ h, okD h → Q (some (.inl (-1))) h) : PF 9 91 0 [some (.inr (some 0)), some (.inl x), some (.inl y), none, none] [] hJ Q := by
  sorry
theorem fD_prove_In {x y : Int32} {Q : Option MV → List MC → Prop} (pa : ¬ x < 0) (pb : 0 ≤ x) (pc : ¬ (16 : Int32) ≤ x) (pd : x < (16 : Int32)) (pe : x.toNatClampNeg < 16) (qa : y < 0) (qb : ¬ 0 ≤ y) (qc : ¬ (16 : Int32) ≤ y) (qd : y < (16 : Int32)) (k : ∀ h, okD h → Q (some (.inl (-1))) h) : PF 9 91 0 [some (.inr (some 0)), some (.inl x), some (.inl y), none, none] [] hJ Q := by
  sorry
theorem fD_prove_Ib {x y : Int32} {Q : Option MV → List MC → Prop} (pa : ¬ x < 0) (pb : 0 ≤ x) (pc : ¬ (16 : Int32) ≤ x) (pd : x < (16 : Int32)) (pe : x.toNatClampNeg < 16) (qa : ¬ y < 0) (qb : 0 ≤ y) (qc : (16 : Int32) ≤ y) (qd : ¬ y < (16 : Int32)) (k : ∀ h, okD h → Q (some (.inl (-1))) h) : PF 9 91 0 [some (.inr (some 0)), some (.inl x), some (.inl y), none, none] [] hJ Q := by
  sorry
theorem fD_match_n {x y z w u : Int32} {Q : Option MV → List MC → Prop} (pa : x < 0) (pb : ¬ 0 ≤ x) (pc : ¬ (16 : Int32) ≤ x) (pd : x < (16 : Int32)) (k : ∀ h, okD h → Q (some (.inl 0)) h) : PF 9 46 0 [some (.inr (some 0)), some (.inl x), some (.inl y), some (.inl z), some (.inl w), some (.inl u), none, none, none] [] hJ Q := by
  sorry
theorem fD_match_b {x y z w u : Int32} {Q : Option MV → List MC → Prop} (pa : ¬ x < 0) (pb : 0 ≤ x) (pc : (16 : Int32) ≤ x) (pd : ¬ x < (16 : Int32)) (k : ∀ h, okD h → Q (some (.inl 0)) h) : PF 9 46 0 [some (.inr (some 0)), some (.inl x), some (.inl y), some (.inl z), some (.inl w), some (.inl u), none, none, none] [] hJ Q := by
  sorry
theorem fD_match_In {x y z w u : Int32} {Q : Option MV → List MC → Prop} (pa : ¬ x < 0) (pb : 0 ≤ x) (pc : ¬ (16 : Int32) ≤ x) (pd : x < (16 : Int32)) (pe : x.toNatClampNeg < 16) (qa : y < 0) (qb : ¬ 0 ≤ y) (qc : ¬ (16 : Int32) ≤ y) (qd : y < (16 : Int32)) (k : ∀ h, okD h → Q (some (.inl 0)) h) : PF 9 46 0 [some (.inr (some 0)), some (.inl x), some (.inl y), some (.inl z), some (.inl w), some (.inl u), none, none, none] [] hJ Q := by
  sorry
theorem fD_match_Ib {x y z w u : Int32} {Q : Option MV → List MC → Prop} (pa : ¬ x < 0) (pb : 0 ≤ x) (pc : ¬ (16 : Int32) ≤ x) (pd : x < (16 : Int32)) (pe : x.toNatClampNeg < 16) (qa : ¬ y < 0) (qb : 0 ≤ y) (qc : (16 : Int32) ≤ y) (qd : ¬ y < (16 : Int32)) (k : ∀ h, okD h → Q (some (.inl 0)) h) : PF 9 46 0 [some (.inr (some 0)), some (.inl x), some (.inl y), some (.inl z), some (.inl w), some (.inl u), none, none, none] [] hJ Q := by
  sorry
theorem fD_match_IInn {x y z w u : Int32} {Q : Option MV → List MC → Prop} (pa : ¬ x < 0) (pb : 0 ≤ x) (pc : ¬ (16 : Int32) ≤ x) (pd : x < (16 : Int32)) (pe : x.toNatClampNeg < 16) (qa : ¬ y < 0) (qb : 0 ≤ y) (qc : ¬ (16 : Int32) ≤ y) (qd : y < (16 : Int32)) (qe : y.toNatClampNeg < 16) (sa : w < 0) (sb : ¬ 0 ≤ w) (sc : ¬ (6 : Int32) ≤ w) (sd : w < (6 : Int32)) (ta : u < 0) (tb : ¬ 0 ≤ u) (tc : ¬ (16 : Int32) ≤ u) (td : u < (16 : Int32)) (k : ∀ h, okD h → Q (some (.inl 0)) h) : PF 9 46 0 [some (.inr (some 0)), some (.inl x), some (.inl y), some (.inl z), some (.inl w), some (.inl u), none, none, none] [] hJ Q := by
  sorry
theorem fD_match_IInb {x y z w u : Int32} {Q : Option MV → List MC → Prop} (pa : ¬ x < 0) (pb : 0 ≤ x) (pc : ¬ (16 : Int32) ≤ x) (pd : x < (16 : Int32)) (pe : x.toNatClampNeg < 16) (qa : ¬ y < 0) (qb : 0 ≤ y) (qc : ¬ (16 : Int32) ≤ y) (qd : y < (16 : Int32)) (qe : y.toNatClampNeg < 16) (sa : w < 0) (sb : ¬ 0 ≤ w) (sc : ¬ (6 : Int32) ≤ w) (sd : w < (6 : Int32)) (ta : ¬ u < 0) (tb : 0 ≤ u) (tc : (16 : Int32) ≤ u) (td : ¬ u < (16 : Int32)) (k : ∀ h, okD h → Q (some (.inl 0)) h) : PF 9 46 0 [some (.inr (some 0)), some (.inl x), some (.inl y), some (.inl z), some (.inl w), some (.inl u), none, none, none] [] hJ Q := by
  sorry
theorem fD_match_IIni {x y z w u : Int32} {Q : Option MV → List MC → Prop} (pa : ¬ x < 0) (pb : 0 ≤ x) (pc : ¬ (16 : Int32) ≤ x) (pd : x < (16 : Int32)) (pe : x.toNatClampNeg < 16) (qa : ¬ y < 0) (qb : 0 ≤ y) (qc : ¬ (16 : Int32) ≤ y) (qd : y < (16 : Int32)) (qe : y.toNatClampNeg < 16) (sa : w < 0) (sb : ¬ 0 ≤ w) (sc : ¬ (6 : Int32) ≤ w) (sd : w < (6 : Int32)) (ta : ¬ u < 0) (tb : 0 ≤ u) (tc : ¬ (16 : Int32) ≤ u) (td : u < (16 : Int32)) (te : u.toNatClampNeg < 16) (k : ∀ h, okD h → Q (some (.inl 0)) h) : PF 9 46 0 [some (.inr (some 0)), some (.inl x), some (.inl y), some (.inl z), some (.inl w), some (.inl u), none, none, none] [] hJ Q := by
  sorry
theorem fD_match_IIbn {x y z w u : Int32} {Q : Option MV → List MC → Prop} (pa : ¬ x < 0) (pb : 0 ≤ x) (pc : ¬ (16 : Int32) ≤ x) (pd : x < (16 : Int32)) (pe : x.toNatClampNeg < 16) (qa : ¬ y < 0) (qb : 0 ≤ y) (qc : ¬ (16 : Int32) ≤ y) (qd : y < (16 : Int32)) (qe : y.toNatClampNeg < 16) (sa : ¬ w < 0) (sb : 0 ≤ w) (sc : (6 : Int32) ≤ w) (sd : ¬ w < (6 : Int32)) (ta : u < 0) (tb : ¬ 0 ≤ u) (tc : ¬ (16 : Int32) ≤ u) (td : u < (16 : Int32)) (k : ∀ h, okD h → Q (some (.inl 0)) h) : PF 9 46 0 [some (.inr (some 0)), some (.inl x), some (.inl y), some (.inl z), some (.inl w), some (.inl u), none, none, none] [] hJ Q := by
  sorry
theorem fD_match_IIbb {x y z w u : Int32} {Q : Option MV → List MC → Prop} (pa : ¬ x < 0) (pb : 0 ≤ x) (pc : ¬ (16 : Int32) ≤ x) (pd : x < (16 : Int32)) (pe : x.toNatClampNeg < 16) (qa : ¬ y < 0) (qb : 0 ≤ y) (qc : ¬ (16 : Int32) ≤ y) (qd : y < (16 : Int32)) (qe : y.toNatClampNeg < 16) (sa : ¬ w < 0) (sb : 0 ≤ w) (sc : (6 : Int32) ≤ w) (sd : ¬ w < (6 : Int32)) (ta : ¬ u < 0) (tb : 0 ≤ u) (tc : (16 : Int32) ≤ u) (td : ¬ u < (16 : Int32)) (k : ∀ h, okD h → Q (some (.inl 0)) h) : PF 9 46 0 [some (.inr (some 0)), some (.inl x), some (.inl y), some (.inl z), some (.inl w), some (.inl u), none, none, none] [] hJ Q := by
  sorry
theorem fD_match_IIbi {x y z w u : Int32} {Q : Option MV → List MC → Prop} (pa : ¬ x < 0) (pb : 0 ≤ x) (pc : ¬ (16 : Int32) ≤ x) (pd : x < (16 : Int32)) (pe : x.toNatClampNeg < 16) (qa : ¬ y < 0) (qb : 0 ≤ y) (qc : ¬ (16 : Int32) ≤ y) (qd : y < (16 : Int32)) (qe : y.toNatClampNeg < 16) (sa : ¬ w < 0) (sb : 0 ≤ w) (sc : (6 : Int32) ≤ w) (sd : ¬ w < (6 : Int32)) (ta : ¬ u < 0) (tb : 0 ≤ u) (tc : ¬ (16 : Int32) ≤ u) (td : u < (16 : Int32)) (te : u.toNatClampNeg < 16) (k : ∀ h, okD h → Q (some (.inl 0)) h) : PF 9 46 0 [some (.inr (some 0)), some (.inl x), some (.inl y), some (.inl z), some (.inl w), some (.inl u), none, none, none] [] hJ Q := by
  sorry
theorem fD_match_IIin {x y z w u : Int32} {Q : Option MV → List MC → Prop} (pa : ¬ x < 0) (pb : 0 ≤ x) (pc : ¬ (16 : Int32) ≤ x) (pd : x < (16 : Int32)) (pe : x.toNatClampNeg < 16) (qa : ¬ y < 0) (qb : 0 ≤ y) (qc : ¬ (16 : Int32) ≤ y) (qd : y < (16 : Int32)) (qe : y.toNatClampNeg < 16) (sa : ¬ w < 0) (sb : 0 ≤ w) (sc : ¬ (6 : Int32) ≤ w) (sd : w < (6 : Int32)) (ta : u < 0) (tb : ¬ 0 ≤ u) (tc : ¬ (16 : Int32) ≤ u) (td : u < (16 : Int32)) (k : ∀ h, okD h → Q (some (.inl 0)) h) : PF 9 46 0 [some (.inr (some 0)), some (.inl x), some (.inl y), some (.inl z), some (.inl w), some (.inl u), none, none, none] [] hJ Q := by
  sorry
theorem fD_match_IIib {x y z w u : Int32} {Q : Option MV → List MC → Prop} (pa : ¬ x < 0) (pb : 0 ≤ x) (pc : ¬ (16 : Int32) ≤ x) (pd : x < (16 : Int32)) (pe : x.toNatClampNeg < 16) (qa : ¬ y < 0) (qb : 0 ≤ y) (qc : ¬ (16 : Int32) ≤ y) (qd : y < (16 : Int32)) (qe : y.toNatClampNeg < 16) (sa : ¬ w < 0) (sb : 0 ≤ w) (sc : ¬ (6 : Int32) ≤ w) (sd : w < (6 : Int32)) (ta : ¬ u < 0) (tb : 0 ≤ u) (tc : (16 : Int32) ≤ u) (td : ¬ u < (16 : Int32)) (k : ∀ h, okD h → Q (some (.inl 0)) h) : PF 9 46 0 [some (.inr (some 0)), some (.inl x), some (.inl y), some (.inl z), some (.inl w), some (.inl u), none, none, none] [] hJ Q := by
  sorry
theorem fD_unifier_n {x y z w : Int32} {Q : Option MV → List MC → Prop} (pa : x < 0) (pb : ¬ 0 ≤ x) (pc : ¬ (16 : Int32) ≤ x) (pd : x < (16 : Int32)) (k : ∀ h, okD h → Q (some (.inl 0)) h) : PF 9 64 0 [some (.inr (some 0)), some (.inl x), some (.inl y), some (.inl z), some (.inl w), none] [] hJ Q := by
  sorry
theorem fD_unifier_b {x y z w : Int32} {Q : Option MV → List MC → Prop} (pa : ¬ x < 0) (pb : 0 ≤ x) (pc : (16 : Int32) ≤ x) (pd : ¬ x < (16 : Int32)) (k : ∀ h, okD h → Q (some (.inl 0)) h) : PF 9 64 0 [some (.inr (some 0)), some (.inl x), some (.inl y), some (.inl z), some (.inl w), none] [] hJ Q := by
  sorry
theorem fD_unifier_In {x y z w : Int32} {Q : Option MV → List MC → Prop} (pa : ¬ x < 0) (pb : 0 ≤ x) (pc : ¬ (16 : Int32) ≤ x) (pd : x < (16 : Int32)) (pe : x.toNatClampNeg < 16) (qa : y < 0) (qb : ¬ 0 ≤ y) (qc : ¬ (16 : Int32) ≤ y) (qd : y < (16 : Int32)) (k : ∀ h, okD h → Q (some (.inl 0)) h) : PF 9 64 0 [some (.inr (some 0)), some (.inl x), some (.inl y), some (.inl z), some (.inl w), none] [] hJ Q := by
  sorry
theorem fD_unifier_Ib {x y z w : Int32} {Q : Option MV → List MC → Prop} (pa : ¬ x < 0) (pb : 0 ≤ x) (pc : ¬ (16 : Int32) ≤ x) (pd : x < (16 : Int32)) (pe : x.toNatClampNeg < 16) (qa : ¬ y < 0) (qb : 0 ≤ y) (qc : (16 : Int32) ≤ y) (qd : ¬ y < (16 : Int32)) (k : ∀ h, okD h → Q (some (.inl 0)) h) : PF 9 64 0 [some (.inr (some 0)), some (.inl x), some (.inl y), some (.inl z), some (.inl w), none] [] hJ Q := by
  sorry
theorem fD_unifier_IIn {x y z w : Int32} {Q : Option MV → List MC → Prop} (pa : ¬ x < 0) (pb : 0 ≤ x) (pc : ¬ (16 : Int32) ≤ x) (pd : x < (16 : Int32)) (pe : x.toNatClampNeg < 16) (qa : ¬ y < 0) (qb : 0 ≤ y) (qc : ¬ (16 : Int32) ≤ y) (qd : y < (16 : Int32)) (qe : y.toNatClampNeg < 16) (sa : w < 0) (sb : ¬ 0 ≤ w) (sc : ¬ (16 : Int32) ≤ w) (sd : w < (16 : Int32)) (k : ∀ h, okD h → Q (some (.inl 0)) h) : PF 9 64 0 [some (.inr (some 0)), some (.inl x), some (.inl y), some (.inl z), some (.inl w), none] [] hJ Q := by
  sorry
theorem fD_unifier_IIb {x y z w : Int32} {Q : Option MV → List MC → Prop} (pa : ¬ x < 0) (pb : 0 ≤ x) (pc : ¬ (16 : Int32) ≤ x) (pd : x < (16 : Int32)) (pe : x.toNatClampNeg < 16) (qa : ¬ y < 0) (qb : 0 ≤ y) (qc : ¬ (16 : Int32) ≤ y) (qd : y < (16 : Int32)) (qe : y.toNatClampNeg < 16) (sa : ¬ w < 0) (sb : 0 ≤ w) (sc : (16 : Int32) ≤ w) (sd : ¬ w < (16 : Int32)) (k : ∀ h, okD h → Q (some (.inl 0)) h) : PF 9 64 0 [some (.inr (some 0)), some (.inl x), some (.inl y), some (.inl z), some (.inl w), none] [] hJ Q := by
  sorry
theorem fD_rules {Q : Option MV → List MC → Prop} (k : ∀ h, okD h → Q (some (.inl 0)) h) : PF 9 85 0 [some (.inr (some 0))] [] hJ Q := by
  sorry
theorem fD_waiting {Q : Option MV → List MC → Prop} (k : ∀ h, okD h → Q (some (.inl 0)) h) : PF 9 88 0 [some (.inr (some 0))] [] hJ Q := by
  sorry
theorem fD_rule_n {x y z : Int32} {Q : Option MV → List MC → Prop} (pa : x < 0) (pb : ¬ 0 ≤ x) (pc : ¬ (0 : Int32) ≤ x) (pd : x < (0 : Int32)) (k : ∀ h, okD h → Q (some (.inl 0)) h) : PF 9 86 0 [some (.inr (some 0)), some (.inl x), some (.inl y), some (.inl z)] [] hJ Q := by
  sorry
theorem fD_rule_b {x y z : Int32} {Q : Option MV → List MC → Prop} (pa : ¬ x < 0) (pb : 0 ≤ x) (pc : (0 : Int32) ≤ x) (pd : ¬ x < (0 : Int32)) (k : ∀ h, okD h → Q (some (.inl 0)) h) : PF 9 86 0 [some (.inr (some 0)), some (.inl x), some (.inl y), some (.inl z)] [] hJ Q := by
  sorry
theorem fD_pair_n {x y z : Int32} {Q : Option MV → List MC → Prop} (pa : x < 0) (pb : ¬ 0 ≤ x) (pc : ¬ (0 : Int32) ≤ x) (pd : x < (0 : Int32)) (k : ∀ h, okD h → Q (some (.inl 0)) h) : PF 9 89 0 [some (.inr (some 0)), some (.inl x), some (.inl y), some (.inl z)] [] hJ Q := by
  sorry
theorem fD_pair_b {x y z : Int32} {Q : Option MV → List MC → Prop} (pa : ¬ x < 0) (pb : 0 ≤ x) (pc : (0 : Int32) ≤ x) (pd : ¬ x < (0 : Int32)) (k : ∀ h, okD h → Q (some (.inl 0)) h) : PF 9 89 0 [some (.inr (some 0)), some (.inl x), some (.inl y), some (.inl z)] [] hJ Q := by
  sorry
theorem fD_complete_n {x : Int32} {Q : Option MV → List MC → Prop} (pa : x < 0) (pb : ¬ 0 ≤ x) (pc : ¬ 30 < x) (pd : x ≤ 30) (pe : ¬ 0 < x) (pf : x ≤ 0) (k : ∀ h, okD h → Q (some (.inl 1)) h) : PF 9 70 0 [some (.inr (some 0)), some (.inl x), none, none, none] [] hJ Q := by
  sorry
theorem fD_complete_b {x : Int32} {Q : Option MV → List MC → Prop} (pa : ¬ x < 0) (pb : 0 ≤ x) (pc : 30 < x) (pd : ¬ x ≤ 30) (pe : 0 < x) (pf : ¬ x ≤ 0) (k : ∀ h, okD h → Q (some (.inl 1)) h) : PF 9 70 0 [some (.inr (some 0)), some (.inl x), none, none, none] [] hJ Q := by
  sorry
theorem fD_complete_i {x : Int32} {Q : Option MV → List MC → Prop} (pa : ¬ x < 0) (pb : 0 ≤ x) (pc : ¬ 30 < x) (pd : x ≤ 30) (pe : 0 < x) (pf : ¬ x ≤ 0) (k : ∀ h, okD h → Q (some (.inl 1)) h) : PF 9 70 0 [some (.inr (some 0)), some (.inl x), none, none, none] [] hJ Q := by
  sorry
theorem fD_complete_0 {Q : Option MV → List MC → Prop} (k : ∀ h, okD h → Q (some (.inl 1)) h) : PF 9 70 0 [some (.inr (some 0)), some (.inl 0), none, none, none] [] hJ Q := by
  sorry
theorem fD_match_IInII {x y z w u : Int32} {Q : Option MV → List MC → Prop} (pa : ¬ x < 0) (pb : 0 ≤ x) (pc : ¬ (16 : Int32) ≤ x) (pd : x < (16 : Int32)) (pe : x.toNatClampNeg < 16) (qa : ¬ y < 0) (qb : 0 ≤ y) (qc : ¬ (16 : Int32) ≤ y) (qd : y < (16 : Int32)) (qe : y.toNatClampNeg < 16) (ra : z < 0) (rb : ¬ 0 ≤ z) (rc : ¬ (1 : Int32) ≤ z) (rd : z < (1 : Int32)) (sa : ¬ w < 0) (sb : 0 ≤ w) (sc : ¬ (6 : Int32) ≤ w) (sd : w < (6 : Int32)) (ta : ¬ u < 0) (tb : 0 ≤ u) (tc : ¬ (16 : Int32) ≤ u) (td : u < (16 : Int32)) (te : u.toNatClampNeg < 16) (k : ∀ h, okD h → Q (some (.inl 0)) h) : PF 9 46 0 [some (.inr (some 0)), some (.inl x), some (.inl y), some (.inl z), some (.inl w), some (.inl u), none, none, none] [] hJ Q := by
  sorry
theorem fD_match_IIbII {x y z w u : Int32} {Q : Option MV → List MC → Prop} (pa : ¬ x < 0) (pb : 0 ≤ x) (pc : ¬ (16 : Int32) ≤ x) (pd : x < (16 : Int32)) (pe : x.toNatClampNeg < 16) (qa : ¬ y < 0) (qb : 0 ≤ y) (qc : ¬ (16 : Int32) ≤ y) (qd : y < (16 : Int32)) (qe : y.toNatClampNeg < 16) (ra : ¬ z < 0) (rb : 0 ≤ z) (rc : (1 : Int32) ≤ z) (rd : ¬ z < (1 : Int32)) (sa : ¬ w < 0) (sb : 0 ≤ w) (sc : ¬ (6 : Int32) ≤ w) (sd : w < (6 : Int32)) (ta : ¬ u < 0) (tb : 0 ≤ u) (tc : ¬ (16 : Int32) ≤ u) (td : u < (16 : Int32)) (te : u.toNatClampNeg < 16) (k : ∀ h, okD h → Q (some (.inl 0)) h) : PF 9 46 0 [some (.inr (some 0)), some (.inl x), some (.inl y), some (.inl z), some (.inl w), some (.inl u), none, none, none] [] hJ Q := by
  sorry
theorem fD_match_II00I {x y u : Int32} {Q : Option MV → List MC → Prop} (pa : ¬ x < 0) (pb : 0 ≤ x) (pc : ¬ (16 : Int32) ≤ x) (pd : x < (16 : Int32)) (pe : x.toNatClampNeg < 16) (qa : ¬ y < 0) (qb : 0 ≤ y) (qc : ¬ (16 : Int32) ≤ y) (qd : y < (16 : Int32)) (qe : y.toNatClampNeg < 16) (ta : ¬ u < 0) (tb : 0 ≤ u) (tc : ¬ (16 : Int32) ≤ u) (td : u < (16 : Int32)) (te : u.toNatClampNeg < 16) (k : ∀ h, okD h → Q (some (.inl 1)) h) : PF 9 46 0 [some (.inr (some 0)), some (.inl x), some (.inl y), some (.inl 0), some (.inl 0), some (.inl u), none, none, none] [] hJ Q := by
  sorry
theorem fD_match_II01I {x y u : Int32} {Q : Option MV → List MC → Prop} (pa : ¬ x < 0) (pb : 0 ≤ x) (pc : ¬ (16 : Int32) ≤ x) (pd : x < (16 : Int32)) (pe : x.toNatClampNeg < 16) (qa : ¬ y < 0) (qb : 0 ≤ y) (qc : ¬ (16 : Int32) ≤ y) (qd : y < (16 : Int32)) (qe : y.toNatClampNeg < 16) (ta : ¬ u < 0) (tb : 0 ≤ u) (tc : ¬ (16 : Int32) ≤ u) (td : u < (16 : Int32)) (te : u.toNatClampNeg < 16) (k : ∀ h, okD h → Q (some (.inl 0)) h) : PF 9 46 0 [some (.inr (some 0)), some (.inl x), some (.inl y), some (.inl 0), some (.inl 1), some (.inl u), none, none, none] [] hJ Q := by
  sorry
theorem fD_match_II02I {x y u : Int32} {Q : Option MV → List MC → Prop} (pa : ¬ x < 0) (pb : 0 ≤ x) (pc : ¬ (16 : Int32) ≤ x) (pd : x < (16 : Int32)) (pe : x.toNatClampNeg < 16) (qa : ¬ y < 0) (qb : 0 ≤ y) (qc : ¬ (16 : Int32) ≤ y) (qd : y < (16 : Int32)) (qe : y.toNatClampNeg < 16) (ta : ¬ u < 0) (tb : 0 ≤ u) (tc : ¬ (16 : Int32) ≤ u) (td : u < (16 : Int32)) (te : u.toNatClampNeg < 16) (k : ∀ h, okD h → Q (some (.inl 0)) h) : PF 9 46 0 [some (.inr (some 0)), some (.inl x), some (.inl y), some (.inl 0), some (.inl 2), some (.inl u), none, none, none] [] hJ Q := by
  sorry
theorem fD_match_II03I {x y u : Int32} {Q : Option MV → List MC → Prop} (pa : ¬ x < 0) (pb : 0 ≤ x) (pc : ¬ (16 : Int32) ≤ x) (pd : x < (16 : Int32)) (pe : x.toNatClampNeg < 16) (qa : ¬ y < 0) (qb : 0 ≤ y) (qc : ¬ (16 : Int32) ≤ y) (qd : y < (16 : Int32)) (qe : y.toNatClampNeg < 16) (ta : ¬ u < 0) (tb : 0 ≤ u) (tc : ¬ (16 : Int32) ≤ u) (td : u < (16 : Int32)) (te : u.toNatClampNeg < 16) (k : ∀ h, okD h → Q (some (.inl 0)) h) : PF 9 46 0 [some (.inr (some 0)), some (.inl x), some (.inl y), some (.inl 0), some (.inl 3), some (.inl u), none, none, none] [] hJ Q := by
  sorry
theorem fD_match_II04I {x y u : Int32} {Q : Option MV → List MC → Prop} (pa : ¬ x < 0) (pb : 0 ≤ x) (pc : ¬ (16 : Int32) ≤ x) (pd : x < (16 : Int32)) (pe : x.toNatClampNeg < 16) (qa : ¬ y < 0) (qb : 0 ≤ y) (qc : ¬ (16 : Int32) ≤ y) (qd : y < (16 : Int32)) (qe : y.toNatClampNeg < 16) (ta : ¬ u < 0) (tb : 0 ≤ u) (tc : ¬ (16 : Int32) ≤ u) (td : u < (16 : Int32)) (te : u.toNatClampNeg < 16) (k : ∀ h, okD h → Q (some (.inl 0)) h) : PF 9 46 0 [some (.inr (some 0)), some (.inl x), some (.inl y), some (.inl 0), some (.inl 4), some (.inl u), none, none, none] [] hJ Q := by
  sorry
theorem fD_match_II05I {x y u : Int32} {Q : Option MV → List MC → Prop} (pa : ¬ x < 0) (pb : 0 ≤ x) (pc : ¬ (16 : Int32) ≤ x) (pd : x < (16 : Int32)) (pe : x.toNatClampNeg < 16) (qa : ¬ y < 0) (qb : 0 ≤ y) (qc : ¬ (16 : Int32) ≤ y) (qd : y < (16 : Int32)) (qe : y.toNatClampNeg < 16) (ta : ¬ u < 0) (tb : 0 ≤ u) (tc : ¬ (16 : Int32) ≤ u) (td : u < (16 : Int32)) (te : u.toNatClampNeg < 16) (k : ∀ h, okD h → Q (some (.inl 0)) h) : PF 9 46 0 [some (.inr (some 0)), some (.inl x), some (.inl y), some (.inl 0), some (.inl 5), some (.inl u), none, none, none] [] hJ Q := by
  sorry
theorem fD_unifier_IInI {x y z w : Int32} {Q : Option MV → List MC → Prop} (pa : ¬ x < 0) (pb : 0 ≤ x) (pc : ¬ (16 : Int32) ≤ x) (pd : x < (16 : Int32)) (pe : x.toNatClampNeg < 16) (qa : ¬ y < 0) (qb : 0 ≤ y) (qc : ¬ (16 : Int32) ≤ y) (qd : y < (16 : Int32)) (qe : y.toNatClampNeg < 16) (ra : z < 0) (rb : ¬ 0 ≤ z) (rc : ¬ (1 : Int32) ≤ z) (rd : z < (1 : Int32)) (sa : ¬ w < 0) (sb : 0 ≤ w) (sc : ¬ (16 : Int32) ≤ w) (sd : w < (16 : Int32)) (se : w.toNatClampNeg < 16) (k : ∀ h, okD h → Q (some (.inl 0)) h) : PF 9 64 0 [some (.inr (some 0)), some (.inl x), some (.inl y), some (.inl z), some (.inl w), none] [] hJ Q := by
  sorry
theorem fD_unifier_IIbI {x y z w : Int32} {Q : Option MV → List MC → Prop} (pa : ¬ x < 0) (pb : 0 ≤ x) (pc : ¬ (16 : Int32) ≤ x) (pd : x < (16 : Int32)) (pe : x.toNatClampNeg < 16) (qa : ¬ y < 0) (qb : 0 ≤ y) (qc : ¬ (16 : Int32) ≤ y) (qd : y < (16 : Int32)) (qe : y.toNatClampNeg < 16) (ra : ¬ z < 0) (rb : 0 ≤ z) (rc : (1 : Int32) ≤ z) (rd : ¬ z < (1 : Int32)) (sa : ¬ w < 0) (sb : 0 ≤ w) (sc : ¬ (16 : Int32) ≤ w) (sd : w < (16 : Int32)) (se : w.toNatClampNeg < 16) (k : ∀ h, okD h → Q (some (.inl 0)) h) : PF 9 64 0 [some (.inr (some 0)), some (.inl x), some (.inl y), some (.inl z), some (.inl w), none] [] hJ Q := by
  sorry
theorem fD_unifier_II0I {x y w : Int32} {Q : Option MV → List MC → Prop} (pa : ¬ x < 0) (pb : 0 ≤ x) (pc : ¬ (16 : Int32) ≤ x) (pd : x < (16 : Int32)) (pe : x.toNatClampNeg < 16) (qa : ¬ y < 0) (qb : 0 ≤ y) (qc : ¬ (16 : Int32) ≤ y) (qd : y < (16 : Int32)) (qe : y.toNatClampNeg < 16) (sa : ¬ w < 0) (sb : 0 ≤ w) (sc : ¬ (16 : Int32) ≤ w) (sd : w < (16 : Int32)) (se : w.toNatClampNeg < 16) (k : ∀ h, okD h → Q (some (.inl 1)) h) : PF 9 64 0 [some (.inr (some 0)), some (.inl x), some (.inl y), some (.inl 0), some (.inl w), none] [] hJ Q := by
  sorry
theorem fD_greater_II {x y : Int32} {Q : Option MV → List MC → Prop} (pa : ¬ x < 0) (pb : 0 ≤ x) (pc : ¬ (16 : Int32) ≤ x) (pd : x < (16 : Int32)) (pe : x.toNatClampNeg < 16) (qa : ¬ y < 0) (qb : 0 ≤ y) (qc : ¬ (16 : Int32) ≤ y) (qd : y < (16 : Int32)) (qe : y.toNatClampNeg < 16) (k : ∀ h, okD h → Q (some (.inl 0)) h) : PF 9 30 0 [some (.inr (some 0)), some (.inl x), some (.inl y)] [] hJ Q := by
  sorry
theorem fD_matches_II {x y : Int32} {Q : Option MV → List MC → Prop} (pa : ¬ x < 0) (pb : 0 ≤ x) (pc : ¬ (16 : Int32) ≤ x) (pd : x < (16 : Int32)) (pe : x.toNatClampNeg < 16) (qa : ¬ y < 0) (qb : 0 ≤ y) (qc : ¬ (16 : Int32) ≤ y) (qd : y < (16 : Int32)) (qe : y.toNatClampNeg < 16) (k : ∀ h, okD h → Q (some (.inl 1)) h) : PF 9 39 0 [some (.inr (some 0)), some (.inl x), some (.inl y)] [] hJ Q := by
  sorry
theorem fD_reduce_II {x y : Int32} {Q : Option MV → List MC → Prop} (pa : ¬ x < 0) (pb : 0 ≤ x) (pc : ¬ (16 : Int32) ≤ x) (pd : x < (16 : Int32)) (pe : x.toNatClampNeg < 16) (qa : ¬ y < 0) (qb : 0 ≤ y) (qc : ¬ (16 : Int32) ≤ y) (qd : y < (16 : Int32)) (qe : y.toNatClampNeg < 16) (k : ∀ h, okD h → Q (some (.inl 1)) h) : PF 9 90 0 [some (.inr (some 0)), some (.inl x), some (.inl y), none] [] hJ Q := by
  sorry
theorem fD_prove_II {x y : Int32} {Q : Option MV → List MC → Prop} (pa : ¬ x < 0) (pb : 0 ≤ x) (pc : ¬ (16 : Int32) ≤ x) (pd : x < (16 : Int32)) (pe : x.toNatClampNeg < 16) (qa : ¬ y < 0) (qb : 0 ≤ y) (qc : ¬ (16 : Int32) ≤ y) (qd : y < (16 : Int32)) (qe : y.toNatClampNeg < 16) (k : ∀ h, okD h → Q (some (.inl 1)) h) : PF 9 91 0 [some (.inr (some 0)), some (.inl x), some (.inl y), none, none] [] hJ Q := by
  sorry
theorem fD_unifiers_II {x y : Int32} {Q : Option MV → List MC → Prop} (pa : ¬ x < 0) (pb : 0 ≤ x) (pc : ¬ (16 : Int32) ≤ x) (pd : x < (16 : Int32)) (pe : x.toNatClampNeg < 16) (qa : ¬ y < 0) (qb : 0 ≤ y) (qc : ¬ (16 : Int32) ≤ y) (qd : y < (16 : Int32)) (qe : y.toNatClampNeg < 16) (k : ∀ h, okD h → Q (some (.inl 1)) h) : PF 9 51 0 [some (.inr (some 0)), some (.inl x), some (.inl y)] [] hJ Q := by
  sorry
theorem fD_equation_II {x y : Int32} {Q : Option MV → List MC → Prop} (pa : ¬ x < 0) (pb : 0 ≤ x) (pc : ¬ (16 : Int32) ≤ x) (pd : x < (16 : Int32)) (pe : x.toNatClampNeg < 16) (qa : ¬ y < 0) (qb : 0 ≤ y) (qc : ¬ (16 : Int32) ≤ y) (qd : y < (16 : Int32)) (qe : y.toNatClampNeg < 16) (k : ∀ h, okD h → Q (some (.inl 1)) h) : PF 9 66 0 [some (.inr (some 0)), some (.inl x), some (.inl y)] [] hJ Q := by
  sorry
theorem fM_symbol_n0 {x : Int32} {Q : Option MV → List MC → Prop} (pa : x < 0) (pb : ¬ 0 ≤ x) (pc : ¬ (3 : Int32) ≤ x) (pd : x < (3 : Int32)) (k : ∀ h, okM h → Q (some (.inl (-1))) h) : PF 9 93 0 [some (.inr (some 0)), some (.inl x), some (.inl 0)] [] hM Q := by
  sorry
theorem fM_symbol_b0 {x : Int32} {Q : Option MV → List MC → Prop} (pa : ¬ x < 0) (pb : 0 ≤ x) (pc : (3 : Int32) ≤ x) (pd : ¬ x < (3 : Int32)) (pe : (2 : Int32) < x) (k : ∀ h, okM h → Q (some (.inl (-1))) h) : PF 9 93 0 [some (.inr (some 0)), some (.inl x), some (.inl 0)] [] hM Q := by
  sorry
theorem fM_symbol_00 {Q : Option MV → List MC → Prop} (k : ∀ h, okM h → Q (some (.inl 0)) h) : PF 9 93 0 [some (.inr (some 0)), some (.inl 0), some (.inl 0)] [] hM Q := by
  sorry
theorem fM_symbol_10 {Q : Option MV → List MC → Prop} (k : ∀ h, okM h → Q (some (.inl 0)) h) : PF 9 93 0 [some (.inr (some 0)), some (.inl 1), some (.inl 0)] [] hM Q := by
  sorry
theorem fM_symbol_20 {Q : Option MV → List MC → Prop} (k : ∀ h, okM h → Q (some (.inl 0)) h) : PF 9 93 0 [some (.inr (some 0)), some (.inl 2), some (.inl 0)] [] hM Q := by
  sorry
theorem fM_symbol_n1 {x : Int32} {Q : Option MV → List MC → Prop} (pa : x < 0) (pb : ¬ 0 ≤ x) (pc : ¬ (3 : Int32) ≤ x) (pd : x < (3 : Int32)) (k : ∀ h, okM h → Q (some (.inl (-1))) h) : PF 9 93 0 [some (.inr (some 0)), some (.inl x), some (.inl 1)] [] hM Q := by
  sorry
theorem fM_symbol_b1 {x : Int32} {Q : Option MV → List MC → Prop} (pa : ¬ x < 0) (pb : 0 ≤ x) (pc : (3 : Int32) ≤ x) (pd : ¬ x < (3 : Int32)) (pe : (2 : Int32) < x) (k : ∀ h, okM h → Q (some (.inl (-1))) h) : PF 9 93 0 [some (.inr (some 0)), some (.inl x), some (.inl 1)] [] hM Q := by
  sorry
theorem fM_symbol_01 {Q : Option MV → List MC → Prop} (k : ∀ h, okM h → Q (some (.inl (-1))) h) : PF 9 93 0 [some (.inr (some 0)), some (.inl 0), some (.inl 1)] [] hM Q := by
  sorry
theorem fM_symbol_11 {Q : Option MV → List MC → Prop} (k : ∀ h, okM h → Q (some (.inl (-1))) h) : PF 9 93 0 [some (.inr (some 0)), some (.inl 1), some (.inl 1)] [] hM Q := by
  sorry
theorem fM_symbol_21 {Q : Option MV → List MC → Prop} (k : ∀ h, okM h → Q (some (.inl 0)) h) : PF 9 93 0 [some (.inr (some 0)), some (.inl 2), some (.inl 1)] [] hM Q := by
  sorry
theorem fM_variable_n {x y : Int32} {Q : Option MV → List MC → Prop} (pa : x < 0) (pb : ¬ 0 ≤ x) (pc : ¬ (16 : Int32) ≤ x) (pd : x < (16 : Int32)) (k : ∀ h, okM h → Q (some (.inl 0)) h) : PF 9 94 0 [some (.inr (some 0)), some (.inl x), some (.inl y)] [] hM Q := by
  sorry
theorem fM_variable_b {x y : Int32} {Q : Option MV → List MC → Prop} (pa : ¬ x < 0) (pb : 0 ≤ x) (pc : (16 : Int32) ≤ x) (pd : ¬ x < (16 : Int32)) (k : ∀ h, okM h → Q (some (.inl 0)) h) : PF 9 94 0 [some (.inr (some 0)), some (.inl x), some (.inl y)] [] hM Q := by
  sorry
theorem fM_variable_In {x y : Int32} {Q : Option MV → List MC → Prop} (pa : ¬ x < 0) (pb : 0 ≤ x) (pc : ¬ (16 : Int32) ≤ x) (pd : x < (16 : Int32)) (pe : x.toNatClampNeg < 16) (qa : y < 0) (qb : ¬ 0 ≤ y) (qc : ¬ (6 : Int32) ≤ y) (qd : y < (6 : Int32)) (k : ∀ h, okM h → Q (some (.inl 0)) h) : PF 9 94 0 [some (.inr (some 0)), some (.inl x), some (.inl y)] [] hM Q := by
  sorry
theorem fM_variable_Ib {x y : Int32} {Q : Option MV → List MC → Prop} (pa : ¬ x < 0) (pb : 0 ≤ x) (pc : ¬ (16 : Int32) ≤ x) (pd : x < (16 : Int32)) (pe : x.toNatClampNeg < 16) (qa : ¬ y < 0) (qb : 0 ≤ y) (qc : (6 : Int32) ≤ y) (qd : ¬ y < (6 : Int32)) (k : ∀ h, okM h → Q (some (.inl 0)) h) : PF 9 94 0 [some (.inr (some 0)), some (.inl x), some (.inl y)] [] hM Q := by
  sorry
theorem fM_variable_II {x y : Int32} {Q : Option MV → List MC → Prop} (pa : ¬ x < 0) (pb : 0 ≤ x) (pc : ¬ (16 : Int32) ≤ x) (pd : x < (16 : Int32)) (pe : x.toNatClampNeg < 16) (qa : ¬ y < 0) (qb : 0 ≤ y) (qc : ¬ (6 : Int32) ≤ y) (qd : y < (6 : Int32)) (k : ∀ h, okM h → Q (some (.inl 1)) h) : PF 9 94 0 [some (.inr (some 0)), some (.inl x), some (.inl y)] [] hM Q := by
  sorry
theorem fM_term_n {x y z w : Int32} {Q : Option MV → List MC → Prop} (pa : x < 0) (pb : ¬ 0 ≤ x) (pc : ¬ (16 : Int32) ≤ x) (pd : x < (16 : Int32)) (k : ∀ h, okM h → Q (some (.inl 0)) h) : PF 9 96 0 [some (.inr (some 0)), some (.inl x), some (.inl y), some (.inl z), some (.inl w), none, none, none] [] hM Q := by
  sorry
theorem fM_term_b {x y z w : Int32} {Q : Option MV → List MC → Prop} (pa : ¬ x < 0) (pb : 0 ≤ x) (pc : (16 : Int32) ≤ x) (pd : ¬ x < (16 : Int32)) (k : ∀ h, okM h → Q (some (.inl 0)) h) : PF 9 96 0 [some (.inr (some 0)), some (.inl x), some (.inl y), some (.inl z), some (.inl w), none, none, none] [] hM Q := by
  sorry
theorem fM_term_In {x y z w : Int32} {Q : Option MV → List MC → Prop} (pa : ¬ x < 0) (pb : 0 ≤ x) (pc : ¬ (16 : Int32) ≤ x) (pd : x < (16 : Int32)) (pe : x.toNatClampNeg < 16) (qa : y < 0) (qb : ¬ 0 ≤ y) (qc : ¬ (0 : Int32) ≤ y) (qd : y < (0 : Int32)) (k : ∀ h, okM h → Q (some (.inl 0)) h) : PF 9 96 0 [some (.inr (some 0)), some (.inl x), some (.inl y), some (.inl z), some (.inl w), none, none, none] [] hM Q := by
  sorry
theorem fM_term_Ib {x y z w : Int32} {Q : Option MV → List MC → Prop} (pa : ¬ x < 0) (pb : 0 ≤ x) (pc : ¬ (16 : Int32) ≤ x) (pd : x < (16 : Int32)) (pe : x.toNatClampNeg < 16) (qa : ¬ y < 0) (qb : 0 ≤ y) (qc : (0 : Int32) ≤ y) (qd : ¬ y < (0 : Int32)) (k : ∀ h, okM h → Q (some (.inl 0)) h) : PF 9 96 0 [some (.inr (some 0)), some (.inl x), some (.inl y), some (.inl z), some (.inl w), none, none, none] [] hM Q := by
  sorry
theorem fM_size_n {x : Int32} {Q : Option MV → List MC → Prop} (pa : x < 0) (pb : ¬ 0 ≤ x) (pc : ¬ (16 : Int32) ≤ x) (pd : x < (16 : Int32)) (k : ∀ h, okM h → Q (some (.inl (-1))) h) : PF 9 100 0 [some (.inr (some 0)), some (.inl x)] [] hM Q := by
  sorry
theorem fM_size_b {x : Int32} {Q : Option MV → List MC → Prop} (pa : ¬ x < 0) (pb : 0 ≤ x) (pc : (16 : Int32) ≤ x) (pd : ¬ x < (16 : Int32)) (k : ∀ h, okM h → Q (some (.inl (-1))) h) : PF 9 100 0 [some (.inr (some 0)), some (.inl x)] [] hM Q := by
  sorry
theorem fM_size_I {x : Int32} {Q : Option MV → List MC → Prop} (pa : ¬ x < 0) (pb : 0 ≤ x) (pc : ¬ (16 : Int32) ≤ x) (pd : x < (16 : Int32)) (pe : x.toNatClampNeg < 16) (k : ∀ h, okM h → Q (some (.inl 1)) h) : PF 9 100 0 [some (.inr (some 0)), some (.inl x)] [] hM Q := by
  sorry
theorem fM_node_n {x y : Int32} {Q : Option MV → List MC → Prop} (pa : x < 0) (pb : ¬ 0 ≤ x) (pc : ¬ (16 : Int32) ≤ x) (pd : x < (16 : Int32)) (k : ∀ h, okM h → Q (some (.inl (-1))) h) : PF 9 101 0 [some (.inr (some 0)), some (.inl x), some (.inl y)] [] hM Q := by
  sorry
theorem fM_node_b {x y : Int32} {Q : Option MV → List MC → Prop} (pa : ¬ x < 0) (pb : 0 ≤ x) (pc : (16 : Int32) ≤ x) (pd : ¬ x < (16 : Int32)) (k : ∀ h, okM h → Q (some (.inl (-1))) h) : PF 9 101 0 [some (.inr (some 0)), some (.inl x), some (.inl y)] [] hM Q := by
  sorry
theorem fM_node_In {x y : Int32} {Q : Option MV → List MC → Prop} (pa : ¬ x < 0) (pb : 0 ≤ x) (pc : ¬ (16 : Int32) ≤ x) (pd : x < (16 : Int32)) (pe : x.toNatClampNeg < 16) (qa : y < 0) (qb : ¬ 0 ≤ y) (qc : ¬ (1 : Int32) ≤ y) (qd : y < (1 : Int32)) (k : ∀ h, okM h → Q (some (.inl (-1))) h) : PF 9 101 0 [some (.inr (some 0)), some (.inl x), some (.inl y)] [] hM Q := by
  sorry
theorem fM_node_Ib {x y : Int32} {Q : Option MV → List MC → Prop} (pa : ¬ x < 0) (pb : 0 ≤ x) (pc : ¬ (16 : Int32) ≤ x) (pd : x < (16 : Int32)) (pe : x.toNatClampNeg < 16) (qa : ¬ y < 0) (qb : 0 ≤ y) (qc : (1 : Int32) ≤ y) (qd : ¬ y < (1 : Int32)) (k : ∀ h, okM h → Q (some (.inl (-1))) h) : PF 9 101 0 [some (.inr (some 0)), some (.inl x), some (.inl y)] [] hM Q := by
  sorry
theorem fM_node_I0 {x : Int32} {Q : Option MV → List MC → Prop} (pa : ¬ x < 0) (pb : 0 ≤ x) (pc : ¬ (16 : Int32) ≤ x) (pd : x < (16 : Int32)) (pe : x.toNatClampNeg < 16) (k : ∀ h, okM h → Q (some (.inl 100)) h) : PF 9 101 0 [some (.inr (some 0)), some (.inl x), some (.inl 0)] [] hM Q := by
  sorry
theorem fM_same_n {x y : Int32} {Q : Option MV → List MC → Prop} (pa : x < 0) (pb : ¬ 0 ≤ x) (pc : ¬ (16 : Int32) ≤ x) (pd : x < (16 : Int32)) (k : ∀ h, okM h → Q (some (.inl 0)) h) : PF 9 102 0 [some (.inr (some 0)), some (.inl x), some (.inl y)] [] hM Q := by
  sorry
theorem fM_same_b {x y : Int32} {Q : Option MV → List MC → Prop} (pa : ¬ x < 0) (pb : 0 ≤ x) (pc : (16 : Int32) ≤ x) (pd : ¬ x < (16 : Int32)) (k : ∀ h, okM h → Q (some (.inl 0)) h) : PF 9 102 0 [some (.inr (some 0)), some (.inl x), some (.inl y)] [] hM Q := by
  sorry
theorem fM_same_In {x y : Int32} {Q : Option MV → List MC → Prop} (pa : ¬ x < 0) (pb : 0 ≤ x) (pc : ¬ (16 : Int32) ≤ x) (pd : x < (16 : Int32)) (pe : x.toNatClampNeg < 16) (qa : y < 0) (qb : ¬ 0 ≤ y) (qc : ¬ (16 : Int32) ≤ y) (qd : y < (16 : Int32)) (k : ∀ h, okM h → Q (some (.inl 0)) h) : PF 9 102 0 [some (.inr (some 0)), some (.inl x), some (.inl y)] [] hM Q := by
  sorry
theorem fM_same_Ib {x y : Int32} {Q : Option MV → List MC → Prop} (pa : ¬ x < 0) (pb : 0 ≤ x) (pc : ¬ (16 : Int32) ≤ x) (pd : x < (16 : Int32)) (pe : x.toNatClampNeg < 16) (qa : ¬ y < 0) (qb : 0 ≤ y) (qc : (16 : Int32) ≤ y) (qd : ¬ y < (16 : Int32)) (k : ∀ h, okM h → Q (some (.inl 0)) h) : PF 9 102 0 [some (.inr (some 0)), some (.inl x), some (.inl y)] [] hM Q := by
  sorry
theorem fM_same_II {x y : Int32} {Q : Option MV → List MC → Prop} (pa : ¬ x < 0) (pb : 0 ≤ x) (pc : ¬ (16 : Int32) ≤ x) (pd : x < (16 : Int32)) (pe : x.toNatClampNeg < 16) (qa : ¬ y < 0) (qb : 0 ≤ y) (qc : ¬ (16 : Int32) ≤ y) (qd : y < (16 : Int32)) (qe : y.toNatClampNeg < 16) (k : ∀ h, okM h → Q (some (.inl 1)) h) : PF 9 102 0 [some (.inr (some 0)), some (.inl x), some (.inl y)] [] hM Q := by
  sorry
theorem fM_greater_n {x y : Int32} {Q : Option MV → List MC → Prop} (pa : x < 0) (pb : ¬ 0 ≤ x) (pc : ¬ (16 : Int32) ≤ x) (pd : x < (16 : Int32)) (k : ∀ h, okM h → Q (some (.inl 0)) h) : PF 9 104 0 [some (.inr (some 0)), some (.inl x), some (.inl y)] [] hM Q := by
  sorry
theorem fM_greater_b {x y : Int32} {Q : Option MV → List MC → Prop} (pa : ¬ x < 0) (pb : 0 ≤ x) (pc : (16 : Int32) ≤ x) (pd : ¬ x < (16 : Int32)) (k : ∀ h, okM h → Q (some (.inl 0)) h) : PF 9 104 0 [some (.inr (some 0)), some (.inl x), some (.inl y)] [] hM Q := by
  sorry
theorem fM_greater_In {x y : Int32} {Q : Option MV → List MC → Prop} (pa : ¬ x < 0) (pb : 0 ≤ x) (pc : ¬ (16 : Int32) ≤ x) (pd : x < (16 : Int32)) (pe : x.toNatClampNeg < 16) (qa : y < 0) (qb : ¬ 0 ≤ y) (qc : ¬ (16 : Int32) ≤ y) (qd : y < (16 : Int32)) (k : ∀ h, okM h → Q (some (.inl 0)) h) : PF 9 104 0 [some (.inr (some 0)), some (.inl x), some (.inl y)] [] hM Q := by
  sorry
theorem fM_greater_Ib {x y : Int32} {Q : Option MV → List MC → Prop} (pa : ¬ x < 0) (pb : 0 ≤ x) (pc : ¬ (16 : Int32) ≤ x) (pd : x < (16 : Int32)) (pe : x.toNatClampNeg < 16) (qa : ¬ y < 0) (qb : 0 ≤ y) (qc : (16 : Int32) ≤ y) (qd : ¬ y < (16 : Int32)) (k : ∀ h, okM h → Q (some (.inl 0)) h) : PF 9 104 0 [some (.inr (some 0)), some (.inl x), some (.inl y)] [] hM Q := by
  sorry
theorem fM_matches_n {x y : Int32} {Q : Option MV → List MC → Prop} (pa : x < 0) (pb : ¬ 0 ≤ x) (pc : ¬ (16 : Int32) ≤ x) (pd : x < (16 : Int32)) (k : ∀ h, okM h → Q (some (.inl (-1))) h) : PF 9 111 0 [some (.inr (some 0)), some (.inl x), some (.inl y)] [] hM Q := by
  sorry
theorem fM_matches_b {x y : Int32} {Q : Option MV → List MC → Prop} (pa : ¬ x < 0) (pb : 0 ≤ x) (pc : (16 : Int32) ≤ x) (pd : ¬ x < (16 : Int32)) (k : ∀ h, okM h → Q (some (.inl (-1))) h) : PF 9 111 0 [some (.inr (some 0)), some (.inl x), some (.inl y)] [] hM Q := by
  sorry
theorem fM_matches_In {x y : Int32} {Q : Option MV → List MC → Prop} (pa : ¬ x < 0) (pb : 0 ≤ x) (pc : ¬ (16 : Int32) ≤ x) (pd : x < (16 : Int32)) (pe : x.toNatClampNeg < 16) (qa : y < 0) (qb : ¬ 0 ≤ y) (qc : ¬ (16 : Int32) ≤ y) (qd : y < (16 : Int32)) (k : ∀ h, okM h → Q (some (.inl (-1))) h) : PF 9 111 0 [some (.inr (some 0)), some (.inl x), some (.inl y)] [] hM Q := by
  sorry
theorem fM_matches_Ib {x y : Int32} {Q : Option MV → List MC → Prop} (pa : ¬ x < 0) (pb : 0 ≤ x) (pc : ¬ (16 : Int32) ≤ x) (pd : x < (16 : Int32)) (pe : x.toNatClampNeg < 16) (qa : ¬ y < 0) (qb : 0 ≤ y) (qc : (16 : Int32) ≤ y) (qd : ¬ y < (16 : Int32)) (k : ∀ h, okM h → Q (some (.inl (-1))) h) : PF 9 111 0 [some (.inr (some 0)), some (.inl x), some (.inl y)] [] hM Q := by
  sorry
theorem fM_unifiers_n {x y : Int32} {Q : Option MV → List MC → Prop} (pa : x < 0) (pb : ¬ 0 ≤ x) (pc : ¬ (16 : Int32) ≤ x) (pd : x < (16 : Int32)) (k : ∀ h, okM h → Q (some (.inl (-1))) h) : PF 9 118 0 [some (.inr (some 0)), some (.inl x), some (.inl y)] [] hM Q := by
  sorry
theorem fM_unifiers_b {x y : Int32} {Q : Option MV → List MC → Prop} (pa : ¬ x < 0) (pb : 0 ≤ x) (pc : (16 : Int32) ≤ x) (pd : ¬ x < (16 : Int32)) (k : ∀ h, okM h → Q (some (.inl (-1))) h) : PF 9 118 0 [some (.inr (some 0)), some (.inl x), some (.inl y)] [] hM Q := by
  sorry
theorem fM_unifiers_In {x y : Int32} {Q : Option MV → List MC → Prop} (pa : ¬ x < 0) (pb : 0 ≤ x) (pc : ¬ (16 : Int32) ≤ x) (pd : x < (16 : Int32)) (pe : x.toNatClampNeg < 16) (qa : y < 0) (qb : ¬ 0 ≤ y) (qc : ¬ (16 : Int32) ≤ y) (qd : y < (16 : Int32)) (k : ∀ h, okM h → Q (some (.inl (-1))) h) : PF 9 118 0 [some (.inr (some 0)), some (.inl x), some (.inl y)] [] hM Q := by
  sorry
theorem fM_unifiers_Ib {x y : Int32} {Q : Option MV → List MC → Prop} (pa : ¬ x < 0) (pb : 0 ≤ x) (pc : ¬ (16 : Int32) ≤ x) (pd : x < (16 : Int32)) (pe : x.toNatClampNeg < 16) (qa : ¬ y < 0) (qb : 0 ≤ y) (qc : (16 : Int32) ≤ y) (qd : ¬ y < (16 : Int32)) (k : ∀ h, okM h → Q (some (.inl (-1))) h) : PF 9 118 0 [some (.inr (some 0)), some (.inl x), some (.inl y)] [] hM Q := by
  sorry
theorem fM_equation_n {x y : Int32} {Q : Option MV → List MC → Prop} (pa : x < 0) (pb : ¬ 0 ≤ x) (pc : ¬ (16 : Int32) ≤ x) (pd : x < (16 : Int32)) (k : ∀ h, okM h → Q (some (.inl 0)) h) : PF 9 125 0 [some (.inr (some 0)), some (.inl x), some (.inl y)] [] hM Q := by
  sorry
theorem fM_equation_b {x y : Int32} {Q : Option MV → List MC → Prop} (pa : ¬ x < 0) (pb : 0 ≤ x) (pc : (16 : Int32) ≤ x) (pd : ¬ x < (16 : Int32)) (k : ∀ h, okM h → Q (some (.inl 0)) h) : PF 9 125 0 [some (.inr (some 0)), some (.inl x), some (.inl y)] [] hM Q := by
  sorry
theorem fM_equation_In {x y : Int32} {Q : Option MV → List MC → Prop} (pa : ¬ x < 0) (pb : 0 ≤ x) (pc : ¬ (16 : Int32) ≤ x) (pd : x < (16 : Int32)) (pe : x.toNatClampNeg < 16) (qa : y < 0) (qb : ¬ 0 ≤ y) (qc : ¬ (16 : Int32) ≤ y) (qd : y < (16 : Int32)) (k : ∀ h, okM h → Q (some (.inl 0)) h) : PF 9 125 0 [some (.inr (some 0)), some (.inl x), some (.inl y)] [] hM Q := by
  sorry
theorem fM_equation_Ib {x y : Int32} {Q : Option MV → List MC → Prop} (pa : ¬ x < 0) (pb : 0 ≤ x) (pc : ¬ (16 : Int32) ≤ x) (pd : x < (16 : Int32)) (pe : x.toNatClampNeg < 16) (qa : ¬ y < 0) (qb : 0 ≤ y) (qc : (16 : Int32) ≤ y) (qd : ¬ y < (16 : Int32)) (k : ∀ h, okM h → Q (some (.inl 0)) h) : PF 9 125 0 [some (.inr (some 0)), some (.inl x), some (.inl y)] [] hM Q := by
  sorry
theorem fM_reduce_n {x y : Int32} {Q : Option MV → List MC → Prop} (pa : x < 0) (pb : ¬ 0 ≤ x) (pc : ¬ (16 : Int32) ≤ x) (pd : x < (16 : Int32)) (k : ∀ h, okM h → Q (some (.inl 0)) h) : PF 9 145 0 [some (.inr (some 0)), some (.inl x), some (.inl y), none] [] hM Q := by
  sorry
theorem fM_reduce_b {x y : Int32} {Q : Option MV → List MC → Prop} (pa : ¬ x < 0) (pb : 0 ≤ x) (pc : (16 : Int32) ≤ x) (pd : ¬ x < (16 : Int32)) (k : ∀ h, okM h → Q (some (.inl 0)) h) : PF 9 145 0 [some (.inr (some 0)), some (.inl x), some (.inl y), none] [] hM Q := by
  sorry
theorem fM_reduce_In {x y : Int32} {Q : Option MV → List MC → Prop} (pa : ¬ x < 0) (pb : 0 ≤ x) (pc : ¬ (16 : Int32) ≤ x) (pd : x < (16 : Int32)) (pe : x.toNatClampNeg < 16) (qa : y < 0) (qb : ¬ 0 ≤ y) (qc : ¬ (16 : Int32) ≤ y) (qd : y < (16 : Int32)) (k : ∀ h, okM h → Q (some (.inl 0)) h) : PF 9 145 0 [some (.inr (some 0)), some (.inl x), some (.inl y), none] [] hM Q := by
  sorry
theorem fM_reduce_Ib {x y : Int32} {Q : Option MV → List MC → Prop} (pa : ¬ x < 0) (pb : 0 ≤ x) (pc : ¬ (16 : Int32) ≤ x) (pd : x < (16 : Int32)) (pe : x.toNatClampNeg < 16) (qa : ¬ y < 0) (qb : 0 ≤ y) (qc : (16 : Int32) ≤ y) (qd : ¬ y < (16 : Int32)) (k : ∀ h, okM h → Q (some (.inl 0)) h) : PF 9 145 0 [some (.inr (some 0)), some (.inl x), some (.inl y), none] [] hM Q := by
  sorry
theorem fM_prove_n {x y : Int32} {Q : Option MV → List MC → Prop} (pa : x < 0) (pb : ¬ 0 ≤ x) (pc : ¬ (16 : Int32) ≤ x) (pd : x < (16 : Int32)) (k : ∀ h, okM h → Q (some (.inl (-1))) h) : PF 9 146 0 [some (.inr (some 0)), some (.inl x), some (.inl y), none, none] [] hM Q := by
  sorry
theorem fM_prove_b {x y : Int32} {Q : Option MV → List MC → Prop} (pa : ¬ x < 0) (pb : 0 ≤ x) (pc : (16 : Int32) ≤ x) (pd : ¬ x < (16 : Int32)) (k : ∀ h, okM h → Q (some (.inl (-1))) h) : PF 9 146 0 [some (.inr (some 0)), some (.inl x), some (.inl y), none, none] [] hM Q := by
  sorry
theorem fM_prove_In {x y : Int32} {Q : Option MV → List MC → Prop} (pa : ¬ x < 0) (pb : 0 ≤ x) (pc : ¬ (16 : Int32) ≤ x) (pd : x < (16 : Int32)) (pe : x.toNatClampNeg < 16) (qa : y < 0) (qb : ¬ 0 ≤ y) (qc : ¬ (16 : Int32) ≤ y) (qd : y < (16 : Int32)) (k : ∀ h, okM h → Q (some (.inl (-1))) h) : PF 9 146 0 [some (.inr (some 0)), some (.inl x), some (.inl y), none, none] [] hM Q := by
  sorry
theorem fM_prove_Ib {x y : Int32} {Q : Option MV → List MC → Prop} (pa : ¬ x < 0) (pb : 0 ≤ x) (pc : ¬ (16 : Int32) ≤ x) (pd : x < (16 : Int32)) (pe : x.toNatClampNeg < 16) (qa : ¬ y < 0) (qb : 0 ≤ y) (qc : (16 : Int32) ≤ y) (qd : ¬ y < (16 : Int32)) (k : ∀ h, okM h → Q (some (.inl (-1))) h) : PF 9 146 0 [some (.inr (some 0)), some (.inl x), some (.inl y), none, none] [] hM Q := by
  sorry
theorem fM_match_n {x y z w u : Int32} {Q : Option MV → List MC → Prop} (pa : x < 0) (pb : ¬ 0 ≤ x) (pc : ¬ (16 : Int32) ≤ x) (pd : x < (16 : Int32)) (k : ∀ h, okM h → Q (some (.inl 0)) h) : PF 9 117 0 [some (.inr (some 0)), some (.inl x), some (.inl y), some (.inl z), some (.inl w), some (.inl u)] [] hM Q := by
  sorry
theorem fM_match_b {x y z w u : Int32} {Q : Option MV → List MC → Prop} (pa : ¬ x < 0) (pb : 0 ≤ x) (pc : (16 : Int32) ≤ x) (pd : ¬ x < (16 : Int32)) (k : ∀ h, okM h → Q (some (.inl 0)) h) : PF 9 117 0 [some (.inr (some 0)), some (.inl x), some (.inl y), some (.inl z), some (.inl w), some (.inl u)] [] hM Q := by
  sorry
theorem fM_match_In {x y z w u : Int32} {Q : Option MV → List MC → Prop} (pa : ¬ x < 0) (pb : 0 ≤ x) (pc : ¬ (16 : Int32) ≤ x) (pd : x < (16 : Int32)) (pe : x.toNatClampNeg < 16) (qa : y < 0) (qb : ¬ 0 ≤ y) (qc : ¬ (16 : Int32) ≤ y) (qd : y < (16 : Int32)) (k : ∀ h, okM h → Q (some (.inl 0)) h) : PF 9 117 0 [some (.inr (some 0)), some (.inl x), some (.inl y), some (.inl z), some (.inl w), some (.inl u)] [] hM Q := by
  sorry
theorem fM_match_Ib {x y z w u : Int32} {Q : Option MV → List MC → Prop} (pa : ¬ x < 0) (pb : 0 ≤ x) (pc : ¬ (16 : Int32) ≤ x) (pd : x < (16 : Int32)) (pe : x.toNatClampNeg < 16) (qa : ¬ y < 0) (qb : 0 ≤ y) (qc : (16 : Int32) ≤ y) (qd : ¬ y < (16 : Int32)) (k : ∀ h, okM h → Q (some (.inl 0)) h) : PF 9 117 0 [some (.inr (some 0)), some (.inl x), some (.inl y), some (.inl z), some (.inl w), some (.inl u)] [] hM Q := by
  sorry
theorem fM_match_IInn {x y z w u : Int32} {Q : Option MV → List MC → Prop} (pa : ¬ x < 0) (pb : 0 ≤ x) (pc : ¬ (16 : Int32) ≤ x) (pd : x < (16 : Int32)) (pe : x.toNatClampNeg < 16) (qa : ¬ y < 0) (qb : 0 ≤ y) (qc : ¬ (16 : Int32) ≤ y) (qd : y < (16 : Int32)) (qe : y.toNatClampNeg < 16) (sa : w < 0) (sb : ¬ 0 ≤ w) (sc : ¬ (6 : Int32) ≤ w) (sd : w < (6 : Int32)) (ta : u < 0) (tb : ¬ 0 ≤ u) (tc : ¬ (16 : Int32) ≤ u) (td : u < (16 : Int32)) (k : ∀ h, okM h → Q (some (.inl 0)) h) : PF 9 117 0 [some (.inr (some 0)), some (.inl x), some (.inl y), some (.inl z), some (.inl w), some (.inl u)] [] hM Q := by
  sorry
theorem fM_match_IInb {x y z w u : Int32} {Q : Option MV → List MC → Prop} (pa : ¬ x < 0) (pb : 0 ≤ x) (pc : ¬ (16 : Int32) ≤ x) (pd : x < (16 : Int32)) (pe : x.toNatClampNeg < 16) (qa : ¬ y < 0) (qb : 0 ≤ y) (qc : ¬ (16 : Int32) ≤ y) (qd : y < (16 : Int32)) (qe : y.toNatClampNeg < 16) (sa : w < 0) (sb : ¬ 0 ≤ w) (sc : ¬ (6 : Int32) ≤ w) (sd : w < (6 : Int32)) (ta : ¬ u < 0) (tb : 0 ≤ u) (tc : (16 : Int32) ≤ u) (td : ¬ u < (16 : Int32)) (k : ∀ h, okM h → Q (some (.inl 0)) h) : PF 9 117 0 [some (.inr (some 0)), some (.inl x), some (.inl y), some (.inl z), some (.inl w), some (.inl u)] [] hM Q := by
  sorry
theorem fM_match_IIni {x y z w u : Int32} {Q : Option MV → List MC → Prop} (pa : ¬ x < 0) (pb : 0 ≤ x) (pc : ¬ (16 : Int32) ≤ x) (pd : x < (16 : Int32)) (pe : x.toNatClampNeg < 16) (qa : ¬ y < 0) (qb : 0 ≤ y) (qc : ¬ (16 : Int32) ≤ y) (qd : y < (16 : Int32)) (qe : y.toNatClampNeg < 16) (sa : w < 0) (sb : ¬ 0 ≤ w) (sc : ¬ (6 : Int32) ≤ w) (sd : w < (6 : Int32)) (ta : ¬ u < 0) (tb : 0 ≤ u) (tc : ¬ (16 : Int32) ≤ u) (td : u < (16 : Int32)) (te : u.toNatClampNeg < 16) (k : ∀ h, okM h → Q (some (.inl 0)) h) : PF 9 117 0 [some (.inr (some 0)), some (.inl x), some (.inl y), some (.inl z), some (.inl w), some (.inl u)] [] hM Q := by
  sorry
theorem fM_match_IIbn {x y z w u : Int32} {Q : Option MV → List MC → Prop} (pa : ¬ x < 0) (pb : 0 ≤ x) (pc : ¬ (16 : Int32) ≤ x) (pd : x < (16 : Int32)) (pe : x.toNatClampNeg < 16) (qa : ¬ y < 0) (qb : 0 ≤ y) (qc : ¬ (16 : Int32) ≤ y) (qd : y < (16 : Int32)) (qe : y.toNatClampNeg < 16) (sa : ¬ w < 0) (sb : 0 ≤ w) (sc : (6 : Int32) ≤ w) (sd : ¬ w < (6 : Int32)) (ta : u < 0) (tb : ¬ 0 ≤ u) (tc : ¬ (16 : Int32) ≤ u) (td : u < (16 : Int32)) (k : ∀ h, okM h → Q (some (.inl 0)) h) : PF 9 117 0 [some (.inr (some 0)), some (.inl x), some (.inl y), some (.inl z), some (.inl w), some (.inl u)] [] hM Q := by
  sorry
theorem fM_match_IIbb {x y z w u : Int32} {Q : Option MV → List MC → Prop} (pa : ¬ x < 0) (pb : 0 ≤ x) (pc : ¬ (16 : Int32) ≤ x) (pd : x < (16 : Int32)) (pe : x.toNatClampNeg < 16) (qa : ¬ y < 0) (qb : 0 ≤ y) (qc : ¬ (16 : Int32) ≤ y) (qd : y < (16 : Int32)) (qe : y.toNatClampNeg < 16) (sa : ¬ w < 0) (sb : 0 ≤ w) (sc : (6 : Int32) ≤ w) (sd : ¬ w < (6 : Int32)) (ta : ¬ u < 0) (tb : 0 ≤ u) (tc : (16 : Int32) ≤ u) (td : ¬ u < (16 : Int32)) (k : ∀ h, okM h → Q (some (.inl 0)) h) : PF 9 117 0 [some (.inr (some 0)), some (.inl x), some (.inl y), some (.inl z), some (.inl w), some (.inl u)] [] hM Q := by
  sorry
theorem fM_match_IIbi {x y z w u : Int32} {Q : Option MV → List MC → Prop} (pa : ¬ x < 0) (pb : 0 ≤ x) (pc : ¬ (16 : Int32) ≤ x) (pd : x < (16 : Int32)) (pe : x.toNatClampNeg < 16) (qa : ¬ y < 0) (qb : 0 ≤ y) (qc : ¬ (16 : Int32) ≤ y) (qd : y < (16 : Int32)) (qe : y.toNatClampNeg < 16) (sa : ¬ w < 0) (sb : 0 ≤ w) (sc : (6 : Int32) ≤ w) (sd : ¬ w < (6 : Int32)) (ta : ¬ u < 0) (tb : 0 ≤ u) (tc : ¬ (16 : Int32) ≤ u) (td : u < (16 : Int32)) (te : u.toNatClampNeg < 16) (k : ∀ h, okM h → Q (some (.inl 0)) h) : PF 9 117 0 [some (.inr (some 0)), some (.inl x), some (.inl y), some (.inl z), some (.inl w), some (.inl u)] [] hM Q := by
  sorry
theorem fM_match_IIin {x y z w u : Int32} {Q : Option MV → List MC → Prop} (pa : ¬ x < 0) (pb : 0 ≤ x) (pc : ¬ (16 : Int32) ≤ x) (pd : x < (16 : Int32)) (pe : x.toNatClampNeg < 16) (qa : ¬ y < 0) (qb : 0 ≤ y) (qc : ¬ (16 : Int32) ≤ y) (qd : y < (16 : Int32)) (qe : y.toNatClampNeg < 16) (sa : ¬ w < 0) (sb : 0 ≤ w) (sc : ¬ (6 : Int32) ≤ w) (sd : w < (6 : Int32)) (ta : u < 0) (tb : ¬ 0 ≤ u) (tc : ¬ (16 : Int32) ≤ u) (td : u < (16 : Int32)) (k : ∀ h, okM h → Q (some (.inl 0)) h) : PF 9 117 0 [some (.inr (some 0)), some (.inl x), some (.inl y), some (.inl z), some (.inl w), some (.inl u)] [] hM Q := by
  sorry
theorem fM_match_IIib {x y z w u : Int32} {Q : Option MV → List MC → Prop} (pa : ¬ x < 0) (pb : 0 ≤ x) (pc : ¬ (16 : Int32) ≤ x) (pd : x < (16 : Int32)) (pe : x.toNatClampNeg < 16) (qa : ¬ y < 0) (qb : 0 ≤ y) (qc : ¬ (16 : Int32) ≤ y) (qd : y < (16 : Int32)) (qe : y.toNatClampNeg < 16) (sa : ¬ w < 0) (sb : 0 ≤ w) (sc : ¬ (6 : Int32) ≤ w) (sd : w < (6 : Int32)) (ta : ¬ u < 0) (tb : 0 ≤ u) (tc : (16 : Int32) ≤ u) (td : ¬ u < (16 : Int32)) (k : ∀ h, okM h → Q (some (.inl 0)) h) : PF 9 117 0 [some (.inr (some 0)), some (.inl x), some (.inl y), some (.inl z), some (.inl w), some (.inl u)] [] hM Q := by
  sorry
theorem fM_unifier_n {x y z w : Int32} {Q : Option MV → List MC → Prop} (pa : x < 0) (pb : ¬ 0 ≤ x) (pc : ¬ (16 : Int32) ≤ x) (pd : x < (16 : Int32)) (k : ∀ h, okM h → Q (some (.inl 0)) h) : PF 9 124 0 [some (.inr (some 0)), some (.inl x), some (.inl y), some (.inl z), some (.inl w), none] [] hM Q := by
  sorry
theorem fM_unifier_b {x y z w : Int32} {Q : Option MV → List MC → Prop} (pa : ¬ x < 0) (pb : 0 ≤ x) (pc : (16 : Int32) ≤ x) (pd : ¬ x < (16 : Int32)) (k : ∀ h, okM h → Q (some (.inl 0)) h) : PF 9 124 0 [some (.inr (some 0)), some (.inl x), some (.inl y), some (.inl z), some (.inl w), none] [] hM Q := by
  sorry
theorem fM_unifier_In {x y z w : Int32} {Q : Option MV → List MC → Prop} (pa : ¬ x < 0) (pb : 0 ≤ x) (pc : ¬ (16 : Int32) ≤ x) (pd : x < (16 : Int32)) (pe : x.toNatClampNeg < 16) (qa : y < 0) (qb : ¬ 0 ≤ y) (qc : ¬ (16 : Int32) ≤ y) (qd : y < (16 : Int32)) (k : ∀ h, okM h → Q (some (.inl 0)) h) : PF 9 124 0 [some (.inr (some 0)), some (.inl x), some (.inl y), some (.inl z), some (.inl w), none] [] hM Q := by
  sorry
theorem fM_unifier_Ib {x y z w : Int32} {Q : Option MV → List MC → Prop} (pa : ¬ x < 0) (pb : 0 ≤ x) (pc : ¬ (16 : Int32) ≤ x) (pd : x < (16 : Int32)) (pe : x.toNatClampNeg < 16) (qa : ¬ y < 0) (qb : 0 ≤ y) (qc : (16 : Int32) ≤ y) (qd : ¬ y < (16 : Int32)) (k : ∀ h, okM h → Q (some (.inl 0)) h) : PF 9 124 0 [some (.inr (some 0)), some (.inl x), some (.inl y), some (.inl z), some (.inl w), none] [] hM Q := by
  sorry
theorem fM_unifier_IIn {x y z w : Int32} {Q : Option MV → List MC → Prop} (pa : ¬ x < 0) (pb : 0 ≤ x) (pc : ¬ (16 : Int32) ≤ x) (pd : x < (16 : Int32)) (pe : x.toNatClampNeg < 16) (qa : ¬ y < 0) (qb : 0 ≤ y) (qc : ¬ (16 : Int32) ≤ y) (qd : y < (16 : Int32)) (qe : y.toNatClampNeg < 16) (sa : w < 0) (sb : ¬ 0 ≤ w) (sc : ¬ (16 : Int32) ≤ w) (sd : w < (16 : Int32)) (k : ∀ h, okM h → Q (some (.inl 0)) h) : PF 9 124 0 [some (.inr (some 0)), some (.inl x), some (.inl y), some (.inl z), some (.inl w), none] [] hM Q := by
  sorry
theorem fM_unifier_IIb {x y z w : Int32} {Q : Option MV → List MC → Prop} (pa : ¬ x < 0) (pb : 0 ≤ x) (pc : ¬ (16 : Int32) ≤ x) (pd : x < (16 : Int32)) (pe : x.toNatClampNeg < 16) (qa : ¬ y < 0) (qb : 0 ≤ y) (qc : ¬ (16 : Int32) ≤ y) (qd : y < (16 : Int32)) (qe : y.toNatClampNeg < 16) (sa : ¬ w < 0) (sb : 0 ≤ w) (sc : (16 : Int32) ≤ w) (sd : ¬ w < (16 : Int32)) (k : ∀ h, okM h → Q (some (.inl 0)) h) : PF 9 124 0 [some (.inr (some 0)), some (.inl x), some (.inl y), some (.inl z), some (.inl w), none] [] hM Q := by
  sorry
theorem fM_rules {Q : Option MV → List MC → Prop} (k : ∀ h, okM h → Q (some (.inl 0)) h) : PF 9 141 0 [some (.inr (some 0))] [] hM Q := by
  sorry
theorem fM_waiting {Q : Option MV → List MC → Prop} (k : ∀ h, okM h → Q (some (.inl 0)) h) : PF 9 143 0 [some (.inr (some 0))] [] hM Q := by
  sorry
theorem fM_rule_n {x y z : Int32} {Q : Option MV → List MC → Prop} (pa : x < 0) (pb : ¬ 0 ≤ x) (pc : ¬ (0 : Int32) ≤ x) (pd : x < (0 : Int32)) (k : ∀ h, okM h → Q (some (.inl 0)) h) : PF 9 142 0 [some (.inr (some 0)), some (.inl x), some (.inl y), some (.inl z)] [] hM Q := by
  sorry
theorem fM_rule_b {x y z : Int32} {Q : Option MV → List MC → Prop} (pa : ¬ x < 0) (pb : 0 ≤ x) (pc : (0 : Int32) ≤ x) (pd : ¬ x < (0 : Int32)) (k : ∀ h, okM h → Q (some (.inl 0)) h) : PF 9 142 0 [some (.inr (some 0)), some (.inl x), some (.inl y), some (.inl z)] [] hM Q := by
  sorry
theorem fM_pair_n {x y z : Int32} {Q : Option MV → List MC → Prop} (pa : x < 0) (pb : ¬ 0 ≤ x) (pc : ¬ (0 : Int32) ≤ x) (pd : x < (0 : Int32)) (k : ∀ h, okM h → Q (some (.inl 0)) h) : PF 9 144 0 [some (.inr (some 0)), some (.inl x), some (.inl y), some (.inl z)] [] hM Q := by
  sorry
theorem fM_pair_b {x y z : Int32} {Q : Option MV → List MC → Prop} (pa : ¬ x < 0) (pb : 0 ≤ x) (pc : (0 : Int32) ≤ x) (pd : ¬ x < (0 : Int32)) (k : ∀ h, okM h → Q (some (.inl 0)) h) : PF 9 144 0 [some (.inr (some 0)), some (.inl x), some (.inl y), some (.inl z)] [] hM Q := by
  sorry
theorem fM_complete_n {x : Int32} {Q : Option MV → List MC → Prop} (pa : x < 0) (pb : ¬ 0 ≤ x) (pc : ¬ 30 < x) (pd : x ≤ 30) (pe : ¬ 0 < x) (pf : x ≤ 0) (k : ∀ h, okM h → Q (some (.inl 1)) h) : PF 9 129 0 [some (.inr (some 0)), some (.inl x), none, none, none] [] hM Q := by
  sorry
theorem fM_complete_b {x : Int32} {Q : Option MV → List MC → Prop} (pa : ¬ x < 0) (pb : 0 ≤ x) (pc : 30 < x) (pd : ¬ x ≤ 30) (pe : 0 < x) (pf : ¬ x ≤ 0) (k : ∀ h, okM h → Q (some (.inl 1)) h) : PF 9 129 0 [some (.inr (some 0)), some (.inl x), none, none, none] [] hM Q := by
  sorry
theorem fM_complete_i {x : Int32} {Q : Option MV → List MC → Prop} (pa : ¬ x < 0) (pb : 0 ≤ x) (pc : ¬ 30 < x) (pd : x ≤ 30) (pe : 0 < x) (pf : ¬ x ≤ 0) (k : ∀ h, okM h → Q (some (.inl 1)) h) : PF 9 129 0 [some (.inr (some 0)), some (.inl x), none, none, none] [] hM Q := by
  sorry
theorem fM_complete_0 {Q : Option MV → List MC → Prop} (k : ∀ h, okM h → Q (some (.inl 1)) h) : PF 9 129 0 [some (.inr (some 0)), some (.inl 0), none, none, none] [] hM Q := by
  sorry
theorem fM_match_IInII {x y z w u : Int32} {Q : Option MV → List MC → Prop} (pa : ¬ x < 0) (pb : 0 ≤ x) (pc : ¬ (16 : Int32) ≤ x) (pd : x < (16 : Int32)) (pe : x.toNatClampNeg < 16) (qa : ¬ y < 0) (qb : 0 ≤ y) (qc : ¬ (16 : Int32) ≤ y) (qd : y < (16 : Int32)) (qe : y.toNatClampNeg < 16) (ra : z < 0) (rb : ¬ 0 ≤ z) (rc : ¬ (1 : Int32) ≤ z) (rd : z < (1 : Int32)) (sa : ¬ w < 0) (sb : 0 ≤ w) (sc : ¬ (6 : Int32) ≤ w) (sd : w < (6 : Int32)) (ta : ¬ u < 0) (tb : 0 ≤ u) (tc : ¬ (16 : Int32) ≤ u) (td : u < (16 : Int32)) (te : u.toNatClampNeg < 16) (k : ∀ h, okM h → Q (some (.inl 0)) h) : PF 9 117 0 [some (.inr (some 0)), some (.inl x), some (.inl y), some (.inl z), some (.inl w), some (.inl u)] [] hM Q := by
  sorry
theorem fM_match_IIbII {x y z w u : Int32} {Q : Option MV → List MC → Prop} (pa : ¬ x < 0) (pb : 0 ≤ x) (pc : ¬ (16 : Int32) ≤ x) (pd : x < (16 : Int32)) (pe : x.toNatClampNeg < 16) (qa : ¬ y < 0) (qb : 0 ≤ y) (qc : ¬ (16 : Int32) ≤ y) (qd : y < (16 : Int32)) (qe : y.toNatClampNeg < 16) (ra : ¬ z < 0) (rb : 0 ≤ z) (rc : (1 : Int32) ≤ z) (rd : ¬ z < (1 : Int32)) (sa : ¬ w < 0) (sb : 0 ≤ w) (sc : ¬ (6 : Int32) ≤ w) (sd : w < (6 : Int32)) (ta : ¬ u < 0) (tb : 0 ≤ u) (tc : ¬ (16 : Int32) ≤ u) (td : u < (16 : Int32)) (te : u.toNatClampNeg < 16) (k : ∀ h, okM h → Q (some (.inl 0)) h) : PF 9 117 0 [some (.inr (some 0)), some (.inl x), some (.inl y), some (.inl z), some (.inl w), some (.inl u)] [] hM Q := by
  sorry
theorem fM_match_II00I {x y u : Int32} {Q : Option MV → List MC → Prop} (pa : ¬ x < 0) (pb : 0 ≤ x) (pc : ¬ (16 : Int32) ≤ x) (pd : x < (16 : Int32)) (pe : x.toNatClampNeg < 16) (qa : ¬ y < 0) (qb : 0 ≤ y) (qc : ¬ (16 : Int32) ≤ y) (qd : y < (16 : Int32)) (qe : y.toNatClampNeg < 16) (ta : ¬ u < 0) (tb : 0 ≤ u) (tc : ¬ (16 : Int32) ≤ u) (td : u < (16 : Int32)) (te : u.toNatClampNeg < 16) (k : ∀ h, okM h → Q (some (.inl 1)) h) : PF 9 117 0 [some (.inr (some 0)), some (.inl x), some (.inl y), some (.inl 0), some (.inl 0), some (.inl u)] [] hM Q := by
  sorry
theorem fM_match_II01I {x y u : Int32} {Q : Option MV → List MC → Prop} (pa : ¬ x < 0) (pb : 0 ≤ x) (pc : ¬ (16 : Int32) ≤ x) (pd : x < (16 : Int32)) (pe : x.toNatClampNeg < 16) (qa : ¬ y < 0) (qb : 0 ≤ y) (qc : ¬ (16 : Int32) ≤ y) (qd : y < (16 : Int32)) (qe : y.toNatClampNeg < 16) (ta : ¬ u < 0) (tb : 0 ≤ u) (tc : ¬ (16 : Int32) ≤ u) (td : u < (16 : Int32)) (te : u.toNatClampNeg < 16) (k : ∀ h, okM h → Q (some (.inl 0)) h) : PF 9 117 0 [some (.inr (some 0)), some (.inl x), some (.inl y), some (.inl 0), some (.inl 1), some (.inl u)] [] hM Q := by
  sorry
theorem fM_match_II02I {x y u : Int32} {Q : Option MV → List MC → Prop} (pa : ¬ x < 0) (pb : 0 ≤ x) (pc : ¬ (16 : Int32) ≤ x) (pd : x < (16 : Int32)) (pe : x.toNatClampNeg < 16) (qa : ¬ y < 0) (qb : 0 ≤ y) (qc : ¬ (16 : Int32) ≤ y) (qd : y < (16 : Int32)) (qe : y.toNatClampNeg < 16) (ta : ¬ u < 0) (tb : 0 ≤ u) (tc : ¬ (16 : Int32) ≤ u) (td : u < (16 : Int32)) (te : u.toNatClampNeg < 16) (k : ∀ h, okM h → Q (some (.inl 0)) h) : PF 9 117 0 [some (.inr (some 0)), some (.inl x), some (.inl y), some (.inl 0), some (.inl 2), some (.inl u)] [] hM Q := by
  sorry
theorem fM_match_II03I {x y u : Int32} {Q : Option MV → List MC → Prop} (pa : ¬ x < 0) (pb : 0 ≤ x) (pc : ¬ (16 : Int32) ≤ x) (pd : x < (16 : Int32)) (pe : x.toNatClampNeg < 16) (qa : ¬ y < 0) (qb : 0 ≤ y) (qc : ¬ (16 : Int32) ≤ y) (qd : y < (16 : Int32)) (qe : y.toNatClampNeg < 16) (ta : ¬ u < 0) (tb : 0 ≤ u) (tc : ¬ (16 : Int32) ≤ u) (td : u < (16 : Int32)) (te : u.toNatClampNeg < 16) (k : ∀ h, okM h → Q (some (.inl 0)) h) : PF 9 117 0 [some (.inr (some 0)), some (.inl x), some (.inl y), some (.inl 0), some (.inl 3), some (.inl u)] [] hM Q := by
  sorry
theorem fM_match_II04I {x y u : Int32} {Q : Option MV → List MC → Prop} (pa : ¬ x < 0) (pb : 0 ≤ x) (pc : ¬ (16 : Int32) ≤ x) (pd : x < (16 : Int32)) (pe : x.toNatClampNeg < 16) (qa : ¬ y < 0) (qb : 0 ≤ y) (qc : ¬ (16 : Int32) ≤ y) (qd : y < (16 : Int32)) (qe : y.toNatClampNeg < 16) (ta : ¬ u < 0) (tb : 0 ≤ u) (tc : ¬ (16 : Int32) ≤ u) (td : u < (16 : Int32)) (te : u.toNatClampNeg < 16) (k : ∀ h, okM h → Q (some (.inl 0)) h) : PF 9 117 0 [some (.inr (some 0)), some (.inl x), some (.inl y), some (.inl 0), some (.inl 4), some (.inl u)] [] hM Q := by
  sorry
theorem fM_match_II05I {x y u : Int32} {Q : Option MV → List MC → Prop} (pa : ¬ x < 0) (pb : 0 ≤ x) (pc : ¬ (16 : Int32) ≤ x) (pd : x < (16 : Int32)) (pe : x.toNatClampNeg < 16) (qa : ¬ y < 0) (qb : 0 ≤ y) (qc : ¬ (16 : Int32) ≤ y) (qd : y < (16 : Int32)) (qe : y.toNatClampNeg < 16) (ta : ¬ u < 0) (tb : 0 ≤ u) (tc : ¬ (16 : Int32) ≤ u) (td : u < (16 : Int32)) (te : u.toNatClampNeg < 16) (k : ∀ h, okM h → Q (some (.inl 0)) h) : PF 9 117 0 [some (.inr (some 0)), some (.inl x), some (.inl y), some (.inl 0), some (.inl 5), some (.inl u)] [] hM Q := by
  sorry
theorem fM_unifier_IInI {x y z w : Int32} {Q : Option MV → List MC → Prop} (pa : ¬ x < 0) (pb : 0 ≤ x) (pc : ¬ (16 : Int32) ≤ x) (pd : x < (16 : Int32)) (pe : x.toNatClampNeg < 16) (qa : ¬ y < 0) (qb : 0 ≤ y) (qc : ¬ (16 : Int32) ≤ y) (qd : y < (16 : Int32)) (qe : y.toNatClampNeg < 16) (ra : z < 0) (rb : ¬ 0 ≤ z) (rc : ¬ (1 : Int32) ≤ z) (rd : z < (1 : Int32)) (sa : ¬ w < 0) (sb : 0 ≤ w) (sc : ¬ (16 : Int32) ≤ w) (sd : w < (16 : Int32)) (se : w.toNatClampNeg < 16) (k : ∀ h, okM h → Q (some (.inl 0)) h) : PF 9 124 0 [some (.inr (some 0)), some (.inl x), some (.inl y), some (.inl z), some (.inl w), none] [] hM Q := by
  sorry
theorem fM_unifier_IIbI {x y z w : Int32} {Q : Option MV → List MC → Prop} (pa : ¬ x < 0) (pb : 0 ≤ x) (pc : ¬ (16 : Int32) ≤ x) (pd : x < (16 : Int32)) (pe : x.toNatClampNeg < 16) (qa : ¬ y < 0) (qb : 0 ≤ y) (qc : ¬ (16 : Int32) ≤ y) (qd : y < (16 : Int32)) (qe : y.toNatClampNeg < 16) (ra : ¬ z < 0) (rb : 0 ≤ z) (rc : (1 : Int32) ≤ z) (rd : ¬ z < (1 : Int32)) (sa : ¬ w < 0) (sb : 0 ≤ w) (sc : ¬ (16 : Int32) ≤ w) (sd : w < (16 : Int32)) (se : w.toNatClampNeg < 16) (k : ∀ h, okM h → Q (some (.inl 0)) h) : PF 9 124 0 [some (.inr (some 0)), some (.inl x), some (.inl y), some (.inl z), some (.inl w), none] [] hM Q := by
  sorry
theorem fM_unifier_II0I {x y w : Int32} {Q : Option MV → List MC → Prop} (pa : ¬ x < 0) (pb : 0 ≤ x) (pc : ¬ (16 : Int32) ≤ x) (pd : x < (16 : Int32)) (pe : x.toNatClampNeg < 16) (qa : ¬ y < 0) (qb : 0 ≤ y) (qc : ¬ (16 : Int32) ≤ y) (qd : y < (16 : Int32)) (qe : y.toNatClampNeg < 16) (sa : ¬ w < 0) (sb : 0 ≤ w) (sc : ¬ (16 : Int32) ≤ w) (sd : w < (16 : Int32)) (se : w.toNatClampNeg < 16) (k : ∀ h, okM h → Q (some (.inl 1)) h) : PF 9 124 0 [some (.inr (some 0)), some (.inl x), some (.inl y), some (.inl 0), some (.inl w), none] [] hM Q := by
  sorry
theorem fM_greater_II {x y : Int32} {Q : Option MV → List MC → Prop} (pa : ¬ x < 0) (pb : 0 ≤ x) (pc : ¬ (16 : Int32) ≤ x) (pd : x < (16 : Int32)) (pe : x.toNatClampNeg < 16) (qa : ¬ y < 0) (qb : 0 ≤ y) (qc : ¬ (16 : Int32) ≤ y) (qd : y < (16 : Int32)) (qe : y.toNatClampNeg < 16) (k : ∀ h, okM h → Q (some (.inl 0)) h) : PF 9 104 0 [some (.inr (some 0)), some (.inl x), some (.inl y)] [] hM Q := by
  sorry
theorem fM_matches_II {x y : Int32} {Q : Option MV → List MC → Prop} (pa : ¬ x < 0) (pb : 0 ≤ x) (pc : ¬ (16 : Int32) ≤ x) (pd : x < (16 : Int32)) (pe : x.toNatClampNeg < 16) (qa : ¬ y < 0) (qb : 0 ≤ y) (qc : ¬ (16 : Int32) ≤ y) (qd : y < (16 : Int32)) (qe : y.toNatClampNeg < 16) (k : ∀ h, okM h → Q (some (.inl 1)) h) : PF 9 111 0 [some (.inr (some 0)), some (.inl x), some (.inl y)] [] hM Q := by
  sorry
theorem fM_reduce_II {x y : Int32} {Q : Option MV → List MC → Prop} (pa : ¬ x < 0) (pb : 0 ≤ x) (pc : ¬ (16 : Int32) ≤ x) (pd : x < (16 : Int32)) (pe : x.toNatClampNeg < 16) (qa : ¬ y < 0) (qb : 0 ≤ y) (qc : ¬ (16 : Int32) ≤ y) (qd : y < (16 : Int32)) (qe : y.toNatClampNeg < 16) (k : ∀ h, okM h → Q (some (.inl 1)) h) : PF 9 145 0 [some (.inr (some 0)), some (.inl x), some (.inl y), none] [] hM Q := by
  sorry
theorem fM_prove_II {x y : Int32} {Q : Option MV → List MC → Prop} (pa : ¬ x < 0) (pb : 0 ≤ x) (pc : ¬ (16 : Int32) ≤ x) (pd : x < (16 : Int32)) (pe : x.toNatClampNeg < 16) (qa : ¬ y < 0) (qb : 0 ≤ y) (qc : ¬ (16 : Int32) ≤ y) (qd : y < (16 : Int32)) (qe : y.toNatClampNeg < 16) (k : ∀ h, okM h → Q (some (.inl 1)) h) : PF 9 146 0 [some (.inr (some 0)), some (.inl x), some (.inl y), none, none] [] hM Q := by
  sorry
theorem fM_unifiers_II {x y : Int32} {Q : Option MV → List MC → Prop} (pa : ¬ x < 0) (pb : 0 ≤ x) (pc : ¬ (16 : Int32) ≤ x) (pd : x < (16 : Int32)) (pe : x.toNatClampNeg < 16) (qa : ¬ y < 0) (qb : 0 ≤ y) (qc : ¬ (16 : Int32) ≤ y) (qd : y < (16 : Int32)) (qe : y.toNatClampNeg < 16) (k : ∀ h, okM h → Q (some (.inl 1)) h) : PF 9 118 0 [some (.inr (some 0)), some (.inl x), some (.inl y)] [] hM Q := by
  sorry
theorem fM_equation_II {x y : Int32} {Q : Option MV → List MC → Prop} (pa : ¬ x < 0) (pb : 0 ≤ x) (pc : ¬ (16 : Int32) ≤ x) (pd : x < (16 : Int32)) (pe : x.toNatClampNeg < 16) (qa : ¬ y < 0) (qb : 0 ≤ y) (qc : ¬ (16 : Int32) ≤ y) (qd : y < (16 : Int32)) (qe : y.toNatClampNeg < 16) (k : ∀ h, okM h → Q (some (.inl 1)) h) : PF 9 125 0 [some (.inr (some 0)), some (.inl x), some (.inl y)] [] hM Q := by
  sorry
