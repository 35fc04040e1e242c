/-! ints by cases -/
theorem ic_cases (x n : Int32) (hn : 0 ≤ n) : (x < 0 ∧ ¬ 0 ≤ x ∧ ¬ n ≤ x ∧ x < n) ∨ (¬ x < 0 ∧ 0 ≤ x ∧ n ≤ x ∧ ¬ x < n) ∨ (¬ x < 0 ∧ 0 ≤ x ∧ ¬ n ≤ x ∧ x < n) := by
  simp only [Int32.lt_iff_toInt_lt, Int32.le_iff_toInt_le] at hn ⊢
  omega
theorem ic_nat {x : Int32} (h0 : ¬ x < 0) (h1 : x < 16) : x.toNatClampNeg < 16 := by
  simp only [Int32.lt_iff_toInt_lt, show (16 : Int32).toInt = 16 from rfl, show (0 : Int32).toInt = 0 from rfl] at h0 h1
  show x.toInt.toNat < 16
  omega
theorem ic_gt2 {x : Int32} (h : 3 ≤ x) : 2 < x := by
  simp only [Int32.lt_iff_toInt_lt, Int32.le_iff_toInt_le, show (3 : Int32).toInt = 3 from rfl, show (2 : Int32).toInt = 2 from rfl] at h ⊢
  omega
theorem ic_eq1 {x : Int32} (h0 : ¬ x < 0) (h1 : x < 1) : x = 0 := by
  simp only [Int32.lt_iff_toInt_lt, show (1 : Int32).toInt = 1 from rfl, show (0 : Int32).toInt = 0 from rfl] at h0 h1
  have e : ∀ k : Int32, x.toInt = k.toInt → x = k := fun k hk => Int32.toInt_inj.mp hk
  exact e 0 (by show x.toInt = 0; omega)
theorem ic_eq3 {x : Int32} (h0 : ¬ x < 0) (h1 : x < 3) : x = 0 ∨ x = 1 ∨ x = 2 := by
  simp only [Int32.lt_iff_toInt_lt, show (3 : Int32).toInt = 3 from rfl, show (0 : Int32).toInt = 0 from rfl] at h0 h1
  have e : ∀ k : Int32, x.toInt = k.toInt → x = k := fun k hk => Int32.toInt_inj.mp hk
  rcases (show x.toInt = 0 ∨ x.toInt = 1 ∨ x.toInt = 2 by omega) with q | q | q
  · exact Or.inl (e 0 q)
  · exact Or.inr (Or.inl (e 1 q))
  · exact Or.inr (Or.inr ((e 2 q)))
theorem ic_eq6 {x : Int32} (h0 : ¬ x < 0) (h1 : x < 6) : x = 0 ∨ x = 1 ∨ x = 2 ∨ x = 3 ∨ x = 4 ∨ x = 5 := by
  simp only [Int32.lt_iff_toInt_lt, show (6 : Int32).toInt = 6 from rfl, show (0 : Int32).toInt = 0 from rfl] at h0 h1
  have e : ∀ k : Int32, x.toInt = k.toInt → x = k := fun k hk => Int32.toInt_inj.mp hk
  rcases (show x.toInt = 0 ∨ x.toInt = 1 ∨ x.toInt = 2 ∨ x.toInt = 3 ∨ x.toInt = 4 ∨ x.toInt = 5 by omega) with q | q | q | q | q | q
  · exact Or.inl (e 0 q)
  · exact Or.inr (Or.inl (e 1 q))
  · exact Or.inr (Or.inr (Or.inl (e 2 q)))
  · exact Or.inr (Or.inr (Or.inr (Or.inl (e 3 q))))
  · exact Or.inr (Or.inr (Or.inr (Or.inr (Or.inl (e 4 q)))))
  · exact Or.inr (Or.inr (Or.inr (Or.inr (Or.inr ((e 5 q))))))
