/-! THE START: the script lies there, and all that the Statement asks of it holds -/
theorem ab_heap (a : Array Value) : (start1.aboutOf a).heap = #[{ cls := 19, slots := a, vm := .none }] := rfl
theorem ab_used (a : Array Value) : (start1.aboutOf a).slotsUsed = a.size := rfl
theorem ab_slot (a : Array Value) (i : Nat) (v : Int32) : (start1.aboutOf a).fitsSlot 19 .none i (.int v) = true := rfl
theorem ab_arr (a : Array Value) : (start1.aboutOf a).isArrayOf { cls := 19, slots := a, vm := .none } .int := ⟨(fun k h => by cases h), _, rfl, _, rfl⟩
theorem ab_at (a : Array Value) : (start1.aboutOf a).arrayAt? 0 = some { cls := 19, slots := a, vm := .none } := rfl
theorem ab_fits (a : Array Value) (n : Nat) (f : Nat → Int32) (hs : a.size = n) (hv : ∀ i, i < n → a[i]? = some (.int (f i))) : heapFits (start1.aboutOf a) = true := by
  have h : cellFits (start1.aboutOf a) { cls := 19, slots := a, vm := .none } = true := by
    refine List.all_eq_true.mpr fun i hi => ?_
    have hi2 : i < n := by
      have h3 : i < a.size := List.mem_range.mp hi
      omega
    have h4 := hv i hi2
    simp only [h4]
    exact ab_slot a i _
  unfold heapFits
  rw [ab_heap]
  simp [h]
theorem ab_true (a : Array Value) : (start1.aboutOf a).slotsTrue = true := by
  unfold State.slotsTrue
  rw [ab_heap, ab_used]
  simp
theorem scrV_list : scrV.toList = ((List.range 3072).map scr).map Value.int := by
  simp [scrV, List.map_map]
theorem sR_ints : sR.IntsAt 0 ((List.range 3072).map scr) := ⟨_, ab_at scrV, scrV_list, ab_arr scrV, by simp⟩
theorem scrV_size : scrV.size = 3072 := by simp [scrV]
theorem scrV_at (i : Nat) (hi : i < 3072) : scrV[i]? = some (.int (scr i)) := by
  rw [← Array.getElem?_toList, scrV_list, List.getElem?_map, List.getElem?_map, List.getElem?_range hi]
  rfl
theorem sR_heapFits : heapFits sR = true := ab_fits scrV 3072 scr scrV_size scrV_at
theorem sR_arg : (Term.arg 0).eval start1.args0 sR none [] sR = some (.ref 0) := rfl
theorem sR_rest : rest_1_c.before start1.args0 sR = true := by
  have h1 : (Cond.isInt (.length (.arg 0))).before start1.args0 sR = true := by
    simp [Cond.before, Cond.holds, Cond.isInt_int (sR_ints.length_eval sR_arg)]
  have h2 : (Cond.all (.arg 0) (.isInt (.elem (.arg 0) (.index 0)))).before start1.args0 sR = true := by
    have := sR_ints.all_value (args := start1.args0) (first := sR) (o := none) (idx := []) sR_arg (c := .isInt (.elem (.arg 0) (.index 0))) (fun k hk => Cond.isInt_int (sR_ints.elem_nat (idx := [k]) rfl rfl hk))
    simp [Cond.before, Cond.holds, this]
  show (Cond.and (.isInt (.length (.arg 0))) (.all (.arg 0) (.isInt (.elem (.arg 0) (.index 0))))).before start1.args0 sR = true
  rw [Cond.before_and, Bool.and_eq_true]
  exact ⟨h1, h2⟩
theorem sR_given : (Cond.and given_1 narrow_1).before start1.args0 sR = true := by
  have h1 : (Cond.arrayOf (.arg 0) .int).before start1.args0 sR = true := by
    simp [Cond.before, Cond.holds, sR_ints.arrayOf_value (args := start1.args0) (first := sR) (o := none) (idx := []) sR_arg]
  have h2 : (Cond.le (.length (.arg 0)) (.int 3072)).before start1.args0 sR = true := by
    have h3 := Cond.le_ints (args := start1.args0) (first := sR) (o := none) (idx := []) (s := sR) (sR_ints.length_eval sR_arg) (show (Term.int 3072).eval start1.args0 sR none [] sR = some (.int 3072) from rfl)
    have h4 : ((List.range 3072).map scr).length.toInt32 ≤ 3072 := by rw [List.length_map, List.length_range]; decide
    simp only [Cond.before, Cond.holds, h3, h4, decide_true]
    rfl
  have h5 : given_1.before start1.args0 sR = true := rfl
  rw [Cond.before_and, Bool.and_eq_true]
  refine ⟨h5, ?_⟩
  show (Cond.and (.arrayOf (.arg 0) .int) (.le (.length (.arg 0)) (.int 3072))).before start1.args0 sR = true
  rw [Cond.before_and, Bool.and_eq_true]
  exact ⟨h1, h2⟩
set_option maxRecDepth 1000000 in
theorem sR_argsFit : argsFit sR.vm ⟨0, 0⟩ start1.args0 = true := by decide +kernel
theorem sR_used : sR.slotsUsed = 3072 := (ab_used scrV).trans scrV_size
theorem sR_size : sR.heap.size = 1 := rfl
theorem sR_true : sR.slotsTrue = true := ab_true scrV
def eR : Env := launch0.env 0 2000000 9000000
set_option maxRecDepth 1000000 in
theorem sR_applies (R : Room) (hf : R.frames = 2048) (hc : R.cells ≤ 1450000) (hs : R.slots ≤ 7900000) (hl : R.locals = 84000) : (headSpec (Jvm.Cond.code x code maxLocals ret :: tables_1) R).applies x eR.platform sR = true :=
  (Spec.applies_iff rfl).mpr ⟨rfl, rfl, rfl, by decide +kernel, by decide +kernel, by decide +kernel, State.hasRoom_of (r := R) (by decide +kernel) (by rw [hf]; decide +kernel) (by rw [hl]; decide +kernel) (by rw [sR_size]; show 1 + R.cells ≤ 2000000; omega) (by rw [sR_used]; show 3072 + R.slots ≤ 9000000; omega) sR_true (by rw [hl]; decide +kernel), atoms_intro sR_words⟩
