/-! THE LAW ON THE SCRIPT OF THE REFUTATION: what holds at its entry (as the kit's skeleton has it), a room that is large enough, and what is to be come to: an end with many new cells -/
def R_law : String := "EquationDeskLaw"
def lw_At (p : Program) (s : State) (m : MethodId) (meth : Method) (c : Code) (b L : Nat) (xs : Nat → Int32) : Prop :=
  p.tables.exec = Jvm.exec ∧ c.code = code ∧ meth.sig.returnType = ret ∧ c.maxLocals = 4 ∧ s.vm.findClass R_law = some m.cls ∧ (∀ w ∈ lw_tbl, w.before #[Value.ref b] s = true) ∧ va_X b L xs s s.heap ∧ b < s.heap.size ∧ meth.locks = false
def bigR : Room := { frames := 2048, cells := 1450000, slots := 7900000, locals := 84000 }
abbrev lA (s : State) : Nat → Prop := fun q => s.heap.size ≤ q
def bZ (below : List Frame) (s : State) : State → Prop := fun t => ∃ o, t.status = .running ∧ Ended t below o ∧ s.heap.size + 1378678 ≤ t.heap.size
abbrev LG (p : Program) (l : Launch) (e : Env) (s : State) (m : MethodId) (below : List Frame) (meth : Method) (c : Code) (b : Nat) (H : Heap) (locs : List Loc) (cells slots pc : Nat) (ls : Array Slot) (st : List Value) : Prop := W p l e bigR s m #[Value.ref b] below meth c H locs cells slots (bZ below s) (F0 m pc ls st)
/-- the law's own end, with 1 on the stack -/
theorem b_ret {p : Program} {l : Launch} {e : Env} {s : State} {m : MethodId} {below : List Frame} {meth : Method} {c : Code} {b : Nat} {locs : List Loc} {cells slots : Nat} (hx : p.tables.exec = Jvm.exec) (hb : c.code = code) (hr : meth.sig.returnType = ret) (hlocks : meth.locks = false) {pc : Nat} {H : Heap} {ls : Array Slot} (hcnt : s.heap.size + 1378678 ≤ H.size) (hdg : decode code pc = .ok (.ireturn, 1)) : LG p l e s m below meth c b H locs cells slots pc ls [.int 1] := by
  intro T hT X
  obtain ⟨fs, hret, hrun, hended, hW, hframe⟩ := X.leave (v := some (.int 1)) (hlocks := hlocks) (fun h => by rw [hr] at h; cases h)
  have hmeth' : T.vm.method? m = some meth := X.method'
  have hh : (T.setFrames fs).heap = H := hT
  refine ⟨T.setFrames fs, ?_, .returned (some (.int 1)), hrun, hended, by rw [hh]; exact hcnt⟩
  jvm_step X.here [X.here.top, hx, hb, hdg, hmeth', hr, ret, narrow_b1]
  (try refine ⟨rfl, ?_⟩); (try refine ⟨rfl, ?_⟩)
  first | (intro acts; rw [hret _ acts rfl rfl rfl]) | rw [hret _ _ rfl rfl rfl]
  exact Steps.refl _
