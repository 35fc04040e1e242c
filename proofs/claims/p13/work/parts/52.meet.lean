/-! THE LAW'S METHOD, from every start with the script: it ends, with at least 1378678 new cells -/
def bP (b : Addr) (args : Array Value) (s : State) : Prop := args = #[.ref b] ∧ s.IntsAt b ((List.range 3072).map scr)
def bQ (_ : Array Value) (s : State) (_ : Outcome) (t : State) : Prop := s.heap.size + 1378678 ≤ t.heap.size
set_option maxHeartbeats 4000000 in
theorem b_walk (l : Launch) (b : Addr) {hY : List MC} (tX : (hY[0]?).map (·.1) = some 20) (pX : 0 < hY.length) (g1 : Run2 70 5 [.inr (some 0), .inl 1] hX15 hY 2 0 2 48) (g2 : Run2 70 5 [.inr (some 0), .inl 1] hY hY 2 0 2 48) (gM : Run2 129 5 [.inr (some 0), .inl 1] hM15 hM15 2 2774 2774 14996) : MetFree l x (headSpec (Jvm.Cond.code x code maxLocals ret :: tables_1) bigR) (bP b) (fun _ _ _ _ _ => True) bQ := by
  refine MetFree.of_bodyS (code := code) (maxLocals := maxLocals) (ret := ret) (by decide) ?_ ?_
  · intro args s m h hn
    obtain ⟨meth, c, h1, h2, h3, h4, h5, h6, -, -⟩ := Cond.code_spec hn (atoms_spec (ws := Jvm.Cond.code x code maxLocals ret :: tables_1) h _ List.mem_cons_self)
    exact ⟨meth, c, h1, h2, h3, h4, h5, h6⟩
  · intro p e s m args below meth c s₁ B hml0 hP _
    obtain ⟨rfl, hx⟩ := hP
    obtain ⟨sc, harrAt, hlist, hof, hsmall⟩ := hx
    obtain ⟨hcb, hkn, -, -⟩ := State.arrayAt?_spec harrAt
    have hown : s.vm.findClass R_law = some m.cls := findClass_of_methodNamed B.named
    have hts0 : ∀ c ∈ (Jvm.Cond.code x code maxLocals ret :: tables_1), c.before #[Value.ref b] s = true := atoms_spec (ws := Jvm.Cond.code x code maxLocals ret :: tables_1) B.pre
    have hts : ∀ w ∈ lw_tbl, w.before #[Value.ref b] s = true := k2_hts_sels lw_privs (fun w hw => hts0 w (List.mem_cons_of_mem _ hw)) lw_privs_ok
    have hml : c.maxLocals = 4 := B.maxLocals_eq (hts0 _ List.mem_cons_self)
    have X₀ : Stand p l e bigR s m #[Value.ref b] below meth c s₁ [] 0 0 := Stand.of_body B
    have hh0 : s₁.heap = s.heap := by rw [B.state]; rfl
    have hsz : sc.slots.size = 3072 := by rw [← Array.length_toList, hlist, List.length_map, List.length_map, List.length_range]
    have hval : ∀ j : Nat, j < 3072 → sc.slots[j]? = some (.int (scr j)) := fun j hj => by
      rw [← Array.getElem?_toList, hlist, List.getElem?_map, List.getElem?_map, List.getElem?_range hj]
      rfl
    have hbl : b < s.heap.size := (Array.getElem?_eq_some_iff.mp hcb).1
    have hX : va_X b 3072 scr s s.heap := ⟨sc, hcb, hof, hkn, hsz, hval⟩
    have K : W p l e bigR s m #[Value.ref b] below meth c s₁.heap [] 0 0 (bZ below s) (entryFrame m ([Value.ref b] : List Value).toArray 4) := by
      rw [hh0]
      exact whole_walk l tX pX g1 g2 gM ⟨B.exec, B.bytes, B.returns, hml, hown, hts, hX, hbl, B.notSynchronized⟩
    obtain ⟨t, a1, o, b1, b2, b3⟩ := K s₁ rfl X₀
    exact ⟨t, o, a1, b1, b2, b3⟩
