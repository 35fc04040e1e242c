/-! THE LAW: how it is walked -/
abbrev lA (s : State) : Nat → Prop := fun q => s.heap.size ≤ q
abbrev LG (p : Program) (l : Launch) (e : Env) (s : State) (m : MethodId) (below : List Frame) (meth : Method) (c : Code) (b : Nat) (H : Heap) (locs : List Loc) (cells slots pc : Nat) (ls : Array Slot) (st : List Value) : Prop := W p l e room_1 s m #[Value.ref b] below meth c H locs cells slots (lw_Z below #[Value.ref b] s) (F0 m pc ls st)
section LW
variable {p : Program} {l : Launch} {e : Env} {s : State} {m : MethodId} {below : List Frame} {meth : Method} {c : Code} {H : Heap} {locs : List Loc} {cells slots : Nat} {pc : Nat} {ls : Array Slot} {ads : List Nat} {D : va_G} {h : List MC} {b L : Nat} {xs : Nat → Int32} {rest0 : List Value}
theorem l_hts (C : lw_At p s m meth c b L xs) : ∀ w ∈ lw_g, w.before #[Value.ref b] s = true := fun w hw => C.2.2.2.2.2.1 w (List.mem_filter.mp hw).1
theorem l_xc (C : lw_At p s m meth c b L xs) : Xc s := va_Nw.of rfl (C.2.2.2.2.2.1 _ w_clc)
theorem l_xf (C : lw_At p s m meth c b L xs) : Xf s := by
  refine ⟨fun t ht => ?_, fun own i kd M q h1 h2 h3 => ?_⟩
  · rcases ht with rfl | rfl | rfl
    · exact C.2.2.2.2.2.1 _ w_oi
    · exact C.2.2.2.2.2.1 _ w_oii
    · exact C.2.2.2.2.2.1 _ w_oz
  · obtain ⟨pp, hpp⟩ := fl h1
    rcases h2 with rfl | rfl
    · simp only [ckL, h3, show ¬ (5 = 3) by decide, show ¬ (5 = 4) by decide, show ¬ (5 = 7) by decide, show ¬ (5 = 8) by decide, show ¬ (5 = 0) by decide, show ¬ (5 = 1) by decide, show ¬ (5 = 2) by decide, if_true, if_false, Bool.and_eq_true] at hpp
      exact va_Nw.of rfl (C.2.2.2.2.2.1 _ (watx_mem hpp.1.1))
    · simp only [ckL, h3, show ¬ (6 = 3) by decide, show ¬ (6 = 4) by decide, show ¬ (6 = 7) by decide, show ¬ (6 = 8) by decide, show ¬ (6 = 0) by decide, show ¬ (6 = 1) by decide, show ¬ (6 = 2) by decide, show ¬ (6 = 5) by decide, if_true, if_false, Bool.and_eq_true, decide_eq_true_eq] at hpp
      exact va_Nw.of rfl (C.2.2.2.2.2.1 _ (watx_mem hpp.1.1.1))
theorem l_own (C : lw_At p s m meth c b L xs) : s.vm.findClass (mon 14) = some m.cls := C.2.2.2.2.1
/-- a call that the law makes: its run of the small machine, then on behind it -/
theorem l_call {M' : Nat} {ig : Instr} {as rest st : List MV} {st0 : List Value} {q : MM} {Qc : Option MV → List MC → Prop} (C : lw_At p s m meth c b L xs) (hdg : decode code pc = .ok (ig, 3)) (hcal : mcal 14 10 ig 3 st h = some (M', 9, as, rest)) (hq : mmt[M']? = some q)
    (hW : Wd D (lA s) s H ads h) (hS : va_S (lA s) s.heap H locs) (hl : ls.size = 4 ∧ lv_wf ls) (hst : vrs ads st st0) (hpf : PF 9 M' 0 (as.map some ++ List.replicate (q.2.2.1 - as.length) none) [] h Qc)
    (hroom : ∀ r hE, Qc r hE → cells + (hE.length - h.length) ≤ room_1.cells ∧ slots + mslots (hE.drop h.length) ≤ room_1.slots)
    (kk : ∀ (r : Option MV) (hE : List MC) (H1 : Heap) (locs1 : List Loc) (ads' : List Nat) (st1 : List Value), Qc r hE → (∃ l, ads' = ads ++ l) → Wd D (lA s) s H1 ads' hE → va_S (lA s) s.heap H1 locs1 → vrs ads' (r.toList ++ rest) st1 → LG p l e s m below meth c b H1 locs1 (cells + (hE.length - h.length)) (slots + mslots (hE.drop h.length)) (pc + 3) ls st1) : LG p l e s m below meth c b H locs cells slots pc ls st0 := by
  obtain ⟨n, r, hE, hfx, hQ⟩ := hpf
  obtain ⟨y, hy, hy0⟩ := fpc_of (okx M' q hq).2
  have hmx := fx_sound okx hfx hy
  rw [hy0] at hmx
  have hks : mslots hE - mslots h = mslots (hE.drop h.length) := by
    have := mslots_keep (mx_keep hmx)
    simp only at this
    omega
  refine sim_cal (mL := 4) (d := 10) (own := 14) (cc := code) (ml := [none, none, none, none]) (mc := hE.length - h.length) (ms := mslots hE - mslots h) (hE := hE) (r := r) C.1 C.2.1 C.2.2.2.1 (l_own C) (l_hts C) (l_xf C) (l_xc C) (fun _ hq => hq) (by decide) (by decide) hdg hcal hq hW hS ⟨rfl, hl.1, hl.2, fun i v hv => ?_⟩ hst (fun xs hxs hlen => met_run hq hmx l D (lA s) ads xs hxs hlen) (hroom r hE hQ).1 (by rw [hks]; exact (hroom r hE hQ).2) fun H1 locs1 ads' st1 ha hW1 hS1 hst1 => ?_
  · exfalso
    match i, hv with
    | 0, hv => cases hv
    | 1, hv => cases hv
    | 2, hv => cases hv
    | 3, hv => cases hv
    | i + 4, hv => simp at hv
  · rw [hks]
    exact kk r hE H1 locs1 ads' st1 hQ ha hW1 hS1 hst1
/-- an argument: script[i + k], i being 0 -/
theorem l_arg {k : Nat} {n : Int} {v : Int32} (C : lw_At p s m meth c b L xs) (hL : L = 6) (hS : va_S (lA s) s.heap H locs) (h0 : ls[0]? = some (.val (.ref b))) (h3 : ls[3]? = some (.val (.int 0))) (d0 : decode code pc = .ok (.aload_n 0, 1)) (d1 : decode code (pc + 1) = .ok (.iload_n 3, 1)) (d2 : decode code (pc + 2) = .ok (.iconst n, 1)) (d3 : decode code (pc + 3) = .ok (.iadd, 1)) (d4 : decode code (pc + 4) = .ok (.iaload, 1)) (hv : Int32.ofInt n = v) (hk : (0 + v).toNatClampNeg = k) (hneg : ¬ 0 + v < 0) (hk6 : k < 6)
    (kk : LG p l e s m below meth c b H locs cells slots (pc + 5) ls (.int (xs k) :: rest0)) : LG p l e s m below meth c b H locs cells slots pc ls rest0 := by
  obtain ⟨hx, hb, -, -, -, -, hX, hbl, -⟩ := id C
  refine lv_aload_n hx hb d0 rfl h0 ?_
  refine lv_iload_n hx hb d1 rfl h3 ?_
  refine lv_iconst (v := v) hx hb d2 hv ?_
  refine lv_iadd hx hb d3 ?_
  refine va_sld (A := lA s) hx hb hX hbl (Nat.not_le.mpr hbl) hS (fun q => ?_) d4 ?_
  · rcases q with q | q
    · exact hneg q
    · rw [hk] at q; omega
  · rw [hk]; exact kk
def bz (x : Int32) : Int32 := if x = 0 then 0 else 1
theorem bz_01 (x : Int32) : bz x = 0 ∨ bz x = 1 := by unfold bz; split <;> simp
/-- an argument's '!= 0' -/
theorem l_bool {x : Int32} {t : Nat} (C : lw_At p s m meth c b L xs) (d0 : decode code pc = .ok (.ifCond .eq 7, 3)) (d1 : decode code (pc + 3) = .ok (.iconst 1, 1)) (d2 : decode code (pc + 4) = .ok (.goto 4, 3)) (d3 : decode code (pc + 7) = .ok (.iconst 0, 1)) (ht : t = pc + 8)
    (kk : LG p l e s m below meth c b H locs cells slots t ls (.int (bz x) :: rest0)) : LG p l e s m below meth c b H locs cells slots pc ls (.int x :: rest0) := by
  subst ht
  have hx := C.1
  have hb := C.2.1
  refine lv_if_eq (tgt := pc + 7) hx hb d0 (by omega) (fun h => ?_) (fun h => ?_)
  · refine lv_iconst (v := 0) hx hb d3 (by decide) ?_
    have e : bz x = 0 := if_pos h
    rw [e] at kk
    exact kk
  · refine lv_iconst (v := 1) hx hb d1 (by decide) ?_
    refine lv_goto (tgt := pc + 8) hx hb d2 (by omega) ?_
    have e : bz x = 1 := if_neg h
    rw [e] at kk
    exact kk
end LW
