/-! THE LAW: how it is walked -/
def iv (k : Nat) : Int32 := Int32.ofNat (6 * k)
theorem iv_at {k j : Nat} (hk : k < 512) (hj : j < 6) : ¬ iv k + Int32.ofNat j < 0 ∧ (iv k + Int32.ofNat j).toNatClampNeg = 6 * k + j := by
  have e : iv k + Int32.ofNat j = Int32.ofNat (6 * k + j) := by unfold iv; rw [Int32.ofNat_add]
  rw [e]
  refine ⟨fun h => ?_, Int32.toNatClampNeg_ofNat_of_lt (by omega)⟩
  rw [Int32.lt_iff_toInt_lt, Int32.toInt_ofNat_of_lt (by omega)] at h
  have h2 : (0 : Int32).toInt = 0 := by decide
  omega
theorem iv_op {k : Nat} (hk : k < 512) : ¬ iv k < 0 ∧ (iv k).toNatClampNeg = 6 * k := by
  refine ⟨fun h => ?_, Int32.toNatClampNeg_ofNat_of_lt (by omega)⟩
  unfold iv at h
  rw [Int32.lt_iff_toInt_lt, Int32.toInt_ofNat_of_lt (by omega)] at h
  have h2 : (0 : Int32).toInt = 0 := by decide
  omega
theorem iv_next (k : Nat) : iv k + 6 = iv (k + 1) := by
  unfold iv
  rw [show 6 * (k + 1) = 6 * k + 6 by omega, Int32.ofNat_add]
  rfl
theorem iv_in {k : Nat} (hk : k < 512) : ¬ Int32.ofNat 3072 - 6 < iv k := by
  intro h
  have e : Int32.ofNat 3072 - 6 = Int32.ofNat 3066 := by decide
  unfold iv at h
  rw [e, Int32.lt_iff_toInt_lt, Int32.toInt_ofNat_of_lt (by omega), Int32.toInt_ofNat_of_lt (by omega)] at h
  omega
theorem iv_out : Int32.ofNat 3072 - 6 < iv 512 := by decide
section LW
variable {p : Program} {l : Launch} {e : Env} {s : State} {m : MethodId} {below : List Frame} {meth : Method} {c : Code} {H : Heap} {locs : List Loc} {cells slots : Nat} {pc : Nat} {ls : Array Slot} {ads : List Nat} {D : va_G} {h : List MC} {b L : Nat} {xs : Nat → Int32} {rest0 : List Value}
theorem l_hts (C : lw_At p s m meth c b L xs) : ∀ w ∈ lw_g, w.before #[Value.ref b] s = true := fun w hw => C.2.2.2.2.2.1 w (List.mem_filter.mp hw).1
theorem l_xc (C : lw_At p s m meth c b L xs) : Xc s := va_Nw.of rfl (C.2.2.2.2.2.1 _ w_clc)
theorem l_xf (C : lw_At p s m meth c b L xs) : Xf s := by
  refine ⟨fun t ht => ?_, fun own i kd M q h1 h2 h3 => ?_⟩
  · rcases ht with rfl | rfl | rfl
    · exact C.2.2.2.2.2.1 _ w_oi
    · exact C.2.2.2.2.2.1 _ w_oii
    · exact C.2.2.2.2.2.1 _ w_oz
  · obtain ⟨pp, hpp⟩ := fl h1
    rcases h2 with rfl | rfl
    · simp only [ckL, h3, show ¬ (5 = 3) by decide, show ¬ (5 = 4) by decide, show ¬ (5 = 7) by decide, show ¬ (5 = 8) by decide, show ¬ (5 = 0) by decide, show ¬ (5 = 1) by decide, show ¬ (5 = 2) by decide, if_true, if_false, Bool.and_eq_true] at hpp
      exact va_Nw.of rfl (C.2.2.2.2.2.1 _ (watx_mem hpp.1.1))
    · simp only [ckL, h3, show ¬ (6 = 3) by decide, show ¬ (6 = 4) by decide, show ¬ (6 = 7) by decide, show ¬ (6 = 8) by decide, show ¬ (6 = 0) by decide, show ¬ (6 = 1) by decide, show ¬ (6 = 2) by decide, show ¬ (6 = 5) by decide, if_true, if_false, Bool.and_eq_true, decide_eq_true_eq] at hpp
      exact va_Nw.of rfl (C.2.2.2.2.2.1 _ (watx_mem hpp.1.1.1))
theorem l_own (C : lw_At p s m meth c b L xs) : s.vm.findClass (mon 14) = some m.cls := C.2.2.2.2.1
/-- a constructor that the law calls -/
theorem l_call {M' : Nat} {ig : Instr} {as rest st : List MV} {st0 : List Value} {q : MM} {Qc : Option MV → List MC → Prop} (C : lw_At p s m meth c b L xs) (hdg : decode code pc = .ok (ig, 3)) (hcal : mcal 14 10 ig 3 st h = some (M', 9, as, rest)) (hq : mmt[M']? = some q)
    (hW : Wd D (lA s) s H ads h) (hS : va_S (lA s) s.heap H locs) (hl : ls.size = 4 ∧ lv_wf ls) (hst : vrs ads st st0) (hpf : PF 9 M' 0 (as.map some ++ List.replicate (q.2.2.1 - as.length) none) [] h Qc)
    (hroom : ∀ r hE, Qc r hE → cells + (hE.length - h.length) ≤ bigR.cells ∧ slots + mslots (hE.drop h.length) ≤ bigR.slots)
    (kk : ∀ (r : Option MV) (hE : List MC) (H1 : Heap) (locs1 : List Loc) (ads' : List Nat) (st1 : List Value), Qc r hE → (∃ l, ads' = ads ++ l) → Wd D (lA s) s H1 ads' hE → va_S (lA s) s.heap H1 locs1 → vrs ads' (r.toList ++ rest) st1 → LG p l e s m below meth c b H1 locs1 (cells + (hE.length - h.length)) (slots + mslots (hE.drop h.length)) (pc + 3) ls st1) : LG p l e s m below meth c b H locs cells slots pc ls st0 := by
  obtain ⟨n, r, hE, hfx, hQ⟩ := hpf
  obtain ⟨y, hy, hy0⟩ := fpc_of (okx M' q hq).2
  have hmx := fx_sound okx hfx hy
  rw [hy0] at hmx
  have hks : mslots hE - mslots h = mslots (hE.drop h.length) := by
    have := mslots_keep (mx_keep hmx)
    simp only at this
    omega
  refine sim_cal (mL := 4) (d := 10) (own := 14) (cc := code) (ml := [none, none, none, none]) (mc := hE.length - h.length) (ms := mslots hE - mslots h) (hE := hE) (r := r) C.1 C.2.1 C.2.2.2.1 (l_own C) (l_hts C) (l_xf C) (l_xc C) (fun _ hq => hq) (by decide) (by decide) hdg hcal hq hW hS ⟨rfl, hl.1, hl.2, fun i v hv => ?_⟩ hst (fun xs hxs hlen => met_run hq hmx l D (lA s) ads xs hxs hlen) (hroom r hE hQ).1 (by rw [hks]; exact (hroom r hE hQ).2) fun H1 locs1 ads' st1 ha hW1 hS1 hst1 => ?_
  · exfalso
    match i, hv with
    | 0, hv => cases hv
    | 1, hv => cases hv
    | 2, hv => cases hv
    | 3, hv => cases hv
    | i + 4, hv => simp at hv
  · rw [hks]
    exact kk r hE H1 locs1 ads' st1 hQ ha hW1 hS1 hst1
/-- a method that the law calls: its closed run, then on behind it -/
theorem l_callN {M' i nl cnt uc us q0 : Nat} {as rest st : List MV} {st0 : List Value} {q : MM} {h' : List MC} {v : Int32} (C : lw_At p s m meth c b L xs) (hdg : decode code pc = .ok (.invokevirtual i, 3)) (hcal : mcal 14 30 (.invokevirtual i) 3 st h = some (M', 29, as, rest)) (hq : mmt[M']? = some q) (hnl : q.2.2.1 = nl)
    (hW : Wd D (lA s) s H ads h) (hS : va_S (lA s) s.heap H locs) (hl : ls.size = 4) (hst : vrs ads st st0) (hq0 : ads[0]? = some q0) (hpos : 0 < h'.length) (hrun : Run2 M' nl as h h' v cnt uc us) (hrc : cells + uc ≤ bigR.cells) (hrs : slots + us ≤ bigR.slots)
    (kk : ∀ (H1 : Heap) (locs1 : List Loc) (ads1 : List Nat) (st1 : List Value), Wd D (lA s) s H1 ads1 h' → ads1[0]? = some q0 → va_S (lA s) s.heap H1 locs1 → (∃ a9, vrs a9 (.inl v :: rest) st1) → (∀ q, q < H.size → q ∉ ads → H1[q]? = H[q]?) → (∀ q ∈ ads1, q ∈ ads ∨ H.size ≤ q) → H.size + cnt ≤ H1.size → LG p l e s m below meth c b H1 locs1 (cells + uc) (slots + us) (pc + 3) ls st1) : LG p l e s m below meth c b H locs cells slots pc ls st0 := by
  obtain ⟨j, ⟨n, r, hE, hfx, rfl, rfl⟩, hcl, hc1, hc2, hsl⟩ := hrun
  subst hnl
  obtain ⟨y, hy, hy0⟩ := fpc_of (okx M' q hq).2
  have hmx := fx_sound okx hfx hy
  rw [hy0] at hmx
  have hks : mslots (h' ++ j) - mslots h = mslots ((h' ++ j).drop h.length) := by
    have := mslots_keep (mx_keep hmx)
    simp only at this
    omega
  refine sim_calN (mL := 4) (d := 30) (own := 14) (cc := code) (mc := (h' ++ j).length - h.length) (ms := mslots (h' ++ j) - mslots h) (hE := h' ++ j) (r := some (.inl v)) C.1 C.2.1 C.2.2.2.1 (l_own C) (l_hts C) (l_xf C) (l_xc C) (fun _ hq => hq) (by decide) (by decide) hdg hcal hq hW hS hl hst (fun xs hxs hlen => met_runN hq hmx l D (lA s) ads xs hxs hlen) (by omega) (by omega) fun H1 locs1 la st1 hW1 hS1 hst1 hk hla hcnt => ?_
  refine W.widen (k := cells + uc) (n := slots + us) (by omega) (by omega) ?_
  refine kk H1 locs1 ((ads ++ la).take h'.length) st1 (Wd_drop hW1 hcl) ?_ hS1 ⟨_, hst1⟩ hk ?_ (by omega)
  · rw [List.getElem?_take_of_lt hpos, List.getElem?_append_left (List.getElem?_eq_some_iff.mp hq0).1]; exact hq0
  · intro q hq
    rcases List.mem_append.mp (List.mem_of_mem_take hq) with h | h
    · exact Or.inl h
    · exact Or.inr (hla q h)
/-- an argument: script[i + j] -/
theorem l_arg {k j : Nat} {n : Int} {a : Int32} (C : lw_At p s m meth c b 3072 xs) (hk : k < 512) (hS : va_S (lA s) s.heap H locs) (h0 : ls[0]? = some (.val (.ref b))) (h3 : ls[3]? = some (.val (.int (iv k)))) (hj : j < 6) (ha : xs (6 * k + j) = a) (d0 : decode code pc = .ok (.aload_n 0, 1)) (d1 : decode code (pc + 1) = .ok (.iload_n 3, 1)) (d2 : decode code (pc + 2) = .ok (.iconst n, 1)) (d3 : decode code (pc + 3) = .ok (.iadd, 1)) (d4 : decode code (pc + 4) = .ok (.iaload, 1)) (hv : Int32.ofInt n = Int32.ofNat j)
    (kk : LG p l e s m below meth c b H locs cells slots (pc + 5) ls (.int a :: rest0)) : LG p l e s m below meth c b H locs cells slots pc ls rest0 := by
  obtain ⟨hx, hb, -, -, -, -, hX, hbl, -⟩ := id C
  obtain ⟨i1, i2⟩ := iv_at hk hj
  refine lv_aload_n hx hb d0 rfl h0 ?_
  refine lv_iload_n hx hb d1 rfl h3 ?_
  refine lv_iconst (v := Int32.ofNat j) hx hb d2 hv ?_
  refine lv_iadd hx hb d3 ?_
  refine va_sld (A := lA s) hx hb hX hbl (Nat.not_le.mpr hbl) hS (fun q => ?_) d4 ?_
  · rcases q with q | q
    · exact i1 q
    · rw [i2] at q; omega
  · rw [i2, ha]; exact kk
/-- an argument's '!= 0', false -/
theorem l_bool0 {t : Nat} (C : lw_At p s m meth c b L xs) (d0 : decode code pc = .ok (.ifCond .eq 7, 3)) (d3 : decode code (pc + 7) = .ok (.iconst 0, 1)) (ht : t = pc + 8)
    (kk : LG p l e s m below meth c b H locs cells slots t ls (.int 0 :: rest0)) : LG p l e s m below meth c b H locs cells slots pc ls (.int 0 :: rest0) := by
  subst ht
  refine lv_if_eq (tgt := pc + 7) C.1 C.2.1 d0 (by omega) (fun h => ?_) (fun h => absurd rfl h)
  exact lv_iconst (v := 0) C.1 C.2.1 d3 (by decide) kk
end LW
