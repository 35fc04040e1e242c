/-! THE LAW ON THE SCRIPT, from its entry to its end -/
set_option maxRecDepth 1000000 in
theorem hD_cl : hD.all (fun c => c.2.all (clv hD.length)) = true := by decide +kernel
set_option maxRecDepth 1000000 in
theorem hJ_is : hJ = hD ++ hS := eqH_eq (by decide +kernel)
set_option maxRecDepth 1000000 in
theorem hJ_pick : (hJ.drop 70).take hM.length = hM.map (shc 70) := eqH_eq (by decide +kernel)
set_option maxRecDepth 1000000 in
theorem hJ_room : 1 + (hD.length - 1) ≤ 70 ∧ mslots (hD.drop 1) ≤ 5000 ∧ 70 + 1 + (hJ.length - 71) ≤ 100 ∧ 10000 + mslots (hJ.drop 71) ≤ 20000 := by decide +kernel
section LW
variable {p : Program} {l : Launch} {e : Env} {s : State} {m : MethodId} {below : List Frame} {meth : Method} {c : Code} {D : va_G} {b : Nat}
set_option maxHeartbeats 40000000 in
set_option maxRecDepth 100000 in
theorem set_up {H : Heap} {locs : List Loc} {ls : Array Slot} (C : lw_At p s m meth c b 3072 scr) (I : IV D s b 0 hX0 hM0 0 H locs ls) (kk : ∀ (H : Heap) (locs : List Loc) (ls : Array Slot), IV D s b 15 hX15 hM15 0 H locs ls → LG p l e s m below meth c b H locs (nC 15) (nS 15) 18 ls []) : LG p l e s m below meth c b H locs (nC 0) (nS 0) 18 ls [] := by
  refine st_symbol (k := 0) C (by decide) (by decide +kernel) (by decide +kernel) (by decide +kernel) I (by decide +kernel) (by decide +kernel) (by decide +kernel) (by decide +kernel) rX0 rM0 fun H locs ls I => ?_
  refine st_symbol (k := 1) C (by decide) (by decide +kernel) (by decide +kernel) (by decide +kernel) I (by decide +kernel) (by decide +kernel) (by decide +kernel) (by decide +kernel) rX1 rM1 fun H locs ls I => ?_
  refine st_symbol (k := 2) C (by decide) (by decide +kernel) (by decide +kernel) (by decide +kernel) I (by decide +kernel) (by decide +kernel) (by decide +kernel) (by decide +kernel) rX2 rM2 fun H locs ls I => ?_
  refine st_term (k := 3) C (by decide) (by decide +kernel) (by decide +kernel) (by decide +kernel) (by decide +kernel) (by decide +kernel) I (by decide +kernel) (by decide +kernel) (by decide +kernel) (by decide +kernel) rX3 rM3 fun H locs ls I => ?_
  refine st_term (k := 4) C (by decide) (by decide +kernel) (by decide +kernel) (by decide +kernel) (by decide +kernel) (by decide +kernel) I (by decide +kernel) (by decide +kernel) (by decide +kernel) (by decide +kernel) rX4 rM4 fun H locs ls I => ?_
  refine st_term (k := 5) C (by decide) (by decide +kernel) (by decide +kernel) (by decide +kernel) (by decide +kernel) (by decide +kernel) I (by decide +kernel) (by decide +kernel) (by decide +kernel) (by decide +kernel) rX5 rM5 fun H locs ls I => ?_
  refine st_term (k := 6) C (by decide) (by decide +kernel) (by decide +kernel) (by decide +kernel) (by decide +kernel) (by decide +kernel) I (by decide +kernel) (by decide +kernel) (by decide +kernel) (by decide +kernel) rX6 rM6 fun H locs ls I => ?_
  refine st_term (k := 7) C (by decide) (by decide +kernel) (by decide +kernel) (by decide +kernel) (by decide +kernel) (by decide +kernel) I (by decide +kernel) (by decide +kernel) (by decide +kernel) (by decide +kernel) rX7 rM7 fun H locs ls I => ?_
  refine st_term (k := 8) C (by decide) (by decide +kernel) (by decide +kernel) (by decide +kernel) (by decide +kernel) (by decide +kernel) I (by decide +kernel) (by decide +kernel) (by decide +kernel) (by decide +kernel) rX8 rM8 fun H locs ls I => ?_
  refine st_term (k := 9) C (by decide) (by decide +kernel) (by decide +kernel) (by decide +kernel) (by decide +kernel) (by decide +kernel) I (by decide +kernel) (by decide +kernel) (by decide +kernel) (by decide +kernel) rX9 rM9 fun H locs ls I => ?_
  refine st_term (k := 10) C (by decide) (by decide +kernel) (by decide +kernel) (by decide +kernel) (by decide +kernel) (by decide +kernel) I (by decide +kernel) (by decide +kernel) (by decide +kernel) (by decide +kernel) rX10 rM10 fun H locs ls I => ?_
  refine st_term (k := 11) C (by decide) (by decide +kernel) (by decide +kernel) (by decide +kernel) (by decide +kernel) (by decide +kernel) I (by decide +kernel) (by decide +kernel) (by decide +kernel) (by decide +kernel) rX11 rM11 fun H locs ls I => ?_
  refine st_term (k := 12) C (by decide) (by decide +kernel) (by decide +kernel) (by decide +kernel) (by decide +kernel) (by decide +kernel) I (by decide +kernel) (by decide +kernel) (by decide +kernel) (by decide +kernel) rX12 rM12 fun H locs ls I => ?_
  refine st_term (k := 13) C (by decide) (by decide +kernel) (by decide +kernel) (by decide +kernel) (by decide +kernel) (by decide +kernel) I (by decide +kernel) (by decide +kernel) (by decide +kernel) (by decide +kernel) rX13 rM13 fun H locs ls I => ?_
  refine st_equation (k := 14) C (by decide) (by decide +kernel) (by decide +kernel) (by decide +kernel) I (by decide +kernel) (by decide +kernel) (by decide +kernel) (by decide +kernel) rX14 rM14 fun H locs ls I => ?_
  exact kk H locs ls I
set_option maxHeartbeats 40000000 in
set_option maxRecDepth 100000 in
/-- from the entry to the loop's head -/
theorem to_loop (l : Launch) (C0 : lw_At p s m meth c b 3072 scr) (kk : ∀ (D : va_G) (H : Heap) (locs : List Loc) (ls : Array Slot), IV D s b 0 hX0 hM0 0 H locs ls → LG p l e s m below meth c b H locs (nC 0) (nS 0) 18 ls []) : W p l e bigR s m #[Value.ref b] below meth c s.heap [] 0 0 (bZ below s) (entryFrame m ([Value.ref b] : List Value).toArray 4) := by
  have C := C0
  obtain ⟨hx, hb, hr, hml, hown, hts, hX, hbl, hlocks⟩ := id C0
  have hg := l_hts C
  have hKn : ∀ (k : Nat) (q : vw_C), mcl[k]? = some q → ∃ (cI : ClassId) (iS : Nat → Nat), u_Kn s q.1 q.2.1 q.2.2 cI iS := fun k q hq => by
    obtain ⟨c1, c2, c3, c4, c5, c6, c7⟩ := fc hq
    exact u_known (C := q.1) (T := q.2.1) (N := q.2.2) (n := q.2.2) hg c1 (hg _ c6)
  obtain ⟨dC, dI, hKc⟩ : ∃ (dC : Nat → ClassId) (dI : Nat → Nat → Nat), ∀ (k : Nat) (q : vw_C), mcl[k]? = some q → u_Kn s q.1 q.2.1 q.2.2 (dC k) (dI k) := by
    have hch : ∀ k : Nat, ∃ (w : ClassId × (Nat → Nat)), ∀ q : vw_C, mcl[k]? = some q → u_Kn s q.1 q.2.1 q.2.2 w.1 w.2 := fun k => by
      cases hk : mcl[k]? with
      | none => exact ⟨(m.cls, fun _ => 0), fun q hq => by cases hq⟩
      | some q0 =>
        obtain ⟨cI, iS, h⟩ := hKn k q0 hk
        exact ⟨(cI, iS), fun q hq => by cases hq; exact h⟩
    exact ⟨fun k => (Classical.choose (hch k)).1, fun k => (Classical.choose (hch k)).2, fun k q hq => Classical.choose_spec (hch k) q hq⟩
  have hS0 : va_S (lA s) s.heap s.heap [] := va_S.rf
  have hW : Wd (dC, dI) (lA s) s s.heap [] [] := ⟨[], [], rfl, rfl, fun a c q h => by simp at h, fun k q h => by simp at h, ⟨fun i j p q h => by simp at h, fun k q h => by simp at h⟩, ⟨hKc, fun k q h => by simp at h⟩, fun k q h => by simp at h⟩
  have hl := lv_entry ([.ref b]) (n := 4) (Nat.le_of_ble_eq_true rfl)
  rw [lg_entry_eq]
  generalize (lg_sl ([.ref b]) ++ List.replicate (4 - (lg_sl ([.ref b])).length) Slot.unset).toArray = ls at hl ⊢
  have hl : lv_has ls 4 [(0, .ref b)] := hl
  refine s_new (own := 14) (i := 7) (ci := 10) hx hb (l_own C) hg (fun _ h => h) hW hS0 (by decide +kernel) (by decide) (by decide) d_law_0 fun H qx hW hS0 => ?_
  refine lv_dup hx hb d_law_3 rfl ?_
  refine l_call (st := [.inr (some 0), .inr (some 0)]) (as := [.inr (some 0)]) (rest := [.inr (some 0)]) (Qc := fun r hE => r = none ∧ hE = hD) C d_law_4 rfl rfl hW hS0 ⟨hl.1, hl.2.1⟩ ⟨⟨qx, rfl, rfl⟩, ⟨qx, rfl, rfl⟩, trivial⟩ ⟨5000, none, hD, hD_made, rfl, rfl⟩ (fun r hE ok => by obtain ⟨-, rfl⟩ := ok; exact ⟨by decide +kernel, by decide +kernel⟩) fun r hE H1 locs1 ads1 st1 hQ ha hW1 hS1 hst1 => ?_
  obtain ⟨rfl, rfl⟩ := hQ
  obtain ⟨q0, r1, rfl, hq0, hr1⟩ := vrs_r (st := []) hst1
  have hr1e : r1 = [] := by
    match r1, hr1 with
    | [], _ => rfl
    | _ :: _, hr1 => exact hr1.elim
  subst hr1e
  refine W.widen (k := 70) (n := 5000) (by decide +kernel) (by decide +kernel) ?_
  refine lv_astore_n (lv' := [(1, .ref q0), (0, .ref b)]) hx hb d_law_7 rfl hl (by decide) rfl (fun ls hl => ?_)
  refine s_new (own := 14) (i := 10) (ci := 11) hx hb (l_own C) hg (fun _ h => h) hW1 hS1 (by decide +kernel) (by decide) (by decide) d_law_8 fun H qy hW2 hS2 => ?_
  refine lv_dup hx hb d_law_11 rfl ?_
  have hqy : (ads1 ++ [qy])[70]? = some qy := by
    have : ads1.length = 70 := by
      rw [Wd_len hW1]
      rfl
    rw [List.getElem?_append_right (by omega), this]
    rfl
  refine l_call (st := [.inr (some 70), .inr (some 70)]) (as := [.inr (some 70)]) (rest := [.inr (some 70)]) (Qc := fun r hE => r = none ∧ hE = hJ) C d_law_12 rfl rfl hW2 hS2 ⟨hl.1, hl.2.1⟩ ⟨⟨qy, hqy, rfl⟩, ⟨qy, hqy, rfl⟩, trivial⟩ ⟨5000, none, hJ, hJ_made, rfl, rfl⟩ (fun r hE ok => by obtain ⟨-, rfl⟩ := ok; exact ⟨by decide +kernel, by decide +kernel⟩) fun r hE H3 locs3 ads3 st3 hQ ha3 hW3 hS3 hst3 => ?_
  obtain ⟨rfl, rfl⟩ := hQ
  obtain ⟨q1, r3, rfl, hq1, hr3⟩ := vrs_r (st := []) hst3
  have hr3e : r3 = [] := by
    match r3, hr3 with
    | [], _ => rfl
    | _ :: _, hr3 => exact hr3.elim
  subst hr3e
  have hq0' : ads3[0]? = some q0 := by
    obtain ⟨la, rfl⟩ := ha3
    rw [List.append_assoc, List.getElem?_append_left (List.getElem?_eq_some_iff.mp hq0).1]
    exact hq0
  refine W.widen (k := nC 0) (n := nS 0) (by decide +kernel) (by decide +kernel) ?_
  refine lv_astore_n (lv' := [(2, .ref q1), (1, .ref q0), (0, .ref b)]) hx hb d_law_15 rfl hl (by decide) rfl (fun ls hl => ?_)
  refine lv_iconst (v := 0) hx hb d_law_16 (by decide) ?_
  refine lv_istore_n (lv' := [(3, .int 0), (2, .ref q1), (1, .ref q0), (0, .ref b)]) hx hb d_law_17 rfl hl (by decide) rfl (fun ls hl => ?_)
  have hnd := Wd_nd hW3
  have hWM := Wd_pick (k := 70) (g := hM) hW3 hJ_pick hM_cl
  rw [hJ_is] at hW3
  have hWX := Wd_drop hW3 hD_cl
  rw [← List.take_append_drop 70 ads3] at hnd
  refine kk (dC, dI) H3 locs3 ls ⟨ads3.take hD.length, (ads3.drop 70).take hM.length, q0, q1, hWX, hWM, fun q hq hq2 => (List.nodup_append.mp hnd).2.2 q hq2 q (List.mem_of_mem_take hq) rfl, ?_, ?_, hS3, hl, by have := hS3.1; omega⟩
  · rw [List.getElem?_take_of_lt (by decide)]; exact hq0'
  · rw [List.getElem?_take_of_lt (by decide), List.getElem?_drop]; exact hq1
/-- THE WHOLE WALK: given what complete(1) does -/
theorem whole_walk (l : Launch) {hY : List MC} (tX : (hY[0]?).map (·.1) = some 20) (pX : 0 < hY.length) (g1 : Run2 70 5 [.inr (some 0), .inl 1] hX15 hY 2 0 2 48) (g2 : Run2 70 5 [.inr (some 0), .inl 1] hY hY 2 0 2 48) (gM : Run2 129 5 [.inr (some 0), .inl 1] hM15 hM15 2 2774 2774 14996) (C : lw_At p s m meth c b 3072 scr) : W p l e bigR s m #[Value.ref b] below meth c s.heap [] 0 0 (bZ below s) (entryFrame m ([Value.ref b] : List Value).toArray 4) := by
  refine to_loop l C fun D H locs ls I => ?_
  refine set_up C I fun H locs ls I => ?_
  refine st_complete (k := 15) (v := 2) C (by decide) (scr_g (j := 0) (by decide) (by decide)) (scr_g (j := 1) (by decide) (by decide)) I (by decide +kernel) (by decide +kernel) pX (by decide +kernel) g1 gM fun H locs ls I => ?_
  exact loopG C tX (by decide +kernel) pX (by decide +kernel) g2 gM 496 16 2774 H locs ls (by decide) (by decide) (by decide) I
end LW
