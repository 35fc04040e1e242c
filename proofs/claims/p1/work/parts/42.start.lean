set_option maxHeartbeats 40000000 in
set_option maxRecDepth 100000 in
/-- the switch, at a fresh desk and a fresh model -/
theorem l_switch {p : Program} {l : Launch} {e : Env} {s : State} {m : MethodId} {below : List Frame} {meth : Method} {c : Code} {H : Heap} {locs : List Loc} {cells slots : Nat} {ls : Array Slot} {ads : List Nat} {D : va_G} {b L : Nat} {xs : Nat → Int32} {q0 q1 : Nat} (C : lw_At p s m meth c b L xs) (hL : L = 6) (hW : Wd D (lA s) s H ads hJ) (hS : va_S (lA s) s.heap H locs) (hq0 : ads[0]? = some q0) (hq1 : ads[70]? = some q1) (hl : lv_has ls 4 [(3, .int 0), (2, .ref q1), (1, .ref q0), (0, .ref b)]) (hc : cells ≤ 100) (hs : slots ≤ 20000) : LG p l e s m below meth c b H locs cells slots 27 ls [] := by
  obtain ⟨hx, hb, -, -, -, -, hX, hbl, -⟩ := id C
  refine lv_aload_n hx hb d_law_27 rfl (lv_at hl 3 rfl) ?_
  refine lv_iload_n hx hb d_law_28 rfl (lv_at hl 0 rfl) ?_
  refine va_sld (A := lA s) hx hb hX hbl (Nat.not_le.mpr hbl) hS (fun q => ?_) d_law_29 ?_
  · rw [hL] at q
    rcases q with q | q
    · exact absurd q (by decide)
    · exact absurd q (by decide)
  refine lv_bipush (v := 31) hx hb d_law_30 (by decide) ?_
  refine lv_iand hx hb d_law_32 ?_
  refine lv_topi (fun y hy => ?_)
  clear hy
  by_cases h1 : y.toInt < 0 ∨ 18 < y.toInt
  · refine lv_tableOut (tgt := 829) hx hb d_law_33 h1 (by decide) ?_
    exact l_end C hL hS hl (by omega) (by omega)
  · have ey : ∀ k : Int32, y.toInt = k.toInt → y = k := fun k hk => Int32.toInt_inj.mp hk
    rcases (show y.toInt = 0 ∨ y.toInt = 1 ∨ y.toInt = 2 ∨ y.toInt = 3 ∨ y.toInt = 4 ∨ y.toInt = 5 ∨ y.toInt = 6 ∨ y.toInt = 7 ∨ y.toInt = 8 ∨ y.toInt = 9 ∨ y.toInt = 10 ∨ y.toInt = 11 ∨ y.toInt = 12 ∨ y.toInt = 13 ∨ y.toInt = 14 ∨ y.toInt = 15 ∨ y.toInt = 16 ∨ y.toInt = 17 ∨ y.toInt = 18 by omega) with h | h | h | h | h | h | h | h | h | h | h | h | h | h | h | h | h | h | h
    · have e0 := ey 0 h
      subst e0
      refine lv_tableIn (off := 91) (tgt := 124) hx hb d_law_33 (by decide) (by decide) (by decide) (by decide) ?_
      exact l_c0 C hL hW hS hq0 hq1 hl hc hs
    · have e0 := ey 1 h
      subst e0
      refine lv_tableIn (off := 140) (tgt := 173) hx hb d_law_33 (by decide) (by decide) (by decide) (by decide) ?_
      exact l_c1 C hL hW hS hq0 hq1 hl hc hs
    · have e0 := ey 2 h
      subst e0
      refine lv_tableIn (off := 173) (tgt := 206) hx hb d_law_33 (by decide) (by decide) (by decide) (by decide) ?_
      exact l_c2 C hL hW hS hq0 hq1 hl hc hs
    · have e0 := ey 3 h
      subst e0
      refine lv_tableIn (off := 226) (tgt := 259) hx hb d_law_33 (by decide) (by decide) (by decide) (by decide) ?_
      exact l_c3 C hL hW hS hq0 hq1 hl hc hs
    · have e0 := ey 4 h
      subst e0
      refine lv_tableIn (off := 249) (tgt := 282) hx hb d_law_33 (by decide) (by decide) (by decide) (by decide) ?_
      exact l_c4 C hL hW hS hq0 hq1 hl hc hs
    · have e0 := ey 5 h
      subst e0
      refine lv_tableIn (off := 282) (tgt := 315) hx hb d_law_33 (by decide) (by decide) (by decide) (by decide) ?_
      exact l_c5 C hL hW hS hq0 hq1 hl hc hs
    · have e0 := ey 6 h
      subst e0
      refine lv_tableIn (off := 315) (tgt := 348) hx hb d_law_33 (by decide) (by decide) (by decide) (by decide) ?_
      exact l_c6 C hL hW hS hq0 hq1 hl hc hs
    · have e0 := ey 7 h
      subst e0
      refine lv_tableIn (off := 348) (tgt := 381) hx hb d_law_33 (by decide) (by decide) (by decide) (by decide) ?_
      exact l_c7 C hL hW hS hq0 hq1 hl hc hs
    · have e0 := ey 8 h
      subst e0
      refine lv_tableIn (off := 381) (tgt := 414) hx hb d_law_33 (by decide) (by decide) (by decide) (by decide) ?_
      exact l_c8 C hL hW hS hq0 hq1 hl hc hs
    · have e0 := ey 9 h
      subst e0
      refine lv_tableIn (off := 444) (tgt := 477) hx hb d_law_33 (by decide) (by decide) (by decide) (by decide) ?_
      exact l_c9 C hL hW hS hq0 hq1 hl hc hs
    · have e0 := ey 10 h
      subst e0
      refine lv_tableIn (off := 477) (tgt := 510) hx hb d_law_33 (by decide) (by decide) (by decide) (by decide) ?_
      exact l_c10 C hL hW hS hq0 hq1 hl hc hs
    · have e0 := ey 11 h
      subst e0
      refine lv_tableIn (off := 530) (tgt := 563) hx hb d_law_33 (by decide) (by decide) (by decide) (by decide) ?_
      exact l_c11 C hL hW hS hq0 hq1 hl hc hs
    · have e0 := ey 12 h
      subst e0
      refine lv_tableIn (off := 563) (tgt := 596) hx hb d_law_33 (by decide) (by decide) (by decide) (by decide) ?_
      exact l_c12 C hL hW hS hq0 hq1 hl hc hs
    · have e0 := ey 13 h
      subst e0
      refine lv_tableIn (off := 586) (tgt := 619) hx hb d_law_33 (by decide) (by decide) (by decide) (by decide) ?_
      exact l_c13 C hL hW hS hq0 hq1 hl hc hs
    · have e0 := ey 14 h
      subst e0
      refine lv_tableIn (off := 599) (tgt := 632) hx hb d_law_33 (by decide) (by decide) (by decide) (by decide) ?_
      exact l_c14 C hL hW hS hq0 hq1 hl hc hs
    · have e0 := ey 15 h
      subst e0
      refine lv_tableIn (off := 658) (tgt := 691) hx hb d_law_33 (by decide) (by decide) (by decide) (by decide) ?_
      exact l_c15 C hL hW hS hq0 hq1 hl hc hs
    · have e0 := ey 16 h
      subst e0
      refine lv_tableIn (off := 671) (tgt := 704) hx hb d_law_33 (by decide) (by decide) (by decide) (by decide) ?_
      exact l_c16 C hL hW hS hq0 hq1 hl hc hs
    · have e0 := ey 17 h
      subst e0
      refine lv_tableIn (off := 730) (tgt := 763) hx hb d_law_33 (by decide) (by decide) (by decide) (by decide) ?_
      exact l_c17 C hL hW hS hq0 hq1 hl hc hs
    · have e0 := ey 18 h
      subst e0
      refine lv_tableIn (off := 763) (tgt := 796) hx hb d_law_33 (by decide) (by decide) (by decide) (by decide) ?_
      exact l_c18 C hL hW hS hq0 hq1 hl hc hs
set_option maxHeartbeats 40000000 in
set_option maxRecDepth 100000 in
/-- THE LAW, from its entry -/
theorem whole_start {p : Program} {e : Env} {s : State} {m : MethodId} {below : List Frame} {meth : Method} {c : Code} (l : Launch) {b L : Nat} {xs : Nat → Int32} (hL : L ≤ 6) (C0 : lw_At p s m meth c b L xs) : W p l e room_1 s m #[Value.ref b] below meth c s.heap [] 0 0 (lw_Z below #[Value.ref b] s) (entryFrame m ([Value.ref b] : List Value).toArray 4) := by
  have C := C0
  obtain ⟨hx, hb, hr, hml, hown, hts, hX, hbl, hlocks, hgv⟩ := id C0
  have hg := l_hts C
  have hKn : ∀ (k : Nat) (q : vw_C), mcl[k]? = some q → ∃ (cI : ClassId) (iS : Nat → Nat), u_Kn s q.1 q.2.1 q.2.2 cI iS := fun k q hq => by
    obtain ⟨c1, c2, c3, c4, c5, c6, c7⟩ := fc hq
    exact u_known (C := q.1) (T := q.2.1) (N := q.2.2) (n := q.2.2) hg c1 (hg _ c6)
  obtain ⟨dC, dI, hKc⟩ : ∃ (dC : Nat → ClassId) (dI : Nat → Nat → Nat), ∀ (k : Nat) (q : vw_C), mcl[k]? = some q → u_Kn s q.1 q.2.1 q.2.2 (dC k) (dI k) := by
    have hch : ∀ k : Nat, ∃ (w : ClassId × (Nat → Nat)), ∀ q : vw_C, mcl[k]? = some q → u_Kn s q.1 q.2.1 q.2.2 w.1 w.2 := fun k => by
      cases hk : mcl[k]? with
      | none => exact ⟨(m.cls, fun _ => 0), fun q hq => by cases hq⟩
      | some q0 =>
        obtain ⟨cI, iS, h⟩ := hKn k q0 hk
        exact ⟨(cI, iS), fun q hq => by cases hq; exact h⟩
    exact ⟨fun k => (Classical.choose (hch k)).1, fun k => (Classical.choose (hch k)).2, fun k q hq => Classical.choose_spec (hch k) q hq⟩
  have hS : va_S (lA s) s.heap s.heap [] := va_S.rf
  have hW : Wd (dC, dI) (lA s) s s.heap [] [] := ⟨[], [], rfl, rfl, fun a c q h => by simp at h, fun k q h => by simp at h, ⟨fun i j p q h => by simp at h, fun k q h => by simp at h⟩, ⟨hKc, fun k q h => by simp at h⟩, fun k q h => by simp at h⟩
  have hl := lv_entry ([.ref b]) (n := 4) (Nat.le_of_ble_eq_true rfl)
  rw [lg_entry_eq]
  generalize (lg_sl ([.ref b]) ++ List.replicate (4 - (lg_sl ([.ref b])).length) Slot.unset).toArray = ls at hl ⊢
  have hl : lv_has ls 4 [(0, .ref b)] := hl
  refine s_new (own := 14) (i := 7) (ci := 10) hx hb (l_own C) hg (fun _ h => h) hW hS (by decide +kernel) (by decide) (by decide) d_law_0 fun H qx hW hS => ?_
  refine lv_dup hx hb d_law_3 rfl ?_
  refine l_call (st := [.inr (some 0), .inr (some 0)]) (as := [.inr (some 0)]) (rest := [.inr (some 0)]) (Qc := fun r hE => r = none ∧ hE = hD) C d_law_4 rfl rfl hW hS ⟨hl.1, hl.2.1⟩ ⟨⟨qx, rfl, rfl⟩, ⟨qx, rfl, rfl⟩, trivial⟩ ⟨5000, none, hD, hD_made, rfl, rfl⟩ (fun r hE ok => by obtain ⟨-, rfl⟩ := ok; exact ⟨by decide +kernel, by decide +kernel⟩) fun r hE H1 locs1 ads1 st1 hQ ha hW1 hS1 hst1 => ?_
  obtain ⟨rfl, rfl⟩ := hQ
  obtain ⟨q0, r1, rfl, hq0, hr1⟩ := vrs_r (st := []) hst1
  have hr1e : r1 = [] := by
    match r1, hr1 with
    | [], _ => rfl
    | _ :: _, hr1 => exact hr1.elim
  subst hr1e
  refine W.widen (k := 70) (n := 5000) (by decide +kernel) (by decide +kernel) ?_
  refine lv_astore_n (lv' := [(1, .ref q0), (0, .ref b)]) hx hb d_law_7 rfl hl (by decide) rfl (fun ls hl => ?_)
  refine s_new (own := 14) (i := 10) (ci := 11) hx hb (l_own C) hg (fun _ h => h) hW1 hS1 (by decide +kernel) (by decide) (by decide) d_law_8 fun H qy hW2 hS2 => ?_
  refine lv_dup hx hb d_law_11 rfl ?_
  have hqy : (ads1 ++ [qy])[70]? = some qy := by
    have : ads1.length = 70 := by
      obtain ⟨ws, tys, e1, e2, -⟩ := hW1
      rw [← e1, List.length_map, ← e2]
      rfl
    rw [List.getElem?_append_right (by omega), this]
    rfl
  refine l_call (st := [.inr (some 70), .inr (some 70)]) (as := [.inr (some 70)]) (rest := [.inr (some 70)]) (Qc := fun r hE => r = none ∧ hE = hJ) C d_law_12 rfl rfl hW2 hS2 ⟨hl.1, hl.2.1⟩ ⟨⟨qy, hqy, rfl⟩, ⟨qy, hqy, rfl⟩, trivial⟩ ⟨5000, none, hJ, hJ_made, rfl, rfl⟩ (fun r hE ok => by obtain ⟨-, rfl⟩ := ok; exact ⟨by decide +kernel, by decide +kernel⟩) fun r hE H3 locs3 ads3 st3 hQ ha3 hW3 hS3 hst3 => ?_
  obtain ⟨rfl, rfl⟩ := hQ
  obtain ⟨q1, r3, rfl, hq1, hr3⟩ := vrs_r (st := []) hst3
  have hr3e : r3 = [] := by
    match r3, hr3 with
    | [], _ => rfl
    | _ :: _, hr3 => exact hr3.elim
  subst hr3e
  have hq0' : ads3[0]? = some q0 := by
    obtain ⟨la, rfl⟩ := ha3
    rw [List.append_assoc, List.getElem?_append_left (List.getElem?_eq_some_iff.mp hq0).1]
    exact hq0
  refine W.widen (k := 100) (n := 20000) (by decide +kernel) (by decide +kernel) ?_
  refine lv_astore_n (lv' := [(2, .ref q1), (1, .ref q0), (0, .ref b)]) hx hb d_law_15 rfl hl (by decide) rfl (fun ls hl => ?_)
  refine lv_iconst (v := 0) hx hb d_law_16 (by decide) ?_
  refine lv_istore_n (lv' := [(3, .int 0), (2, .ref q1), (1, .ref q0), (0, .ref b)]) hx hb d_law_17 rfl hl (by decide) rfl (fun ls hl => ?_)
  refine lv_iload_n hx hb d_law_18 rfl (lv_at hl 0 rfl) ?_
  refine lv_aload_n hx hb d_law_19 rfl (lv_at hl 3 rfl) ?_
  refine va_slen (A := lA s) hx hb hX hbl (Nat.not_le.mpr hbl) hS3 d_law_20 ?_
  refine lv_bipush (v := 6) hx hb d_law_21 (by decide) ?_
  refine lv_isub hx hb d_law_23 ?_
  refine lv_icmp_gt (tgt := 835) hx hb d_law_24 (by decide) (fun _ => ?_) (fun hn => ?_)
  · refine lv_iconst (v := 1) hx hb d_law_835 (by decide) ?_
    refine va_forget hS3.2.2 ?_
    refine W.widen (k := 600000) (n := 7302250) (by decide) (by decide) ?_
    exact lw_ret hx hb hr hlocks d_law_836
  · have h6 : L = 6 := by
      rcases (show L = 0 ∨ L = 1 ∨ L = 2 ∨ L = 3 ∨ L = 4 ∨ L = 5 ∨ L = 6 by omega) with rfl | rfl | rfl | rfl | rfl | rfl | h
      · exact absurd (by decide) hn
      · exact absurd (by decide) hn
      · exact absurd (by decide) hn
      · exact absurd (by decide) hn
      · exact absurd (by decide) hn
      · exact absurd (by decide) hn
      · exact h
    exact l_switch C h6 hW3 hS3 hq0' hq1 hl (Nat.le_refl _) (Nat.le_refl _)
