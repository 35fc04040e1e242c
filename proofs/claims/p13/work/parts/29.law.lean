/-! THE LAW ON THE SCRIPT: one call after the other -/
/-- where the law is, at its loop's head, before the call k: a desk with the heap hX, a model with the heap hM, N cells made at least -/
def IV (D : va_G) (s : State) (b k : Nat) (hX hM : List MC) (N : Nat) (H : Heap) (locs : List Loc) (ls : Array Slot) : Prop :=
  ∃ (adsX adsM : List Nat) (q0 q1 : Nat), Wd D (lA s) s H adsX hX ∧ Wd D (lA s) s H adsM hM ∧ (∀ q ∈ adsM, q ∉ adsX) ∧ adsX[0]? = some q0 ∧ adsM[0]? = some q1 ∧ va_S (lA s) s.heap H locs ∧ lv_has ls 4 [(3, .int (iv k)), (2, .ref q1), (1, .ref q0), (0, .ref b)] ∧ s.heap.size + N ≤ H.size
section LW
variable {p : Program} {l : Launch} {e : Env} {s : State} {m : MethodId} {below : List Frame} {meth : Method} {c : Code} {H : Heap} {locs : List Loc} {cells slots : Nat} {pc : Nat} {ls : Array Slot} {ads : List Nat} {D : va_G} {h : List MC} {b L : Nat} {xs : Nat → Int32} {rest0 : List Value}
/-- from the loop's head to the case -/
theorem l_head {k tgt : Nat} {o : Int32} {off : Int} {q0 q1 : Nat} (C : lw_At p s m meth c b 3072 xs) (hk : k < 512) (ho : xs (6 * k) = o) (hS : va_S (lA s) s.heap H locs) (hl : lv_has ls 4 [(3, .int (iv k)), (2, .ref q1), (1, .ref q0), (0, .ref b)]) (h1 : ¬ (o &&& 31).toInt < 0) (h2 : ¬ 18 < (o &&& 31).toInt) (h3 : (#[91, 140, 173, 226, 249, 282, 315, 348, 381, 444, 477, 530, 563, 586, 599, 658, 671, 730, 763] : Array Int)[((o &&& 31).toInt - 0).toNat]? = some off) (h4 : (33 : Int) + off = (tgt : Int))
    (kk : LG p l e s m below meth c b H locs cells slots tgt ls []) : LG p l e s m below meth c b H locs cells slots 18 ls [] := by
  obtain ⟨hx, hb, -, -, -, -, hX, hbl, -⟩ := id C
  obtain ⟨i1, i2⟩ := iv_op hk
  refine lv_iload_n hx hb d_law_18 rfl (lv_at hl 0 rfl) ?_
  refine lv_aload_n hx hb d_law_19 rfl (lv_at hl 3 rfl) ?_
  refine va_slen (A := lA s) hx hb hX hbl (Nat.not_le.mpr hbl) hS d_law_20 ?_
  refine lv_bipush (v := 6) hx hb d_law_21 (by decide) ?_
  refine lv_isub hx hb d_law_23 ?_
  refine lv_icmp_gt (tgt := 835) hx hb d_law_24 (by decide) (fun hn => absurd hn (iv_in hk)) (fun _ => ?_)
  refine lv_aload_n hx hb d_law_27 rfl (lv_at hl 3 rfl) ?_
  refine lv_iload_n hx hb d_law_28 rfl (lv_at hl 0 rfl) ?_
  refine va_sld (A := lA s) hx hb hX hbl (Nat.not_le.mpr hbl) hS (fun q => ?_) d_law_29 ?_
  · rcases q with q | q
    · exact i1 q
    · rw [i2] at q; omega
  rw [i2, ho]
  refine lv_bipush (v := 31) hx hb d_law_30 (by decide) ?_
  refine lv_iand hx hb d_law_32 ?_
  exact lv_tableIn (off := off) (tgt := tgt) hx hb d_law_33 h1 h2 h3 h4 kk
/-- on to the loop's head -/
theorem l_next {k q0 q1 : Nat} (C : lw_At p s m meth c b 3072 xs) (hl : lv_has ls 4 [(3, .int (iv k)), (2, .ref q1), (1, .ref q0), (0, .ref b)])
    (kk : ∀ ls : Array Slot, lv_has ls 4 [(3, .int (iv (k + 1))), (2, .ref q1), (1, .ref q0), (0, .ref b)] → LG p l e s m below meth c b H locs cells slots 18 ls []) : LG p l e s m below meth c b H locs cells slots 829 ls [] := by
  have hx := C.1
  have hb := C.2.1
  refine lv_iinc (v := iv (k + 1)) (lv' := [(3, .int (iv (k + 1))), (2, .ref q1), (1, .ref q0), (0, .ref b)]) hx hb d_law_829 hl (k := 0) rfl (iv_next k) (by decide) rfl (fun ls hl => ?_)
  exact lv_goto (tgt := 18) hx hb d_law_832 (by decide) (kk ls hl)
/-- behind the two calls: the answers are one, on to the loop's head -/
theorem l_tail {k q0 q1 : Nat} {off : Int} {v : Int32} (C : lw_At p s m meth c b 3072 xs) (hl : lv_has ls 4 [(3, .int (iv k)), (2, .ref q1), (1, .ref q0), (0, .ref b)]) (d0 : decode code pc = .ok (.if_icmp .eq off, 3)) (ht : (pc : Int) + off = ((829 : Nat) : Int))
    (kk : ∀ ls : Array Slot, lv_has ls 4 [(3, .int (iv (k + 1))), (2, .ref q1), (1, .ref q0), (0, .ref b)] → LG p l e s m below meth c b H locs cells slots 18 ls []) : LG p l e s m below meth c b H locs cells slots pc ls [.int v, .int v] := by
  have hx := C.1
  have hb := C.2.1
  refine lv_icmp_eq (tgt := 829) hx hb d0 ht (fun _ => ?_) (fun hne => absurd rfl hne)
  refine lv_iinc (v := iv (k + 1)) (lv' := [(3, .int (iv (k + 1))), (2, .ref q1), (1, .ref q0), (0, .ref b)]) hx hb d_law_829 hl (k := 0) rfl (iv_next k) (by decide) rfl (fun ls hl => ?_)
  exact lv_goto (tgt := 18) hx hb d_law_832 (by decide) (kk ls hl)
/-- the two worlds behind a call of the first -/
theorem two_on {adsX ads1 adsM : List Nat} {hM : List MC} {H1 : Heap} (hWM : Wd D (lA s) s H adsM hM) (hd : ∀ q ∈ adsM, q ∉ adsX) (hk : ∀ q, q < H.size → q ∉ adsX → H1[q]? = H[q]?) (hn : ∀ q ∈ ads1, q ∈ adsX ∨ H.size ≤ q) : Wd D (lA s) s H1 adsM hM ∧ (∀ q ∈ adsM, q ∉ ads1) := by
  refine ⟨Wd_kept hWM (fun q hq => hk q (Wd_in hWM hq).1 (hd q hq)), fun q hq h1 => ?_⟩
  rcases hn q h1 with h2 | h2
  · exact hd q hq h2
  · have := (Wd_in hWM hq).1
    omega
theorem vr2 {a9 : List Nat} {v w : Int32} {st1 : List Value} (h : vrs a9 [.inl v, .inl w] st1) : st1 = [.int v, .int w] := by
  match st1, h with
  | [], h => exact h.elim
  | [_], h => exact h.2.elim
  | [x, y], h => obtain ⟨h1, h2, -⟩ := h; rw [show x = .int v from h1, show y = .int w from h2]
  | _ :: _ :: _ :: _, h => exact h.2.2.elim
theorem vr1 {a9 : List Nat} {v : Int32} {st1 : List Value} (h : vrs a9 [.inl v] st1) : st1 = [.int v] := by
  match st1, h with
  | [], h => exact h.elim
  | [x], h => rw [show x = .int v from h.1]
  | _ :: _ :: _, h => exact h.2.elim
def nC (k : Nat) : Nat := 200 + 2776 * k
def nS (k : Nat) : Nat := 30000 + 15044 * k
theorem nC_le {k : Nat} (hk : k < 512) : nC k + 2776 ≤ 1450000 := by unfold nC; omega
theorem nS_le {k : Nat} (hk : k < 512) : nS k + 15044 ≤ 7900000 := by unfold nS; omega
theorem cal_symbolX {h : List MC} {a1 a2 : Int32} (ht : (h[0]?).map (·.1) = some 20) : mcal 14 30 (.invokevirtual 13) 3 [.inl a2, .inl a1, .inr (some 0)] h = some (11, 29, [.inr (some 0), .inl a1, .inl a2], []) := by
  match h, ht with
  | (t, vs) :: r, ht =>
    have e : t = 20 := by simpa using ht
    subst e
    rfl
theorem cal_symbolM {h : List MC} {a1 a2 : Int32} (ht : (h[0]?).map (·.1) = some 21) : mcal 14 30 (.invokevirtual 17) 3 [.inl a2, .inl a1, .inr (some 0)] h = some (93, 29, [.inr (some 0), .inl a1, .inl a2], []) := by
  match h, ht with
  | (t, vs) :: r, ht =>
    have e : t = 21 := by simpa using ht
    subst e
    rfl
set_option maxRecDepth 1000000 in
set_option maxHeartbeats 40000000 in
/-- symbol -/
theorem st_symbol {k N cM : Nat} {hX hX1 hM hM1 : List MC} {v : Int32} {a1 : Int32} (C : lw_At p s m meth c b 3072 xs) (hk : k < 512) (x0 : xs (6 * k) = 0) (x1 : xs (6 * k + 1) = a1) (x2 : xs (6 * k + 2) = 0) (I : IV D s b k hX hM N H locs ls) (tX : (hX[0]?).map (·.1) = some 20) (tM : (hM[0]?).map (·.1) = some 21) (pX : 0 < hX1.length) (pM : 0 < hM1.length) (rX : Run2 11 3 [.inr (some 0), .inl a1, .inl 0] hX hX1 v 0 2 48) (rM : Run2 93 3 [.inr (some 0), .inl a1, .inl 0] hM hM1 v cM 2774 14996)
    (kk : ∀ (H : Heap) (locs : List Loc) (ls : Array Slot), IV D s b (k + 1) hX1 hM1 (N + cM) H locs ls → LG p l e s m below meth c b H locs (nC (k + 1)) (nS (k + 1)) 18 ls []) : LG p l e s m below meth c b H locs (nC k) (nS k) 18 ls [] := by
  obtain ⟨adsX, adsM, q0, q1, hWX, hWM, hd, hq0, hq1, hS, hl, hN⟩ := I
  have hx := C.1
  have hb := C.2.1
  have hc1 := nC_le hk
  have hs1 := nS_le hk
  refine l_head (tgt := 124) (off := 91) C hk x0 hS hl (by decide) (by decide) (by decide) (by decide) ?_
  refine lv_aload_n hx hb d_law_124 rfl (lv_at hl 2 rfl) ?_
  refine l_arg (j := 1) C hk hS (lv_at hl 3 rfl) (lv_at hl 0 rfl) (by decide) x1 d_law_125 d_law_126 d_law_127 d_law_128 d_law_129 (by decide) ?_
  refine l_arg (j := 2) C hk hS (lv_at hl 3 rfl) (lv_at hl 0 rfl) (by decide) x2 d_law_130 d_law_131 d_law_132 d_law_133 d_law_134 (by decide) ?_
  refine l_bool0 (t := 143) C d_law_135 d_law_142 (by decide) ?_
  refine l_callN (i := 13) (M' := 11) (nl := 3) (st := [.inl 0, .inl a1, .inr (some 0)]) (as := [.inr (some 0), .inl a1, .inl 0]) (rest := []) C d_law_143 (cal_symbolX tX) rfl rfl hWX hS hl.1 ⟨rfl, rfl, ⟨q0, hq0, rfl⟩, trivial⟩ hq0 pX rX (by show _ ≤ 1450000; omega) (by show _ ≤ 7900000; omega) fun H1 locs1 ads1 st1 hW1 hz1 hS1 hst1 hk1 hn1 hc1 => ?_
  obtain ⟨a9, hst1⟩ := hst1
  have e1 := vr1 hst1
  subst e1
  obtain ⟨hWM1, hd1⟩ := two_on hWM hd hk1 hn1
  refine lv_pop hx hb d_law_146 rfl ?_
  refine lv_aload_n hx hb d_law_147 rfl (lv_at hl 1 rfl) ?_
  refine l_arg (j := 1) C hk hS1 (lv_at hl 3 rfl) (lv_at hl 0 rfl) (by decide) x1 d_law_148 d_law_149 d_law_150 d_law_151 d_law_152 (by decide) ?_
  refine l_arg (j := 2) C hk hS1 (lv_at hl 3 rfl) (lv_at hl 0 rfl) (by decide) x2 d_law_153 d_law_154 d_law_155 d_law_156 d_law_157 (by decide) ?_
  refine l_bool0 (t := 166) C d_law_158 d_law_165 (by decide) ?_
  refine l_callN (i := 17) (M' := 93) (nl := 3) (st := [.inl 0, .inl a1, .inr (some 0)]) (as := [.inr (some 0), .inl a1, .inl 0]) (rest := []) C d_law_166 (cal_symbolM tM) rfl rfl hWM1 hS1 hl.1 ⟨rfl, rfl, ⟨q1, hq1, rfl⟩, trivial⟩ hq1 pM rM (by show _ ≤ 1450000; omega) (by show _ ≤ 7900000; omega) fun H2 locs2 ads2 st2 hW2 hz2 hS2 hst2 hk2 hn2 hc2 => ?_
  obtain ⟨a8, hst2⟩ := hst2
  have e2 := vr1 hst2
  subst e2
  obtain ⟨hWX2, hd2⟩ := two_on hW1 (fun q hq hq2 => hd1 q hq2 hq) hk2 hn2
  refine lv_pop hx hb d_law_169 rfl ?_
  refine lv_goto (tgt := 829) hx hb d_law_170 (by decide) ?_
  refine l_next C hl fun ls hl => ?_
  refine W.widen (k := nC (k + 1)) (n := nS (k + 1)) (by unfold nC; omega) (by unfold nS; omega) ?_
  exact kk H2 locs2 ls ⟨ads1, ads2, q0, q1, hWX2, hW2, fun q hq hq2 => hd2 q hq2 hq, hz1, hz2, hS2, hl, by omega⟩
theorem cal_termX {h : List MC} {a1 a2 a3 a4 : Int32} (ht : (h[0]?).map (·.1) = some 20) : mcal 14 30 (.invokevirtual 23) 3 [.inl a4, .inl a3, .inl a2, .inl a1, .inr (some 0)] h = some (16, 29, [.inr (some 0), .inl a1, .inl a2, .inl a3, .inl a4], []) := by
  match h, ht with
  | (t, vs) :: r, ht =>
    have e : t = 20 := by simpa using ht
    subst e
    rfl
theorem cal_termM {h : List MC} {a1 a2 a3 a4 : Int32} (ht : (h[0]?).map (·.1) = some 21) : mcal 14 30 (.invokevirtual 27) 3 [.inl a4, .inl a3, .inl a2, .inl a1, .inr (some 0)] h = some (96, 29, [.inr (some 0), .inl a1, .inl a2, .inl a3, .inl a4], []) := by
  match h, ht with
  | (t, vs) :: r, ht =>
    have e : t = 21 := by simpa using ht
    subst e
    rfl
set_option maxRecDepth 1000000 in
set_option maxHeartbeats 40000000 in
/-- term -/
theorem st_term {k N cM : Nat} {hX hX1 hM hM1 : List MC} {v : Int32} {a1 a2 a3 a4 : Int32} (C : lw_At p s m meth c b 3072 xs) (hk : k < 512) (x0 : xs (6 * k) = 2) (x1 : xs (6 * k + 1) = a1) (x2 : xs (6 * k + 2) = a2) (x3 : xs (6 * k + 3) = a3) (x4 : xs (6 * k + 4) = a4) (I : IV D s b k hX hM N H locs ls) (tX : (hX[0]?).map (·.1) = some 20) (tM : (hM[0]?).map (·.1) = some 21) (pX : 0 < hX1.length) (pM : 0 < hM1.length) (rX : Run2 16 7 [.inr (some 0), .inl a1, .inl a2, .inl a3, .inl a4] hX hX1 v 0 2 48) (rM : Run2 96 8 [.inr (some 0), .inl a1, .inl a2, .inl a3, .inl a4] hM hM1 v cM 2774 14996)
    (kk : ∀ (H : Heap) (locs : List Loc) (ls : Array Slot), IV D s b (k + 1) hX1 hM1 (N + cM) H locs ls → LG p l e s m below meth c b H locs (nC (k + 1)) (nS (k + 1)) 18 ls []) : LG p l e s m below meth c b H locs (nC k) (nS k) 18 ls [] := by
  obtain ⟨adsX, adsM, q0, q1, hWX, hWM, hd, hq0, hq1, hS, hl, hN⟩ := I
  have hx := C.1
  have hb := C.2.1
  have hc1 := nC_le hk
  have hs1 := nS_le hk
  refine l_head (tgt := 206) (off := 173) C hk x0 hS hl (by decide) (by decide) (by decide) (by decide) ?_
  refine lv_aload_n hx hb d_law_206 rfl (lv_at hl 2 rfl) ?_
  refine l_arg (j := 1) C hk hS (lv_at hl 3 rfl) (lv_at hl 0 rfl) (by decide) x1 d_law_207 d_law_208 d_law_209 d_law_210 d_law_211 (by decide) ?_
  refine l_arg (j := 2) C hk hS (lv_at hl 3 rfl) (lv_at hl 0 rfl) (by decide) x2 d_law_212 d_law_213 d_law_214 d_law_215 d_law_216 (by decide) ?_
  refine l_arg (j := 3) C hk hS (lv_at hl 3 rfl) (lv_at hl 0 rfl) (by decide) x3 d_law_217 d_law_218 d_law_219 d_law_220 d_law_221 (by decide) ?_
  refine l_arg (j := 4) C hk hS (lv_at hl 3 rfl) (lv_at hl 0 rfl) (by decide) x4 d_law_222 d_law_223 d_law_224 d_law_225 d_law_226 (by decide) ?_
  refine l_callN (i := 23) (M' := 16) (nl := 7) (st := [.inl a4, .inl a3, .inl a2, .inl a1, .inr (some 0)]) (as := [.inr (some 0), .inl a1, .inl a2, .inl a3, .inl a4]) (rest := []) C d_law_227 (cal_termX tX) rfl rfl hWX hS hl.1 ⟨rfl, rfl, rfl, rfl, ⟨q0, hq0, rfl⟩, trivial⟩ hq0 pX rX (by show _ ≤ 1450000; omega) (by show _ ≤ 7900000; omega) fun H1 locs1 ads1 st1 hW1 hz1 hS1 hst1 hk1 hn1 hc1 => ?_
  obtain ⟨a9, hst1⟩ := hst1
  have e1 := vr1 hst1
  subst e1
  obtain ⟨hWM1, hd1⟩ := two_on hWM hd hk1 hn1
  refine lv_pop hx hb d_law_230 rfl ?_
  refine lv_aload_n hx hb d_law_231 rfl (lv_at hl 1 rfl) ?_
  refine l_arg (j := 1) C hk hS1 (lv_at hl 3 rfl) (lv_at hl 0 rfl) (by decide) x1 d_law_232 d_law_233 d_law_234 d_law_235 d_law_236 (by decide) ?_
  refine l_arg (j := 2) C hk hS1 (lv_at hl 3 rfl) (lv_at hl 0 rfl) (by decide) x2 d_law_237 d_law_238 d_law_239 d_law_240 d_law_241 (by decide) ?_
  refine l_arg (j := 3) C hk hS1 (lv_at hl 3 rfl) (lv_at hl 0 rfl) (by decide) x3 d_law_242 d_law_243 d_law_244 d_law_245 d_law_246 (by decide) ?_
  refine l_arg (j := 4) C hk hS1 (lv_at hl 3 rfl) (lv_at hl 0 rfl) (by decide) x4 d_law_247 d_law_248 d_law_249 d_law_250 d_law_251 (by decide) ?_
  refine l_callN (i := 27) (M' := 96) (nl := 8) (st := [.inl a4, .inl a3, .inl a2, .inl a1, .inr (some 0)]) (as := [.inr (some 0), .inl a1, .inl a2, .inl a3, .inl a4]) (rest := []) C d_law_252 (cal_termM tM) rfl rfl hWM1 hS1 hl.1 ⟨rfl, rfl, rfl, rfl, ⟨q1, hq1, rfl⟩, trivial⟩ hq1 pM rM (by show _ ≤ 1450000; omega) (by show _ ≤ 7900000; omega) fun H2 locs2 ads2 st2 hW2 hz2 hS2 hst2 hk2 hn2 hc2 => ?_
  obtain ⟨a8, hst2⟩ := hst2
  have e2 := vr1 hst2
  subst e2
  obtain ⟨hWX2, hd2⟩ := two_on hW1 (fun q hq hq2 => hd1 q hq2 hq) hk2 hn2
  refine lv_pop hx hb d_law_255 rfl ?_
  refine lv_goto (tgt := 829) hx hb d_law_256 (by decide) ?_
  refine l_next C hl fun ls hl => ?_
  refine W.widen (k := nC (k + 1)) (n := nS (k + 1)) (by unfold nC; omega) (by unfold nS; omega) ?_
  exact kk H2 locs2 ls ⟨ads1, ads2, q0, q1, hWX2, hW2, fun q hq hq2 => hd2 q hq2 hq, hz1, hz2, hS2, hl, by omega⟩
theorem cal_equationX {h : List MC} {a1 a2 : Int32} (ht : (h[0]?).map (·.1) = some 20) : mcal 14 30 (.invokevirtual 63) 3 [.inl a2, .inl a1, .inr (some 0)] h = some (66, 29, [.inr (some 0), .inl a1, .inl a2], []) := by
  match h, ht with
  | (t, vs) :: r, ht =>
    have e : t = 20 := by simpa using ht
    subst e
    rfl
theorem cal_equationM {h : List MC} {a1 a2 w : Int32} (ht : (h[0]?).map (·.1) = some 21) : mcal 14 30 (.invokevirtual 66) 3 [.inl a2, .inl a1, .inr (some 0), .inl w] h = some (125, 29, [.inr (some 0), .inl a1, .inl a2], [.inl w]) := by
  match h, ht with
  | (t, vs) :: r, ht =>
    have e : t = 21 := by simpa using ht
    subst e
    rfl
set_option maxRecDepth 1000000 in
set_option maxHeartbeats 40000000 in
/-- equation -/
theorem st_equation {k N cM : Nat} {hX hX1 hM hM1 : List MC} {v : Int32} {a1 a2 : Int32} (C : lw_At p s m meth c b 3072 xs) (hk : k < 512) (x0 : xs (6 * k) = 11) (x1 : xs (6 * k + 1) = a1) (x2 : xs (6 * k + 2) = a2) (I : IV D s b k hX hM N H locs ls) (tX : (hX[0]?).map (·.1) = some 20) (tM : (hM[0]?).map (·.1) = some 21) (pX : 0 < hX1.length) (pM : 0 < hM1.length) (rX : Run2 66 3 [.inr (some 0), .inl a1, .inl a2] hX hX1 v 0 2 48) (rM : Run2 125 3 [.inr (some 0), .inl a1, .inl a2] hM hM1 v cM 2774 14996)
    (kk : ∀ (H : Heap) (locs : List Loc) (ls : Array Slot), IV D s b (k + 1) hX1 hM1 (N + cM) H locs ls → LG p l e s m below meth c b H locs (nC (k + 1)) (nS (k + 1)) 18 ls []) : LG p l e s m below meth c b H locs (nC k) (nS k) 18 ls [] := by
  obtain ⟨adsX, adsM, q0, q1, hWX, hWM, hd, hq0, hq1, hS, hl, hN⟩ := I
  have hx := C.1
  have hb := C.2.1
  have hc1 := nC_le hk
  have hs1 := nS_le hk
  refine l_head (tgt := 563) (off := 530) C hk x0 hS hl (by decide) (by decide) (by decide) (by decide) ?_
  refine lv_aload_n hx hb d_law_563 rfl (lv_at hl 2 rfl) ?_
  refine l_arg (j := 1) C hk hS (lv_at hl 3 rfl) (lv_at hl 0 rfl) (by decide) x1 d_law_564 d_law_565 d_law_566 d_law_567 d_law_568 (by decide) ?_
  refine l_arg (j := 2) C hk hS (lv_at hl 3 rfl) (lv_at hl 0 rfl) (by decide) x2 d_law_569 d_law_570 d_law_571 d_law_572 d_law_573 (by decide) ?_
  refine l_callN (i := 63) (M' := 66) (nl := 3) (st := [.inl a2, .inl a1, .inr (some 0)]) (as := [.inr (some 0), .inl a1, .inl a2]) (rest := []) C d_law_574 (cal_equationX tX) rfl rfl hWX hS hl.1 ⟨rfl, rfl, ⟨q0, hq0, rfl⟩, trivial⟩ hq0 pX rX (by show _ ≤ 1450000; omega) (by show _ ≤ 7900000; omega) fun H1 locs1 ads1 st1 hW1 hz1 hS1 hst1 hk1 hn1 hc1 => ?_
  obtain ⟨a9, hst1⟩ := hst1
  have e1 := vr1 hst1
  subst e1
  obtain ⟨hWM1, hd1⟩ := two_on hWM hd hk1 hn1
  refine lv_aload_n hx hb d_law_577 rfl (lv_at hl 1 rfl) ?_
  refine l_arg (j := 1) C hk hS1 (lv_at hl 3 rfl) (lv_at hl 0 rfl) (by decide) x1 d_law_578 d_law_579 d_law_580 d_law_581 d_law_582 (by decide) ?_
  refine l_arg (j := 2) C hk hS1 (lv_at hl 3 rfl) (lv_at hl 0 rfl) (by decide) x2 d_law_583 d_law_584 d_law_585 d_law_586 d_law_587 (by decide) ?_
  refine l_callN (i := 66) (M' := 125) (nl := 3) (st := [.inl a2, .inl a1, .inr (some 0), .inl v]) (as := [.inr (some 0), .inl a1, .inl a2]) (rest := [.inl v]) C d_law_588 (cal_equationM tM) rfl rfl hWM1 hS1 hl.1 ⟨rfl, rfl, ⟨q1, hq1, rfl⟩, rfl, trivial⟩ hq1 pM rM (by show _ ≤ 1450000; omega) (by show _ ≤ 7900000; omega) fun H2 locs2 ads2 st2 hW2 hz2 hS2 hst2 hk2 hn2 hc2 => ?_
  obtain ⟨a8, hst2⟩ := hst2
  have e2 := vr2 hst2
  subst e2
  obtain ⟨hWX2, hd2⟩ := two_on hW1 (fun q hq hq2 => hd1 q hq2 hq) hk2 hn2
  refine l_tail C hl d_law_591 (by decide) fun ls hl => ?_
  refine W.widen (k := nC (k + 1)) (n := nS (k + 1)) (by unfold nC; omega) (by unfold nS; omega) ?_
  exact kk H2 locs2 ls ⟨ads1, ads2, q0, q1, hWX2, hW2, fun q hq hq2 => hd2 q hq2 hq, hz1, hz2, hS2, hl, by omega⟩
theorem cal_completeX {h : List MC} {a1 : Int32} (ht : (h[0]?).map (·.1) = some 20) : mcal 14 30 (.invokevirtual 67) 3 [.inl a1, .inr (some 0)] h = some (70, 29, [.inr (some 0), .inl a1], []) := by
  match h, ht with
  | (t, vs) :: r, ht =>
    have e : t = 20 := by simpa using ht
    subst e
    rfl
theorem cal_completeM {h : List MC} {a1 : Int32} (ht : (h[0]?).map (·.1) = some 21) : mcal 14 30 (.invokevirtual 70) 3 [.inl a1, .inr (some 0)] h = some (129, 29, [.inr (some 0), .inl a1], []) := by
  match h, ht with
  | (t, vs) :: r, ht =>
    have e : t = 21 := by simpa using ht
    subst e
    rfl
set_option maxRecDepth 1000000 in
set_option maxHeartbeats 40000000 in
/-- complete -/
theorem st_complete {k N cM : Nat} {hX hX1 hM hM1 : List MC} {v : Int32} {a1 : Int32} (C : lw_At p s m meth c b 3072 xs) (hk : k < 512) (x0 : xs (6 * k) = 12) (x1 : xs (6 * k + 1) = a1) (I : IV D s b k hX hM N H locs ls) (tX : (hX[0]?).map (·.1) = some 20) (tM : (hM[0]?).map (·.1) = some 21) (pX : 0 < hX1.length) (pM : 0 < hM1.length) (rX : Run2 70 5 [.inr (some 0), .inl a1] hX hX1 v 0 2 48) (rM : Run2 129 5 [.inr (some 0), .inl a1] hM hM1 v cM 2774 14996)
    (kk : ∀ (H : Heap) (locs : List Loc) (ls : Array Slot), IV D s b (k + 1) hX1 hM1 (N + cM) H locs ls → LG p l e s m below meth c b H locs (nC (k + 1)) (nS (k + 1)) 18 ls []) : LG p l e s m below meth c b H locs (nC k) (nS k) 18 ls [] := by
  obtain ⟨adsX, adsM, q0, q1, hWX, hWM, hd, hq0, hq1, hS, hl, hN⟩ := I
  have hx := C.1
  have hb := C.2.1
  have hc1 := nC_le hk
  have hs1 := nS_le hk
  refine l_head (tgt := 596) (off := 563) C hk x0 hS hl (by decide) (by decide) (by decide) (by decide) ?_
  refine lv_aload_n hx hb d_law_596 rfl (lv_at hl 2 rfl) ?_
  refine l_arg (j := 1) C hk hS (lv_at hl 3 rfl) (lv_at hl 0 rfl) (by decide) x1 d_law_597 d_law_598 d_law_599 d_law_600 d_law_601 (by decide) ?_
  refine l_callN (i := 67) (M' := 70) (nl := 5) (st := [.inl a1, .inr (some 0)]) (as := [.inr (some 0), .inl a1]) (rest := []) C d_law_602 (cal_completeX tX) rfl rfl hWX hS hl.1 ⟨rfl, ⟨q0, hq0, rfl⟩, trivial⟩ hq0 pX rX (by show _ ≤ 1450000; omega) (by show _ ≤ 7900000; omega) fun H1 locs1 ads1 st1 hW1 hz1 hS1 hst1 hk1 hn1 hc1 => ?_
  obtain ⟨a9, hst1⟩ := hst1
  have e1 := vr1 hst1
  subst e1
  obtain ⟨hWM1, hd1⟩ := two_on hWM hd hk1 hn1
  refine lv_pop hx hb d_law_605 rfl ?_
  refine lv_aload_n hx hb d_law_606 rfl (lv_at hl 1 rfl) ?_
  refine l_arg (j := 1) C hk hS1 (lv_at hl 3 rfl) (lv_at hl 0 rfl) (by decide) x1 d_law_607 d_law_608 d_law_609 d_law_610 d_law_611 (by decide) ?_
  refine l_callN (i := 70) (M' := 129) (nl := 5) (st := [.inl a1, .inr (some 0)]) (as := [.inr (some 0), .inl a1]) (rest := []) C d_law_612 (cal_completeM tM) rfl rfl hWM1 hS1 hl.1 ⟨rfl, ⟨q1, hq1, rfl⟩, trivial⟩ hq1 pM rM (by show _ ≤ 1450000; omega) (by show _ ≤ 7900000; omega) fun H2 locs2 ads2 st2 hW2 hz2 hS2 hst2 hk2 hn2 hc2 => ?_
  obtain ⟨a8, hst2⟩ := hst2
  have e2 := vr1 hst2
  subst e2
  obtain ⟨hWX2, hd2⟩ := two_on hW1 (fun q hq hq2 => hd1 q hq2 hq) hk2 hn2
  refine lv_pop hx hb d_law_615 rfl ?_
  refine lv_goto (tgt := 829) hx hb d_law_616 (by decide) ?_
  refine l_next C hl fun ls hl => ?_
  refine W.widen (k := nC (k + 1)) (n := nS (k + 1)) (by unfold nC; omega) (by unfold nS; omega) ?_
  exact kk H2 locs2 ls ⟨ads1, ads2, q0, q1, hWX2, hW2, fun q hq hq2 => hd2 q hq2 hq, hz1, hz2, hS2, hl, by omega⟩
end LW
