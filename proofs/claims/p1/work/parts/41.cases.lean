/-! THE LAW: its cases (gen_law.py) -/
section LW
variable {p : Program} {l : Launch} {e : Env} {s : State} {m : MethodId} {below : List Frame} {meth : Method} {c : Code} {H : Heap} {locs : List Loc} {cells slots : Nat} {pc : Nat} {ls : Array Slot} {ads : List Nat} {D : va_G} {h : List MC} {b L : Nat} {xs : Nat → Int32} {rest0 : List Value}
set_option maxRecDepth 100000 in
/-- behind the first six ints: the law is at its end -/
theorem l_end {q0 q1 : Nat} (C : lw_At p s m meth c b L xs) (hL : L = 6) (hS : va_S (lA s) s.heap H locs) (hl : lv_has ls 4 [(3, .int 0), (2, .ref q1), (1, .ref q0), (0, .ref b)]) (hc : cells ≤ 600000) (hs : slots ≤ 7302250) : LG p l e s m below meth c b H locs cells slots 829 ls [] := by
  obtain ⟨hx, hb, hr, -, -, -, hX, hbl, hlocks, -⟩ := id C
  refine lv_iinc (v := 6) (lv' := [(3, .int 6), (2, .ref q1), (1, .ref q0), (0, .ref b)]) hx hb d_law_829 hl (k := 0) rfl (by decide) (by decide) rfl (fun ls hl => ?_)
  refine lv_goto (tgt := 18) hx hb d_law_832 (by decide) ?_
  refine lv_iload_n hx hb d_law_18 rfl (lv_at hl 0 rfl) ?_
  refine lv_aload_n hx hb d_law_19 rfl (lv_at hl 3 rfl) ?_
  refine va_slen (A := lA s) hx hb hX hbl (Nat.not_le.mpr hbl) hS d_law_20 ?_
  refine lv_bipush (v := 6) hx hb d_law_21 (by decide) ?_
  refine lv_isub hx hb d_law_23 ?_
  refine lv_icmp_gt (tgt := 835) hx hb d_law_24 (by decide) (fun _ => ?_) (fun hn => absurd (by rw [hL]; decide) hn)
  refine lv_iconst (v := 1) hx hb d_law_835 (by decide) ?_
  refine va_forget hS.2.2 ?_
  refine W.widen (k := 600000) (n := 7302250) hc hs ?_
  exact lw_ret hx hb hr hlocks d_law_836
set_option maxRecDepth 100000 in
set_option maxHeartbeats 40000000 in
/-- symbol -/
theorem l_c0 {q0 q1 : Nat} (C : lw_At p s m meth c b L xs) (hL : L = 6) (hW : Wd D (lA s) s H ads hJ) (hS : va_S (lA s) s.heap H locs) (hq0 : ads[0]? = some q0) (hq1 : ads[70]? = some q1) (hl : lv_has ls 4 [(3, .int 0), (2, .ref q1), (1, .ref q0), (0, .ref b)]) (hc : cells ≤ 100) (hs : slots ≤ 20000) : LG p l e s m below meth c b H locs cells slots 124 ls [] := by
  have hx := C.1
  have hb := C.2.1
  obtain ⟨v, kD, kM⟩ := pr_symbol (xs 1) (bz (xs 2)) (bz_01 _)
  refine lv_aload_n hx hb d_law_124 rfl (lv_at hl 2 rfl) ?_
  refine l_arg (v := 1) (k := 1) C hL hS (lv_at hl 3 rfl) (lv_at hl 0 rfl) d_law_125 d_law_126 d_law_127 d_law_128 d_law_129 (by decide) (by decide) (by decide) (by decide) ?_
  refine l_arg (v := 2) (k := 2) C hL hS (lv_at hl 3 rfl) (lv_at hl 0 rfl) d_law_130 d_law_131 d_law_132 d_law_133 d_law_134 (by decide) (by decide) (by decide) (by decide) ?_
  refine l_bool (t := 143) C d_law_135 d_law_138 d_law_139 d_law_142 (by decide) ?_
  refine l_call (st := [.inl (bz (xs 2)), .inl (xs 1), .inr (some 0)]) (as := [.inr (some 0), .inl (xs 1), .inl (bz (xs 2))]) (rest := []) (Qc := fun r hE => r = some (.inl v) ∧ okD hE) C d_law_143 rfl rfl hW hS ⟨hl.1, hl.2.1⟩ ⟨rfl, rfl, ⟨q0, hq0, rfl⟩, trivial⟩ (kD _ (fun h ok => ⟨rfl, ok⟩)) (fun r hE ok => ⟨by have := ok.2.1; show cells + (hE.length - 96) ≤ 600000; omega, by have := ok.2.2.1; show slots + mslots (hE.drop 96) ≤ 7302250; omega⟩) fun r hE H1 locs1 ads1 st1 hQ ha hW1 hS1 hst1 => ?_
  obtain ⟨rfl, ok1⟩ := hQ
  obtain ⟨r1, rfl, hr1⟩ := vrs_i (st := []) hst1
  have hr1e : r1 = [] := by
    match r1, hr1 with
    | [], _ => rfl
    | _ :: _, hr1 => exact hr1.elim
  subst hr1e
  obtain ⟨la, rfl⟩ := ha
  have hW2 := Wd_pick (k := 70) (g := hM) hW1 (ok1.2.2.trans hS_is) hM_cl
  have hq2 : (((ads ++ la).drop 70).take hM.length)[0]? = some q1 := by
    rw [List.getElem?_take_of_lt (by decide), List.getElem?_drop, List.getElem?_append_left (List.getElem?_eq_some_iff.mp hq1).1]
    exact hq1
  refine lv_aload_n hx hb d_law_146 rfl (lv_at hl 1 rfl) ?_
  refine l_arg (v := 1) (k := 1) C hL hS1 (lv_at hl 3 rfl) (lv_at hl 0 rfl) d_law_147 d_law_148 d_law_149 d_law_150 d_law_151 (by decide) (by decide) (by decide) (by decide) ?_
  refine l_arg (v := 2) (k := 2) C hL hS1 (lv_at hl 3 rfl) (lv_at hl 0 rfl) d_law_152 d_law_153 d_law_154 d_law_155 d_law_156 (by decide) (by decide) (by decide) (by decide) ?_
  refine l_bool (t := 165) C d_law_157 d_law_160 d_law_161 d_law_164 (by decide) ?_
  refine l_call (st := [.inl (bz (xs 2)), .inl (xs 1), .inr (some 0), .inl v]) (as := [.inr (some 0), .inl (xs 1), .inl (bz (xs 2))]) (rest := [.inl v]) (Qc := fun r hE => r = some (.inl v) ∧ okM hE) C d_law_165 rfl rfl hW2 hS1 ⟨hl.1, hl.2.1⟩ ⟨rfl, rfl, ⟨q1, hq2, rfl⟩, rfl, trivial⟩ (kM _ (fun h ok => ⟨rfl, ok⟩)) (fun r hE2 ok => ⟨by have := ok.2.1; have := ok1.1; show cells + (hE.length - 96) + (hE2.length - 26) ≤ 600000; omega, by have := ok.2.2; have := ok1.2.1; show slots + mslots (hE.drop 96) + mslots (hE2.drop 26) ≤ 7302250; omega⟩) fun r hE2 H2 locs2 ads2 st2 hQ2 ha2 hW3 hS2 hst2 => ?_
  obtain ⟨rfl, ok2⟩ := hQ2
  obtain ⟨r2, rfl, hr2⟩ := vrs_i (st := [.inl v]) hst2
  obtain ⟨r3, rfl, hr3⟩ := vrs_i (st := []) hr2
  have hr3e : r3 = [] := by
    match r3, hr3 with
    | [], _ => rfl
    | _ :: _, hr3 => exact hr3.elim
  subst hr3e
  refine lv_icmp_eq (tgt := 829) hx hb d_law_168 (by decide) (fun _ => ?_) (fun hne => absurd rfl hne)
  exact l_end C hL hS2 hl (by have := ok1.1; have := ok2.1; show cells + (hE.length - 96) + (hE2.length - 26) ≤ 600000; omega) (by have := ok1.2.1; have := ok2.2; show slots + mslots (hE.drop 96) + mslots (hE2.drop 26) ≤ 7302250; omega)
set_option maxRecDepth 100000 in
set_option maxHeartbeats 40000000 in
/-- variable -/
theorem l_c1 {q0 q1 : Nat} (C : lw_At p s m meth c b L xs) (hL : L = 6) (hW : Wd D (lA s) s H ads hJ) (hS : va_S (lA s) s.heap H locs) (hq0 : ads[0]? = some q0) (hq1 : ads[70]? = some q1) (hl : lv_has ls 4 [(3, .int 0), (2, .ref q1), (1, .ref q0), (0, .ref b)]) (hc : cells ≤ 100) (hs : slots ≤ 20000) : LG p l e s m below meth c b H locs cells slots 173 ls [] := by
  have hx := C.1
  have hb := C.2.1
  obtain ⟨v, kD, kM⟩ := pr_variable (xs 1) (xs 2)
  refine lv_aload_n hx hb d_law_173 rfl (lv_at hl 2 rfl) ?_
  refine l_arg (v := 1) (k := 1) C hL hS (lv_at hl 3 rfl) (lv_at hl 0 rfl) d_law_174 d_law_175 d_law_176 d_law_177 d_law_178 (by decide) (by decide) (by decide) (by decide) ?_
  refine l_arg (v := 2) (k := 2) C hL hS (lv_at hl 3 rfl) (lv_at hl 0 rfl) d_law_179 d_law_180 d_law_181 d_law_182 d_law_183 (by decide) (by decide) (by decide) (by decide) ?_
  refine l_call (st := [.inl (xs 2), .inl (xs 1), .inr (some 0)]) (as := [.inr (some 0), .inl (xs 1), .inl (xs 2)]) (rest := []) (Qc := fun r hE => r = some (.inl v) ∧ okD hE) C d_law_184 rfl rfl hW hS ⟨hl.1, hl.2.1⟩ ⟨rfl, rfl, ⟨q0, hq0, rfl⟩, trivial⟩ (kD _ (fun h ok => ⟨rfl, ok⟩)) (fun r hE ok => ⟨by have := ok.2.1; show cells + (hE.length - 96) ≤ 600000; omega, by have := ok.2.2.1; show slots + mslots (hE.drop 96) ≤ 7302250; omega⟩) fun r hE H1 locs1 ads1 st1 hQ ha hW1 hS1 hst1 => ?_
  obtain ⟨rfl, ok1⟩ := hQ
  obtain ⟨r1, rfl, hr1⟩ := vrs_i (st := []) hst1
  have hr1e : r1 = [] := by
    match r1, hr1 with
    | [], _ => rfl
    | _ :: _, hr1 => exact hr1.elim
  subst hr1e
  obtain ⟨la, rfl⟩ := ha
  have hW2 := Wd_pick (k := 70) (g := hM) hW1 (ok1.2.2.trans hS_is) hM_cl
  have hq2 : (((ads ++ la).drop 70).take hM.length)[0]? = some q1 := by
    rw [List.getElem?_take_of_lt (by decide), List.getElem?_drop, List.getElem?_append_left (List.getElem?_eq_some_iff.mp hq1).1]
    exact hq1
  refine lv_aload_n hx hb d_law_187 rfl (lv_at hl 1 rfl) ?_
  refine l_arg (v := 1) (k := 1) C hL hS1 (lv_at hl 3 rfl) (lv_at hl 0 rfl) d_law_188 d_law_189 d_law_190 d_law_191 d_law_192 (by decide) (by decide) (by decide) (by decide) ?_
  refine l_arg (v := 2) (k := 2) C hL hS1 (lv_at hl 3 rfl) (lv_at hl 0 rfl) d_law_193 d_law_194 d_law_195 d_law_196 d_law_197 (by decide) (by decide) (by decide) (by decide) ?_
  refine l_call (st := [.inl (xs 2), .inl (xs 1), .inr (some 0), .inl v]) (as := [.inr (some 0), .inl (xs 1), .inl (xs 2)]) (rest := [.inl v]) (Qc := fun r hE => r = some (.inl v) ∧ okM hE) C d_law_198 rfl rfl hW2 hS1 ⟨hl.1, hl.2.1⟩ ⟨rfl, rfl, ⟨q1, hq2, rfl⟩, rfl, trivial⟩ (kM _ (fun h ok => ⟨rfl, ok⟩)) (fun r hE2 ok => ⟨by have := ok.2.1; have := ok1.1; show cells + (hE.length - 96) + (hE2.length - 26) ≤ 600000; omega, by have := ok.2.2; have := ok1.2.1; show slots + mslots (hE.drop 96) + mslots (hE2.drop 26) ≤ 7302250; omega⟩) fun r hE2 H2 locs2 ads2 st2 hQ2 ha2 hW3 hS2 hst2 => ?_
  obtain ⟨rfl, ok2⟩ := hQ2
  obtain ⟨r2, rfl, hr2⟩ := vrs_i (st := [.inl v]) hst2
  obtain ⟨r3, rfl, hr3⟩ := vrs_i (st := []) hr2
  have hr3e : r3 = [] := by
    match r3, hr3 with
    | [], _ => rfl
    | _ :: _, hr3 => exact hr3.elim
  subst hr3e
  refine lv_icmp_eq (tgt := 829) hx hb d_law_201 (by decide) (fun _ => ?_) (fun hne => absurd rfl hne)
  exact l_end C hL hS2 hl (by have := ok1.1; have := ok2.1; show cells + (hE.length - 96) + (hE2.length - 26) ≤ 600000; omega) (by have := ok1.2.1; have := ok2.2; show slots + mslots (hE.drop 96) + mslots (hE2.drop 26) ≤ 7302250; omega)
set_option maxRecDepth 100000 in
set_option maxHeartbeats 40000000 in
/-- term -/
theorem l_c2 {q0 q1 : Nat} (C : lw_At p s m meth c b L xs) (hL : L = 6) (hW : Wd D (lA s) s H ads hJ) (hS : va_S (lA s) s.heap H locs) (hq0 : ads[0]? = some q0) (hq1 : ads[70]? = some q1) (hl : lv_has ls 4 [(3, .int 0), (2, .ref q1), (1, .ref q0), (0, .ref b)]) (hc : cells ≤ 100) (hs : slots ≤ 20000) : LG p l e s m below meth c b H locs cells slots 206 ls [] := by
  have hx := C.1
  have hb := C.2.1
  obtain ⟨v, kD, kM⟩ := pr_term (xs 1) (xs 2) (xs 3) (xs 4)
  refine lv_aload_n hx hb d_law_206 rfl (lv_at hl 2 rfl) ?_
  refine l_arg (v := 1) (k := 1) C hL hS (lv_at hl 3 rfl) (lv_at hl 0 rfl) d_law_207 d_law_208 d_law_209 d_law_210 d_law_211 (by decide) (by decide) (by decide) (by decide) ?_
  refine l_arg (v := 2) (k := 2) C hL hS (lv_at hl 3 rfl) (lv_at hl 0 rfl) d_law_212 d_law_213 d_law_214 d_law_215 d_law_216 (by decide) (by decide) (by decide) (by decide) ?_
  refine l_arg (v := 3) (k := 3) C hL hS (lv_at hl 3 rfl) (lv_at hl 0 rfl) d_law_217 d_law_218 d_law_219 d_law_220 d_law_221 (by decide) (by decide) (by decide) (by decide) ?_
  refine l_arg (v := 4) (k := 4) C hL hS (lv_at hl 3 rfl) (lv_at hl 0 rfl) d_law_222 d_law_223 d_law_224 d_law_225 d_law_226 (by decide) (by decide) (by decide) (by decide) ?_
  refine l_call (st := [.inl (xs 4), .inl (xs 3), .inl (xs 2), .inl (xs 1), .inr (some 0)]) (as := [.inr (some 0), .inl (xs 1), .inl (xs 2), .inl (xs 3), .inl (xs 4)]) (rest := []) (Qc := fun r hE => r = some (.inl v) ∧ okD hE) C d_law_227 rfl rfl hW hS ⟨hl.1, hl.2.1⟩ ⟨rfl, rfl, rfl, rfl, ⟨q0, hq0, rfl⟩, trivial⟩ (kD _ (fun h ok => ⟨rfl, ok⟩)) (fun r hE ok => ⟨by have := ok.2.1; show cells + (hE.length - 96) ≤ 600000; omega, by have := ok.2.2.1; show slots + mslots (hE.drop 96) ≤ 7302250; omega⟩) fun r hE H1 locs1 ads1 st1 hQ ha hW1 hS1 hst1 => ?_
  obtain ⟨rfl, ok1⟩ := hQ
  obtain ⟨r1, rfl, hr1⟩ := vrs_i (st := []) hst1
  have hr1e : r1 = [] := by
    match r1, hr1 with
    | [], _ => rfl
    | _ :: _, hr1 => exact hr1.elim
  subst hr1e
  obtain ⟨la, rfl⟩ := ha
  have hW2 := Wd_pick (k := 70) (g := hM) hW1 (ok1.2.2.trans hS_is) hM_cl
  have hq2 : (((ads ++ la).drop 70).take hM.length)[0]? = some q1 := by
    rw [List.getElem?_take_of_lt (by decide), List.getElem?_drop, List.getElem?_append_left (List.getElem?_eq_some_iff.mp hq1).1]
    exact hq1
  refine lv_aload_n hx hb d_law_230 rfl (lv_at hl 1 rfl) ?_
  refine l_arg (v := 1) (k := 1) C hL hS1 (lv_at hl 3 rfl) (lv_at hl 0 rfl) d_law_231 d_law_232 d_law_233 d_law_234 d_law_235 (by decide) (by decide) (by decide) (by decide) ?_
  refine l_arg (v := 2) (k := 2) C hL hS1 (lv_at hl 3 rfl) (lv_at hl 0 rfl) d_law_236 d_law_237 d_law_238 d_law_239 d_law_240 (by decide) (by decide) (by decide) (by decide) ?_
  refine l_arg (v := 3) (k := 3) C hL hS1 (lv_at hl 3 rfl) (lv_at hl 0 rfl) d_law_241 d_law_242 d_law_243 d_law_244 d_law_245 (by decide) (by decide) (by decide) (by decide) ?_
  refine l_arg (v := 4) (k := 4) C hL hS1 (lv_at hl 3 rfl) (lv_at hl 0 rfl) d_law_246 d_law_247 d_law_248 d_law_249 d_law_250 (by decide) (by decide) (by decide) (by decide) ?_
  refine l_call (st := [.inl (xs 4), .inl (xs 3), .inl (xs 2), .inl (xs 1), .inr (some 0), .inl v]) (as := [.inr (some 0), .inl (xs 1), .inl (xs 2), .inl (xs 3), .inl (xs 4)]) (rest := [.inl v]) (Qc := fun r hE => r = some (.inl v) ∧ okM hE) C d_law_251 rfl rfl hW2 hS1 ⟨hl.1, hl.2.1⟩ ⟨rfl, rfl, rfl, rfl, ⟨q1, hq2, rfl⟩, rfl, trivial⟩ (kM _ (fun h ok => ⟨rfl, ok⟩)) (fun r hE2 ok => ⟨by have := ok.2.1; have := ok1.1; show cells + (hE.length - 96) + (hE2.length - 26) ≤ 600000; omega, by have := ok.2.2; have := ok1.2.1; show slots + mslots (hE.drop 96) + mslots (hE2.drop 26) ≤ 7302250; omega⟩) fun r hE2 H2 locs2 ads2 st2 hQ2 ha2 hW3 hS2 hst2 => ?_
  obtain ⟨rfl, ok2⟩ := hQ2
  obtain ⟨r2, rfl, hr2⟩ := vrs_i (st := [.inl v]) hst2
  obtain ⟨r3, rfl, hr3⟩ := vrs_i (st := []) hr2
  have hr3e : r3 = [] := by
    match r3, hr3 with
    | [], _ => rfl
    | _ :: _, hr3 => exact hr3.elim
  subst hr3e
  refine lv_icmp_eq (tgt := 829) hx hb d_law_254 (by decide) (fun _ => ?_) (fun hne => absurd rfl hne)
  exact l_end C hL hS2 hl (by have := ok1.1; have := ok2.1; show cells + (hE.length - 96) + (hE2.length - 26) ≤ 600000; omega) (by have := ok1.2.1; have := ok2.2; show slots + mslots (hE.drop 96) + mslots (hE2.drop 26) ≤ 7302250; omega)
set_option maxRecDepth 100000 in
set_option maxHeartbeats 40000000 in
/-- size -/
theorem l_c3 {q0 q1 : Nat} (C : lw_At p s m meth c b L xs) (hL : L = 6) (hW : Wd D (lA s) s H ads hJ) (hS : va_S (lA s) s.heap H locs) (hq0 : ads[0]? = some q0) (hq1 : ads[70]? = some q1) (hl : lv_has ls 4 [(3, .int 0), (2, .ref q1), (1, .ref q0), (0, .ref b)]) (hc : cells ≤ 100) (hs : slots ≤ 20000) : LG p l e s m below meth c b H locs cells slots 259 ls [] := by
  have hx := C.1
  have hb := C.2.1
  obtain ⟨v, kD, kM⟩ := pr_size (xs 1)
  refine lv_aload_n hx hb d_law_259 rfl (lv_at hl 2 rfl) ?_
  refine l_arg (v := 1) (k := 1) C hL hS (lv_at hl 3 rfl) (lv_at hl 0 rfl) d_law_260 d_law_261 d_law_262 d_law_263 d_law_264 (by decide) (by decide) (by decide) (by decide) ?_
  refine l_call (st := [.inl (xs 1), .inr (some 0)]) (as := [.inr (some 0), .inl (xs 1)]) (rest := []) (Qc := fun r hE => r = some (.inl v) ∧ okD hE) C d_law_265 rfl rfl hW hS ⟨hl.1, hl.2.1⟩ ⟨rfl, ⟨q0, hq0, rfl⟩, trivial⟩ (kD _ (fun h ok => ⟨rfl, ok⟩)) (fun r hE ok => ⟨by have := ok.2.1; show cells + (hE.length - 96) ≤ 600000; omega, by have := ok.2.2.1; show slots + mslots (hE.drop 96) ≤ 7302250; omega⟩) fun r hE H1 locs1 ads1 st1 hQ ha hW1 hS1 hst1 => ?_
  obtain ⟨rfl, ok1⟩ := hQ
  obtain ⟨r1, rfl, hr1⟩ := vrs_i (st := []) hst1
  have hr1e : r1 = [] := by
    match r1, hr1 with
    | [], _ => rfl
    | _ :: _, hr1 => exact hr1.elim
  subst hr1e
  obtain ⟨la, rfl⟩ := ha
  have hW2 := Wd_pick (k := 70) (g := hM) hW1 (ok1.2.2.trans hS_is) hM_cl
  have hq2 : (((ads ++ la).drop 70).take hM.length)[0]? = some q1 := by
    rw [List.getElem?_take_of_lt (by decide), List.getElem?_drop, List.getElem?_append_left (List.getElem?_eq_some_iff.mp hq1).1]
    exact hq1
  refine lv_aload_n hx hb d_law_268 rfl (lv_at hl 1 rfl) ?_
  refine l_arg (v := 1) (k := 1) C hL hS1 (lv_at hl 3 rfl) (lv_at hl 0 rfl) d_law_269 d_law_270 d_law_271 d_law_272 d_law_273 (by decide) (by decide) (by decide) (by decide) ?_
  refine l_call (st := [.inl (xs 1), .inr (some 0), .inl v]) (as := [.inr (some 0), .inl (xs 1)]) (rest := [.inl v]) (Qc := fun r hE => r = some (.inl v) ∧ okM hE) C d_law_274 rfl rfl hW2 hS1 ⟨hl.1, hl.2.1⟩ ⟨rfl, ⟨q1, hq2, rfl⟩, rfl, trivial⟩ (kM _ (fun h ok => ⟨rfl, ok⟩)) (fun r hE2 ok => ⟨by have := ok.2.1; have := ok1.1; show cells + (hE.length - 96) + (hE2.length - 26) ≤ 600000; omega, by have := ok.2.2; have := ok1.2.1; show slots + mslots (hE.drop 96) + mslots (hE2.drop 26) ≤ 7302250; omega⟩) fun r hE2 H2 locs2 ads2 st2 hQ2 ha2 hW3 hS2 hst2 => ?_
  obtain ⟨rfl, ok2⟩ := hQ2
  obtain ⟨r2, rfl, hr2⟩ := vrs_i (st := [.inl v]) hst2
  obtain ⟨r3, rfl, hr3⟩ := vrs_i (st := []) hr2
  have hr3e : r3 = [] := by
    match r3, hr3 with
    | [], _ => rfl
    | _ :: _, hr3 => exact hr3.elim
  subst hr3e
  refine lv_icmp_eq (tgt := 829) hx hb d_law_277 (by decide) (fun _ => ?_) (fun hne => absurd rfl hne)
  exact l_end C hL hS2 hl (by have := ok1.1; have := ok2.1; show cells + (hE.length - 96) + (hE2.length - 26) ≤ 600000; omega) (by have := ok1.2.1; have := ok2.2; show slots + mslots (hE.drop 96) + mslots (hE2.drop 26) ≤ 7302250; omega)
set_option maxRecDepth 100000 in
set_option maxHeartbeats 40000000 in
/-- node -/
theorem l_c4 {q0 q1 : Nat} (C : lw_At p s m meth c b L xs) (hL : L = 6) (hW : Wd D (lA s) s H ads hJ) (hS : va_S (lA s) s.heap H locs) (hq0 : ads[0]? = some q0) (hq1 : ads[70]? = some q1) (hl : lv_has ls 4 [(3, .int 0), (2, .ref q1), (1, .ref q0), (0, .ref b)]) (hc : cells ≤ 100) (hs : slots ≤ 20000) : LG p l e s m below meth c b H locs cells slots 282 ls [] := by
  have hx := C.1
  have hb := C.2.1
  obtain ⟨v, kD, kM⟩ := pr_node (xs 1) (xs 2)
  refine lv_aload_n hx hb d_law_282 rfl (lv_at hl 2 rfl) ?_
  refine l_arg (v := 1) (k := 1) C hL hS (lv_at hl 3 rfl) (lv_at hl 0 rfl) d_law_283 d_law_284 d_law_285 d_law_286 d_law_287 (by decide) (by decide) (by decide) (by decide) ?_
  refine l_arg (v := 2) (k := 2) C hL hS (lv_at hl 3 rfl) (lv_at hl 0 rfl) d_law_288 d_law_289 d_law_290 d_law_291 d_law_292 (by decide) (by decide) (by decide) (by decide) ?_
  refine l_call (st := [.inl (xs 2), .inl (xs 1), .inr (some 0)]) (as := [.inr (some 0), .inl (xs 1), .inl (xs 2)]) (rest := []) (Qc := fun r hE => r = some (.inl v) ∧ okD hE) C d_law_293 rfl rfl hW hS ⟨hl.1, hl.2.1⟩ ⟨rfl, rfl, ⟨q0, hq0, rfl⟩, trivial⟩ (kD _ (fun h ok => ⟨rfl, ok⟩)) (fun r hE ok => ⟨by have := ok.2.1; show cells + (hE.length - 96) ≤ 600000; omega, by have := ok.2.2.1; show slots + mslots (hE.drop 96) ≤ 7302250; omega⟩) fun r hE H1 locs1 ads1 st1 hQ ha hW1 hS1 hst1 => ?_
  obtain ⟨rfl, ok1⟩ := hQ
  obtain ⟨r1, rfl, hr1⟩ := vrs_i (st := []) hst1
  have hr1e : r1 = [] := by
    match r1, hr1 with
    | [], _ => rfl
    | _ :: _, hr1 => exact hr1.elim
  subst hr1e
  obtain ⟨la, rfl⟩ := ha
  have hW2 := Wd_pick (k := 70) (g := hM) hW1 (ok1.2.2.trans hS_is) hM_cl
  have hq2 : (((ads ++ la).drop 70).take hM.length)[0]? = some q1 := by
    rw [List.getElem?_take_of_lt (by decide), List.getElem?_drop, List.getElem?_append_left (List.getElem?_eq_some_iff.mp hq1).1]
    exact hq1
  refine lv_aload_n hx hb d_law_296 rfl (lv_at hl 1 rfl) ?_
  refine l_arg (v := 1) (k := 1) C hL hS1 (lv_at hl 3 rfl) (lv_at hl 0 rfl) d_law_297 d_law_298 d_law_299 d_law_300 d_law_301 (by decide) (by decide) (by decide) (by decide) ?_
  refine l_arg (v := 2) (k := 2) C hL hS1 (lv_at hl 3 rfl) (lv_at hl 0 rfl) d_law_302 d_law_303 d_law_304 d_law_305 d_law_306 (by decide) (by decide) (by decide) (by decide) ?_
  refine l_call (st := [.inl (xs 2), .inl (xs 1), .inr (some 0), .inl v]) (as := [.inr (some 0), .inl (xs 1), .inl (xs 2)]) (rest := [.inl v]) (Qc := fun r hE => r = some (.inl v) ∧ okM hE) C d_law_307 rfl rfl hW2 hS1 ⟨hl.1, hl.2.1⟩ ⟨rfl, rfl, ⟨q1, hq2, rfl⟩, rfl, trivial⟩ (kM _ (fun h ok => ⟨rfl, ok⟩)) (fun r hE2 ok => ⟨by have := ok.2.1; have := ok1.1; show cells + (hE.length - 96) + (hE2.length - 26) ≤ 600000; omega, by have := ok.2.2; have := ok1.2.1; show slots + mslots (hE.drop 96) + mslots (hE2.drop 26) ≤ 7302250; omega⟩) fun r hE2 H2 locs2 ads2 st2 hQ2 ha2 hW3 hS2 hst2 => ?_
  obtain ⟨rfl, ok2⟩ := hQ2
  obtain ⟨r2, rfl, hr2⟩ := vrs_i (st := [.inl v]) hst2
  obtain ⟨r3, rfl, hr3⟩ := vrs_i (st := []) hr2
  have hr3e : r3 = [] := by
    match r3, hr3 with
    | [], _ => rfl
    | _ :: _, hr3 => exact hr3.elim
  subst hr3e
  refine lv_icmp_eq (tgt := 829) hx hb d_law_310 (by decide) (fun _ => ?_) (fun hne => absurd rfl hne)
  exact l_end C hL hS2 hl (by have := ok1.1; have := ok2.1; show cells + (hE.length - 96) + (hE2.length - 26) ≤ 600000; omega) (by have := ok1.2.1; have := ok2.2; show slots + mslots (hE.drop 96) + mslots (hE2.drop 26) ≤ 7302250; omega)
set_option maxRecDepth 100000 in
set_option maxHeartbeats 40000000 in
/-- same -/
theorem l_c5 {q0 q1 : Nat} (C : lw_At p s m meth c b L xs) (hL : L = 6) (hW : Wd D (lA s) s H ads hJ) (hS : va_S (lA s) s.heap H locs) (hq0 : ads[0]? = some q0) (hq1 : ads[70]? = some q1) (hl : lv_has ls 4 [(3, .int 0), (2, .ref q1), (1, .ref q0), (0, .ref b)]) (hc : cells ≤ 100) (hs : slots ≤ 20000) : LG p l e s m below meth c b H locs cells slots 315 ls [] := by
  have hx := C.1
  have hb := C.2.1
  obtain ⟨v, kD, kM⟩ := pr_same (xs 1) (xs 2)
  refine lv_aload_n hx hb d_law_315 rfl (lv_at hl 2 rfl) ?_
  refine l_arg (v := 1) (k := 1) C hL hS (lv_at hl 3 rfl) (lv_at hl 0 rfl) d_law_316 d_law_317 d_law_318 d_law_319 d_law_320 (by decide) (by decide) (by decide) (by decide) ?_
  refine l_arg (v := 2) (k := 2) C hL hS (lv_at hl 3 rfl) (lv_at hl 0 rfl) d_law_321 d_law_322 d_law_323 d_law_324 d_law_325 (by decide) (by decide) (by decide) (by decide) ?_
  refine l_call (st := [.inl (xs 2), .inl (xs 1), .inr (some 0)]) (as := [.inr (some 0), .inl (xs 1), .inl (xs 2)]) (rest := []) (Qc := fun r hE => r = some (.inl v) ∧ okD hE) C d_law_326 rfl rfl hW hS ⟨hl.1, hl.2.1⟩ ⟨rfl, rfl, ⟨q0, hq0, rfl⟩, trivial⟩ (kD _ (fun h ok => ⟨rfl, ok⟩)) (fun r hE ok => ⟨by have := ok.2.1; show cells + (hE.length - 96) ≤ 600000; omega, by have := ok.2.2.1; show slots + mslots (hE.drop 96) ≤ 7302250; omega⟩) fun r hE H1 locs1 ads1 st1 hQ ha hW1 hS1 hst1 => ?_
  obtain ⟨rfl, ok1⟩ := hQ
  obtain ⟨r1, rfl, hr1⟩ := vrs_i (st := []) hst1
  have hr1e : r1 = [] := by
    match r1, hr1 with
    | [], _ => rfl
    | _ :: _, hr1 => exact hr1.elim
  subst hr1e
  obtain ⟨la, rfl⟩ := ha
  have hW2 := Wd_pick (k := 70) (g := hM) hW1 (ok1.2.2.trans hS_is) hM_cl
  have hq2 : (((ads ++ la).drop 70).take hM.length)[0]? = some q1 := by
    rw [List.getElem?_take_of_lt (by decide), List.getElem?_drop, List.getElem?_append_left (List.getElem?_eq_some_iff.mp hq1).1]
    exact hq1
  refine lv_aload_n hx hb d_law_329 rfl (lv_at hl 1 rfl) ?_
  refine l_arg (v := 1) (k := 1) C hL hS1 (lv_at hl 3 rfl) (lv_at hl 0 rfl) d_law_330 d_law_331 d_law_332 d_law_333 d_law_334 (by decide) (by decide) (by decide) (by decide) ?_
  refine l_arg (v := 2) (k := 2) C hL hS1 (lv_at hl 3 rfl) (lv_at hl 0 rfl) d_law_335 d_law_336 d_law_337 d_law_338 d_law_339 (by decide) (by decide) (by decide) (by decide) ?_
  refine l_call (st := [.inl (xs 2), .inl (xs 1), .inr (some 0), .inl v]) (as := [.inr (some 0), .inl (xs 1), .inl (xs 2)]) (rest := [.inl v]) (Qc := fun r hE => r = some (.inl v) ∧ okM hE) C d_law_340 rfl rfl hW2 hS1 ⟨hl.1, hl.2.1⟩ ⟨rfl, rfl, ⟨q1, hq2, rfl⟩, rfl, trivial⟩ (kM _ (fun h ok => ⟨rfl, ok⟩)) (fun r hE2 ok => ⟨by have := ok.2.1; have := ok1.1; show cells + (hE.length - 96) + (hE2.length - 26) ≤ 600000; omega, by have := ok.2.2; have := ok1.2.1; show slots + mslots (hE.drop 96) + mslots (hE2.drop 26) ≤ 7302250; omega⟩) fun r hE2 H2 locs2 ads2 st2 hQ2 ha2 hW3 hS2 hst2 => ?_
  obtain ⟨rfl, ok2⟩ := hQ2
  obtain ⟨r2, rfl, hr2⟩ := vrs_i (st := [.inl v]) hst2
  obtain ⟨r3, rfl, hr3⟩ := vrs_i (st := []) hr2
  have hr3e : r3 = [] := by
    match r3, hr3 with
    | [], _ => rfl
    | _ :: _, hr3 => exact hr3.elim
  subst hr3e
  refine lv_icmp_eq (tgt := 829) hx hb d_law_343 (by decide) (fun _ => ?_) (fun hne => absurd rfl hne)
  exact l_end C hL hS2 hl (by have := ok1.1; have := ok2.1; show cells + (hE.length - 96) + (hE2.length - 26) ≤ 600000; omega) (by have := ok1.2.1; have := ok2.2; show slots + mslots (hE.drop 96) + mslots (hE2.drop 26) ≤ 7302250; omega)
set_option maxRecDepth 100000 in
set_option maxHeartbeats 40000000 in
/-- greater -/
theorem l_c6 {q0 q1 : Nat} (C : lw_At p s m meth c b L xs) (hL : L = 6) (hW : Wd D (lA s) s H ads hJ) (hS : va_S (lA s) s.heap H locs) (hq0 : ads[0]? = some q0) (hq1 : ads[70]? = some q1) (hl : lv_has ls 4 [(3, .int 0), (2, .ref q1), (1, .ref q0), (0, .ref b)]) (hc : cells ≤ 100) (hs : slots ≤ 20000) : LG p l e s m below meth c b H locs cells slots 348 ls [] := by
  have hx := C.1
  have hb := C.2.1
  obtain ⟨v, kD, kM⟩ := pr_greater (xs 1) (xs 2)
  refine lv_aload_n hx hb d_law_348 rfl (lv_at hl 2 rfl) ?_
  refine l_arg (v := 1) (k := 1) C hL hS (lv_at hl 3 rfl) (lv_at hl 0 rfl) d_law_349 d_law_350 d_law_351 d_law_352 d_law_353 (by decide) (by decide) (by decide) (by decide) ?_
  refine l_arg (v := 2) (k := 2) C hL hS (lv_at hl 3 rfl) (lv_at hl 0 rfl) d_law_354 d_law_355 d_law_356 d_law_357 d_law_358 (by decide) (by decide) (by decide) (by decide) ?_
  refine l_call (st := [.inl (xs 2), .inl (xs 1), .inr (some 0)]) (as := [.inr (some 0), .inl (xs 1), .inl (xs 2)]) (rest := []) (Qc := fun r hE => r = some (.inl v) ∧ okD hE) C d_law_359 rfl rfl hW hS ⟨hl.1, hl.2.1⟩ ⟨rfl, rfl, ⟨q0, hq0, rfl⟩, trivial⟩ (kD _ (fun h ok => ⟨rfl, ok⟩)) (fun r hE ok => ⟨by have := ok.2.1; show cells + (hE.length - 96) ≤ 600000; omega, by have := ok.2.2.1; show slots + mslots (hE.drop 96) ≤ 7302250; omega⟩) fun r hE H1 locs1 ads1 st1 hQ ha hW1 hS1 hst1 => ?_
  obtain ⟨rfl, ok1⟩ := hQ
  obtain ⟨r1, rfl, hr1⟩ := vrs_i (st := []) hst1
  have hr1e : r1 = [] := by
    match r1, hr1 with
    | [], _ => rfl
    | _ :: _, hr1 => exact hr1.elim
  subst hr1e
  obtain ⟨la, rfl⟩ := ha
  have hW2 := Wd_pick (k := 70) (g := hM) hW1 (ok1.2.2.trans hS_is) hM_cl
  have hq2 : (((ads ++ la).drop 70).take hM.length)[0]? = some q1 := by
    rw [List.getElem?_take_of_lt (by decide), List.getElem?_drop, List.getElem?_append_left (List.getElem?_eq_some_iff.mp hq1).1]
    exact hq1
  refine lv_aload_n hx hb d_law_362 rfl (lv_at hl 1 rfl) ?_
  refine l_arg (v := 1) (k := 1) C hL hS1 (lv_at hl 3 rfl) (lv_at hl 0 rfl) d_law_363 d_law_364 d_law_365 d_law_366 d_law_367 (by decide) (by decide) (by decide) (by decide) ?_
  refine l_arg (v := 2) (k := 2) C hL hS1 (lv_at hl 3 rfl) (lv_at hl 0 rfl) d_law_368 d_law_369 d_law_370 d_law_371 d_law_372 (by decide) (by decide) (by decide) (by decide) ?_
  refine l_call (st := [.inl (xs 2), .inl (xs 1), .inr (some 0), .inl v]) (as := [.inr (some 0), .inl (xs 1), .inl (xs 2)]) (rest := [.inl v]) (Qc := fun r hE => r = some (.inl v) ∧ okM hE) C d_law_373 rfl rfl hW2 hS1 ⟨hl.1, hl.2.1⟩ ⟨rfl, rfl, ⟨q1, hq2, rfl⟩, rfl, trivial⟩ (kM _ (fun h ok => ⟨rfl, ok⟩)) (fun r hE2 ok => ⟨by have := ok.2.1; have := ok1.1; show cells + (hE.length - 96) + (hE2.length - 26) ≤ 600000; omega, by have := ok.2.2; have := ok1.2.1; show slots + mslots (hE.drop 96) + mslots (hE2.drop 26) ≤ 7302250; omega⟩) fun r hE2 H2 locs2 ads2 st2 hQ2 ha2 hW3 hS2 hst2 => ?_
  obtain ⟨rfl, ok2⟩ := hQ2
  obtain ⟨r2, rfl, hr2⟩ := vrs_i (st := [.inl v]) hst2
  obtain ⟨r3, rfl, hr3⟩ := vrs_i (st := []) hr2
  have hr3e : r3 = [] := by
    match r3, hr3 with
    | [], _ => rfl
    | _ :: _, hr3 => exact hr3.elim
  subst hr3e
  refine lv_icmp_eq (tgt := 829) hx hb d_law_376 (by decide) (fun _ => ?_) (fun hne => absurd rfl hne)
  exact l_end C hL hS2 hl (by have := ok1.1; have := ok2.1; show cells + (hE.length - 96) + (hE2.length - 26) ≤ 600000; omega) (by have := ok1.2.1; have := ok2.2; show slots + mslots (hE.drop 96) + mslots (hE2.drop 26) ≤ 7302250; omega)
set_option maxRecDepth 100000 in
set_option maxHeartbeats 40000000 in
/-- matches -/
theorem l_c7 {q0 q1 : Nat} (C : lw_At p s m meth c b L xs) (hL : L = 6) (hW : Wd D (lA s) s H ads hJ) (hS : va_S (lA s) s.heap H locs) (hq0 : ads[0]? = some q0) (hq1 : ads[70]? = some q1) (hl : lv_has ls 4 [(3, .int 0), (2, .ref q1), (1, .ref q0), (0, .ref b)]) (hc : cells ≤ 100) (hs : slots ≤ 20000) : LG p l e s m below meth c b H locs cells slots 381 ls [] := by
  have hx := C.1
  have hb := C.2.1
  obtain ⟨v, kD, kM⟩ := pr_matches (xs 1) (xs 2)
  refine lv_aload_n hx hb d_law_381 rfl (lv_at hl 2 rfl) ?_
  refine l_arg (v := 1) (k := 1) C hL hS (lv_at hl 3 rfl) (lv_at hl 0 rfl) d_law_382 d_law_383 d_law_384 d_law_385 d_law_386 (by decide) (by decide) (by decide) (by decide) ?_
  refine l_arg (v := 2) (k := 2) C hL hS (lv_at hl 3 rfl) (lv_at hl 0 rfl) d_law_387 d_law_388 d_law_389 d_law_390 d_law_391 (by decide) (by decide) (by decide) (by decide) ?_
  refine l_call (st := [.inl (xs 2), .inl (xs 1), .inr (some 0)]) (as := [.inr (some 0), .inl (xs 1), .inl (xs 2)]) (rest := []) (Qc := fun r hE => r = some (.inl v) ∧ okD hE) C d_law_392 rfl rfl hW hS ⟨hl.1, hl.2.1⟩ ⟨rfl, rfl, ⟨q0, hq0, rfl⟩, trivial⟩ (kD _ (fun h ok => ⟨rfl, ok⟩)) (fun r hE ok => ⟨by have := ok.2.1; show cells + (hE.length - 96) ≤ 600000; omega, by have := ok.2.2.1; show slots + mslots (hE.drop 96) ≤ 7302250; omega⟩) fun r hE H1 locs1 ads1 st1 hQ ha hW1 hS1 hst1 => ?_
  obtain ⟨rfl, ok1⟩ := hQ
  obtain ⟨r1, rfl, hr1⟩ := vrs_i (st := []) hst1
  have hr1e : r1 = [] := by
    match r1, hr1 with
    | [], _ => rfl
    | _ :: _, hr1 => exact hr1.elim
  subst hr1e
  obtain ⟨la, rfl⟩ := ha
  have hW2 := Wd_pick (k := 70) (g := hM) hW1 (ok1.2.2.trans hS_is) hM_cl
  have hq2 : (((ads ++ la).drop 70).take hM.length)[0]? = some q1 := by
    rw [List.getElem?_take_of_lt (by decide), List.getElem?_drop, List.getElem?_append_left (List.getElem?_eq_some_iff.mp hq1).1]
    exact hq1
  refine lv_aload_n hx hb d_law_395 rfl (lv_at hl 1 rfl) ?_
  refine l_arg (v := 1) (k := 1) C hL hS1 (lv_at hl 3 rfl) (lv_at hl 0 rfl) d_law_396 d_law_397 d_law_398 d_law_399 d_law_400 (by decide) (by decide) (by decide) (by decide) ?_
  refine l_arg (v := 2) (k := 2) C hL hS1 (lv_at hl 3 rfl) (lv_at hl 0 rfl) d_law_401 d_law_402 d_law_403 d_law_404 d_law_405 (by decide) (by decide) (by decide) (by decide) ?_
  refine l_call (st := [.inl (xs 2), .inl (xs 1), .inr (some 0), .inl v]) (as := [.inr (some 0), .inl (xs 1), .inl (xs 2)]) (rest := [.inl v]) (Qc := fun r hE => r = some (.inl v) ∧ okM hE) C d_law_406 rfl rfl hW2 hS1 ⟨hl.1, hl.2.1⟩ ⟨rfl, rfl, ⟨q1, hq2, rfl⟩, rfl, trivial⟩ (kM _ (fun h ok => ⟨rfl, ok⟩)) (fun r hE2 ok => ⟨by have := ok.2.1; have := ok1.1; show cells + (hE.length - 96) + (hE2.length - 26) ≤ 600000; omega, by have := ok.2.2; have := ok1.2.1; show slots + mslots (hE.drop 96) + mslots (hE2.drop 26) ≤ 7302250; omega⟩) fun r hE2 H2 locs2 ads2 st2 hQ2 ha2 hW3 hS2 hst2 => ?_
  obtain ⟨rfl, ok2⟩ := hQ2
  obtain ⟨r2, rfl, hr2⟩ := vrs_i (st := [.inl v]) hst2
  obtain ⟨r3, rfl, hr3⟩ := vrs_i (st := []) hr2
  have hr3e : r3 = [] := by
    match r3, hr3 with
    | [], _ => rfl
    | _ :: _, hr3 => exact hr3.elim
  subst hr3e
  refine lv_icmp_eq (tgt := 829) hx hb d_law_409 (by decide) (fun _ => ?_) (fun hne => absurd rfl hne)
  exact l_end C hL hS2 hl (by have := ok1.1; have := ok2.1; show cells + (hE.length - 96) + (hE2.length - 26) ≤ 600000; omega) (by have := ok1.2.1; have := ok2.2; show slots + mslots (hE.drop 96) + mslots (hE2.drop 26) ≤ 7302250; omega)
set_option maxRecDepth 100000 in
set_option maxHeartbeats 40000000 in
/-- match -/
theorem l_c8 {q0 q1 : Nat} (C : lw_At p s m meth c b L xs) (hL : L = 6) (hW : Wd D (lA s) s H ads hJ) (hS : va_S (lA s) s.heap H locs) (hq0 : ads[0]? = some q0) (hq1 : ads[70]? = some q1) (hl : lv_has ls 4 [(3, .int 0), (2, .ref q1), (1, .ref q0), (0, .ref b)]) (hc : cells ≤ 100) (hs : slots ≤ 20000) : LG p l e s m below meth c b H locs cells slots 414 ls [] := by
  have hx := C.1
  have hb := C.2.1
  obtain ⟨v, kD, kM⟩ := pr_match (xs 1) (xs 2) (xs 3) (xs 4) (xs 5)
  refine lv_aload_n hx hb d_law_414 rfl (lv_at hl 2 rfl) ?_
  refine l_arg (v := 1) (k := 1) C hL hS (lv_at hl 3 rfl) (lv_at hl 0 rfl) d_law_415 d_law_416 d_law_417 d_law_418 d_law_419 (by decide) (by decide) (by decide) (by decide) ?_
  refine l_arg (v := 2) (k := 2) C hL hS (lv_at hl 3 rfl) (lv_at hl 0 rfl) d_law_420 d_law_421 d_law_422 d_law_423 d_law_424 (by decide) (by decide) (by decide) (by decide) ?_
  refine l_arg (v := 3) (k := 3) C hL hS (lv_at hl 3 rfl) (lv_at hl 0 rfl) d_law_425 d_law_426 d_law_427 d_law_428 d_law_429 (by decide) (by decide) (by decide) (by decide) ?_
  refine l_arg (v := 4) (k := 4) C hL hS (lv_at hl 3 rfl) (lv_at hl 0 rfl) d_law_430 d_law_431 d_law_432 d_law_433 d_law_434 (by decide) (by decide) (by decide) (by decide) ?_
  refine l_arg (v := 5) (k := 5) C hL hS (lv_at hl 3 rfl) (lv_at hl 0 rfl) d_law_435 d_law_436 d_law_437 d_law_438 d_law_439 (by decide) (by decide) (by decide) (by decide) ?_
  refine l_call (st := [.inl (xs 5), .inl (xs 4), .inl (xs 3), .inl (xs 2), .inl (xs 1), .inr (some 0)]) (as := [.inr (some 0), .inl (xs 1), .inl (xs 2), .inl (xs 3), .inl (xs 4), .inl (xs 5)]) (rest := []) (Qc := fun r hE => r = some (.inl v) ∧ okD hE) C d_law_440 rfl rfl hW hS ⟨hl.1, hl.2.1⟩ ⟨rfl, rfl, rfl, rfl, rfl, ⟨q0, hq0, rfl⟩, trivial⟩ (kD _ (fun h ok => ⟨rfl, ok⟩)) (fun r hE ok => ⟨by have := ok.2.1; show cells + (hE.length - 96) ≤ 600000; omega, by have := ok.2.2.1; show slots + mslots (hE.drop 96) ≤ 7302250; omega⟩) fun r hE H1 locs1 ads1 st1 hQ ha hW1 hS1 hst1 => ?_
  obtain ⟨rfl, ok1⟩ := hQ
  obtain ⟨r1, rfl, hr1⟩ := vrs_i (st := []) hst1
  have hr1e : r1 = [] := by
    match r1, hr1 with
    | [], _ => rfl
    | _ :: _, hr1 => exact hr1.elim
  subst hr1e
  obtain ⟨la, rfl⟩ := ha
  have hW2 := Wd_pick (k := 70) (g := hM) hW1 (ok1.2.2.trans hS_is) hM_cl
  have hq2 : (((ads ++ la).drop 70).take hM.length)[0]? = some q1 := by
    rw [List.getElem?_take_of_lt (by decide), List.getElem?_drop, List.getElem?_append_left (List.getElem?_eq_some_iff.mp hq1).1]
    exact hq1
  refine lv_aload_n hx hb d_law_443 rfl (lv_at hl 1 rfl) ?_
  refine l_arg (v := 1) (k := 1) C hL hS1 (lv_at hl 3 rfl) (lv_at hl 0 rfl) d_law_444 d_law_445 d_law_446 d_law_447 d_law_448 (by decide) (by decide) (by decide) (by decide) ?_
  refine l_arg (v := 2) (k := 2) C hL hS1 (lv_at hl 3 rfl) (lv_at hl 0 rfl) d_law_449 d_law_450 d_law_451 d_law_452 d_law_453 (by decide) (by decide) (by decide) (by decide) ?_
  refine l_arg (v := 3) (k := 3) C hL hS1 (lv_at hl 3 rfl) (lv_at hl 0 rfl) d_law_454 d_law_455 d_law_456 d_law_457 d_law_458 (by decide) (by decide) (by decide) (by decide) ?_
  refine l_arg (v := 4) (k := 4) C hL hS1 (lv_at hl 3 rfl) (lv_at hl 0 rfl) d_law_459 d_law_460 d_law_461 d_law_462 d_law_463 (by decide) (by decide) (by decide) (by decide) ?_
  refine l_arg (v := 5) (k := 5) C hL hS1 (lv_at hl 3 rfl) (lv_at hl 0 rfl) d_law_464 d_law_465 d_law_466 d_law_467 d_law_468 (by decide) (by decide) (by decide) (by decide) ?_
  refine l_call (st := [.inl (xs 5), .inl (xs 4), .inl (xs 3), .inl (xs 2), .inl (xs 1), .inr (some 0), .inl v]) (as := [.inr (some 0), .inl (xs 1), .inl (xs 2), .inl (xs 3), .inl (xs 4), .inl (xs 5)]) (rest := [.inl v]) (Qc := fun r hE => r = some (.inl v) ∧ okM hE) C d_law_469 rfl rfl hW2 hS1 ⟨hl.1, hl.2.1⟩ ⟨rfl, rfl, rfl, rfl, rfl, ⟨q1, hq2, rfl⟩, rfl, trivial⟩ (kM _ (fun h ok => ⟨rfl, ok⟩)) (fun r hE2 ok => ⟨by have := ok.2.1; have := ok1.1; show cells + (hE.length - 96) + (hE2.length - 26) ≤ 600000; omega, by have := ok.2.2; have := ok1.2.1; show slots + mslots (hE.drop 96) + mslots (hE2.drop 26) ≤ 7302250; omega⟩) fun r hE2 H2 locs2 ads2 st2 hQ2 ha2 hW3 hS2 hst2 => ?_
  obtain ⟨rfl, ok2⟩ := hQ2
  obtain ⟨r2, rfl, hr2⟩ := vrs_i (st := [.inl v]) hst2
  obtain ⟨r3, rfl, hr3⟩ := vrs_i (st := []) hr2
  have hr3e : r3 = [] := by
    match r3, hr3 with
    | [], _ => rfl
    | _ :: _, hr3 => exact hr3.elim
  subst hr3e
  refine lv_icmp_eq (tgt := 829) hx hb d_law_472 (by decide) (fun _ => ?_) (fun hne => absurd rfl hne)
  exact l_end C hL hS2 hl (by have := ok1.1; have := ok2.1; show cells + (hE.length - 96) + (hE2.length - 26) ≤ 600000; omega) (by have := ok1.2.1; have := ok2.2; show slots + mslots (hE.drop 96) + mslots (hE2.drop 26) ≤ 7302250; omega)
set_option maxRecDepth 100000 in
set_option maxHeartbeats 40000000 in
/-- unifiers -/
theorem l_c9 {q0 q1 : Nat} (C : lw_At p s m meth c b L xs) (hL : L = 6) (hW : Wd D (lA s) s H ads hJ) (hS : va_S (lA s) s.heap H locs) (hq0 : ads[0]? = some q0) (hq1 : ads[70]? = some q1) (hl : lv_has ls 4 [(3, .int 0), (2, .ref q1), (1, .ref q0), (0, .ref b)]) (hc : cells ≤ 100) (hs : slots ≤ 20000) : LG p l e s m below meth c b H locs cells slots 477 ls [] := by
  have hx := C.1
  have hb := C.2.1
  obtain ⟨v, kD, kM⟩ := pr_unifiers (xs 1) (xs 2)
  refine lv_aload_n hx hb d_law_477 rfl (lv_at hl 2 rfl) ?_
  refine l_arg (v := 1) (k := 1) C hL hS (lv_at hl 3 rfl) (lv_at hl 0 rfl) d_law_478 d_law_479 d_law_480 d_law_481 d_law_482 (by decide) (by decide) (by decide) (by decide) ?_
  refine l_arg (v := 2) (k := 2) C hL hS (lv_at hl 3 rfl) (lv_at hl 0 rfl) d_law_483 d_law_484 d_law_485 d_law_486 d_law_487 (by decide) (by decide) (by decide) (by decide) ?_
  refine l_call (st := [.inl (xs 2), .inl (xs 1), .inr (some 0)]) (as := [.inr (some 0), .inl (xs 1), .inl (xs 2)]) (rest := []) (Qc := fun r hE => r = some (.inl v) ∧ okD hE) C d_law_488 rfl rfl hW hS ⟨hl.1, hl.2.1⟩ ⟨rfl, rfl, ⟨q0, hq0, rfl⟩, trivial⟩ (kD _ (fun h ok => ⟨rfl, ok⟩)) (fun r hE ok => ⟨by have := ok.2.1; show cells + (hE.length - 96) ≤ 600000; omega, by have := ok.2.2.1; show slots + mslots (hE.drop 96) ≤ 7302250; omega⟩) fun r hE H1 locs1 ads1 st1 hQ ha hW1 hS1 hst1 => ?_
  obtain ⟨rfl, ok1⟩ := hQ
  obtain ⟨r1, rfl, hr1⟩ := vrs_i (st := []) hst1
  have hr1e : r1 = [] := by
    match r1, hr1 with
    | [], _ => rfl
    | _ :: _, hr1 => exact hr1.elim
  subst hr1e
  obtain ⟨la, rfl⟩ := ha
  have hW2 := Wd_pick (k := 70) (g := hM) hW1 (ok1.2.2.trans hS_is) hM_cl
  have hq2 : (((ads ++ la).drop 70).take hM.length)[0]? = some q1 := by
    rw [List.getElem?_take_of_lt (by decide), List.getElem?_drop, List.getElem?_append_left (List.getElem?_eq_some_iff.mp hq1).1]
    exact hq1
  refine lv_aload_n hx hb d_law_491 rfl (lv_at hl 1 rfl) ?_
  refine l_arg (v := 1) (k := 1) C hL hS1 (lv_at hl 3 rfl) (lv_at hl 0 rfl) d_law_492 d_law_493 d_law_494 d_law_495 d_law_496 (by decide) (by decide) (by decide) (by decide) ?_
  refine l_arg (v := 2) (k := 2) C hL hS1 (lv_at hl 3 rfl) (lv_at hl 0 rfl) d_law_497 d_law_498 d_law_499 d_law_500 d_law_501 (by decide) (by decide) (by decide) (by decide) ?_
  refine l_call (st := [.inl (xs 2), .inl (xs 1), .inr (some 0), .inl v]) (as := [.inr (some 0), .inl (xs 1), .inl (xs 2)]) (rest := [.inl v]) (Qc := fun r hE => r = some (.inl v) ∧ okM hE) C d_law_502 rfl rfl hW2 hS1 ⟨hl.1, hl.2.1⟩ ⟨rfl, rfl, ⟨q1, hq2, rfl⟩, rfl, trivial⟩ (kM _ (fun h ok => ⟨rfl, ok⟩)) (fun r hE2 ok => ⟨by have := ok.2.1; have := ok1.1; show cells + (hE.length - 96) + (hE2.length - 26) ≤ 600000; omega, by have := ok.2.2; have := ok1.2.1; show slots + mslots (hE.drop 96) + mslots (hE2.drop 26) ≤ 7302250; omega⟩) fun r hE2 H2 locs2 ads2 st2 hQ2 ha2 hW3 hS2 hst2 => ?_
  obtain ⟨rfl, ok2⟩ := hQ2
  obtain ⟨r2, rfl, hr2⟩ := vrs_i (st := [.inl v]) hst2
  obtain ⟨r3, rfl, hr3⟩ := vrs_i (st := []) hr2
  have hr3e : r3 = [] := by
    match r3, hr3 with
    | [], _ => rfl
    | _ :: _, hr3 => exact hr3.elim
  subst hr3e
  refine lv_icmp_eq (tgt := 829) hx hb d_law_505 (by decide) (fun _ => ?_) (fun hne => absurd rfl hne)
  exact l_end C hL hS2 hl (by have := ok1.1; have := ok2.1; show cells + (hE.length - 96) + (hE2.length - 26) ≤ 600000; omega) (by have := ok1.2.1; have := ok2.2; show slots + mslots (hE.drop 96) + mslots (hE2.drop 26) ≤ 7302250; omega)
set_option maxRecDepth 100000 in
set_option maxHeartbeats 40000000 in
/-- unifier -/
theorem l_c10 {q0 q1 : Nat} (C : lw_At p s m meth c b L xs) (hL : L = 6) (hW : Wd D (lA s) s H ads hJ) (hS : va_S (lA s) s.heap H locs) (hq0 : ads[0]? = some q0) (hq1 : ads[70]? = some q1) (hl : lv_has ls 4 [(3, .int 0), (2, .ref q1), (1, .ref q0), (0, .ref b)]) (hc : cells ≤ 100) (hs : slots ≤ 20000) : LG p l e s m below meth c b H locs cells slots 510 ls [] := by
  have hx := C.1
  have hb := C.2.1
  obtain ⟨v, kD, kM⟩ := pr_unifier (xs 1) (xs 2) (xs 3) (xs 4)
  refine lv_aload_n hx hb d_law_510 rfl (lv_at hl 2 rfl) ?_
  refine l_arg (v := 1) (k := 1) C hL hS (lv_at hl 3 rfl) (lv_at hl 0 rfl) d_law_511 d_law_512 d_law_513 d_law_514 d_law_515 (by decide) (by decide) (by decide) (by decide) ?_
  refine l_arg (v := 2) (k := 2) C hL hS (lv_at hl 3 rfl) (lv_at hl 0 rfl) d_law_516 d_law_517 d_law_518 d_law_519 d_law_520 (by decide) (by decide) (by decide) (by decide) ?_
  refine l_arg (v := 3) (k := 3) C hL hS (lv_at hl 3 rfl) (lv_at hl 0 rfl) d_law_521 d_law_522 d_law_523 d_law_524 d_law_525 (by decide) (by decide) (by decide) (by decide) ?_
  refine l_arg (v := 4) (k := 4) C hL hS (lv_at hl 3 rfl) (lv_at hl 0 rfl) d_law_526 d_law_527 d_law_528 d_law_529 d_law_530 (by decide) (by decide) (by decide) (by decide) ?_
  refine l_call (st := [.inl (xs 4), .inl (xs 3), .inl (xs 2), .inl (xs 1), .inr (some 0)]) (as := [.inr (some 0), .inl (xs 1), .inl (xs 2), .inl (xs 3), .inl (xs 4)]) (rest := []) (Qc := fun r hE => r = some (.inl v) ∧ okD hE) C d_law_531 rfl rfl hW hS ⟨hl.1, hl.2.1⟩ ⟨rfl, rfl, rfl, rfl, ⟨q0, hq0, rfl⟩, trivial⟩ (kD _ (fun h ok => ⟨rfl, ok⟩)) (fun r hE ok => ⟨by have := ok.2.1; show cells + (hE.length - 96) ≤ 600000; omega, by have := ok.2.2.1; show slots + mslots (hE.drop 96) ≤ 7302250; omega⟩) fun r hE H1 locs1 ads1 st1 hQ ha hW1 hS1 hst1 => ?_
  obtain ⟨rfl, ok1⟩ := hQ
  obtain ⟨r1, rfl, hr1⟩ := vrs_i (st := []) hst1
  have hr1e : r1 = [] := by
    match r1, hr1 with
    | [], _ => rfl
    | _ :: _, hr1 => exact hr1.elim
  subst hr1e
  obtain ⟨la, rfl⟩ := ha
  have hW2 := Wd_pick (k := 70) (g := hM) hW1 (ok1.2.2.trans hS_is) hM_cl
  have hq2 : (((ads ++ la).drop 70).take hM.length)[0]? = some q1 := by
    rw [List.getElem?_take_of_lt (by decide), List.getElem?_drop, List.getElem?_append_left (List.getElem?_eq_some_iff.mp hq1).1]
    exact hq1
  refine lv_aload_n hx hb d_law_534 rfl (lv_at hl 1 rfl) ?_
  refine l_arg (v := 1) (k := 1) C hL hS1 (lv_at hl 3 rfl) (lv_at hl 0 rfl) d_law_535 d_law_536 d_law_537 d_law_538 d_law_539 (by decide) (by decide) (by decide) (by decide) ?_
  refine l_arg (v := 2) (k := 2) C hL hS1 (lv_at hl 3 rfl) (lv_at hl 0 rfl) d_law_540 d_law_541 d_law_542 d_law_543 d_law_544 (by decide) (by decide) (by decide) (by decide) ?_
  refine l_arg (v := 3) (k := 3) C hL hS1 (lv_at hl 3 rfl) (lv_at hl 0 rfl) d_law_545 d_law_546 d_law_547 d_law_548 d_law_549 (by decide) (by decide) (by decide) (by decide) ?_
  refine l_arg (v := 4) (k := 4) C hL hS1 (lv_at hl 3 rfl) (lv_at hl 0 rfl) d_law_550 d_law_551 d_law_552 d_law_553 d_law_554 (by decide) (by decide) (by decide) (by decide) ?_
  refine l_call (st := [.inl (xs 4), .inl (xs 3), .inl (xs 2), .inl (xs 1), .inr (some 0), .inl v]) (as := [.inr (some 0), .inl (xs 1), .inl (xs 2), .inl (xs 3), .inl (xs 4)]) (rest := [.inl v]) (Qc := fun r hE => r = some (.inl v) ∧ okM hE) C d_law_555 rfl rfl hW2 hS1 ⟨hl.1, hl.2.1⟩ ⟨rfl, rfl, rfl, rfl, ⟨q1, hq2, rfl⟩, rfl, trivial⟩ (kM _ (fun h ok => ⟨rfl, ok⟩)) (fun r hE2 ok => ⟨by have := ok.2.1; have := ok1.1; show cells + (hE.length - 96) + (hE2.length - 26) ≤ 600000; omega, by have := ok.2.2; have := ok1.2.1; show slots + mslots (hE.drop 96) + mslots (hE2.drop 26) ≤ 7302250; omega⟩) fun r hE2 H2 locs2 ads2 st2 hQ2 ha2 hW3 hS2 hst2 => ?_
  obtain ⟨rfl, ok2⟩ := hQ2
  obtain ⟨r2, rfl, hr2⟩ := vrs_i (st := [.inl v]) hst2
  obtain ⟨r3, rfl, hr3⟩ := vrs_i (st := []) hr2
  have hr3e : r3 = [] := by
    match r3, hr3 with
    | [], _ => rfl
    | _ :: _, hr3 => exact hr3.elim
  subst hr3e
  refine lv_icmp_eq (tgt := 829) hx hb d_law_558 (by decide) (fun _ => ?_) (fun hne => absurd rfl hne)
  exact l_end C hL hS2 hl (by have := ok1.1; have := ok2.1; show cells + (hE.length - 96) + (hE2.length - 26) ≤ 600000; omega) (by have := ok1.2.1; have := ok2.2; show slots + mslots (hE.drop 96) + mslots (hE2.drop 26) ≤ 7302250; omega)
set_option maxRecDepth 100000 in
set_option maxHeartbeats 40000000 in
/-- equation -/
theorem l_c11 {q0 q1 : Nat} (C : lw_At p s m meth c b L xs) (hL : L = 6) (hW : Wd D (lA s) s H ads hJ) (hS : va_S (lA s) s.heap H locs) (hq0 : ads[0]? = some q0) (hq1 : ads[70]? = some q1) (hl : lv_has ls 4 [(3, .int 0), (2, .ref q1), (1, .ref q0), (0, .ref b)]) (hc : cells ≤ 100) (hs : slots ≤ 20000) : LG p l e s m below meth c b H locs cells slots 563 ls [] := by
  have hx := C.1
  have hb := C.2.1
  obtain ⟨v, kD, kM⟩ := pr_equation (xs 1) (xs 2)
  refine lv_aload_n hx hb d_law_563 rfl (lv_at hl 2 rfl) ?_
  refine l_arg (v := 1) (k := 1) C hL hS (lv_at hl 3 rfl) (lv_at hl 0 rfl) d_law_564 d_law_565 d_law_566 d_law_567 d_law_568 (by decide) (by decide) (by decide) (by decide) ?_
  refine l_arg (v := 2) (k := 2) C hL hS (lv_at hl 3 rfl) (lv_at hl 0 rfl) d_law_569 d_law_570 d_law_571 d_law_572 d_law_573 (by decide) (by decide) (by decide) (by decide) ?_
  refine l_call (st := [.inl (xs 2), .inl (xs 1), .inr (some 0)]) (as := [.inr (some 0), .inl (xs 1), .inl (xs 2)]) (rest := []) (Qc := fun r hE => r = some (.inl v) ∧ okD hE) C d_law_574 rfl rfl hW hS ⟨hl.1, hl.2.1⟩ ⟨rfl, rfl, ⟨q0, hq0, rfl⟩, trivial⟩ (kD _ (fun h ok => ⟨rfl, ok⟩)) (fun r hE ok => ⟨by have := ok.2.1; show cells + (hE.length - 96) ≤ 600000; omega, by have := ok.2.2.1; show slots + mslots (hE.drop 96) ≤ 7302250; omega⟩) fun r hE H1 locs1 ads1 st1 hQ ha hW1 hS1 hst1 => ?_
  obtain ⟨rfl, ok1⟩ := hQ
  obtain ⟨r1, rfl, hr1⟩ := vrs_i (st := []) hst1
  have hr1e : r1 = [] := by
    match r1, hr1 with
    | [], _ => rfl
    | _ :: _, hr1 => exact hr1.elim
  subst hr1e
  obtain ⟨la, rfl⟩ := ha
  have hW2 := Wd_pick (k := 70) (g := hM) hW1 (ok1.2.2.trans hS_is) hM_cl
  have hq2 : (((ads ++ la).drop 70).take hM.length)[0]? = some q1 := by
    rw [List.getElem?_take_of_lt (by decide), List.getElem?_drop, List.getElem?_append_left (List.getElem?_eq_some_iff.mp hq1).1]
    exact hq1
  refine lv_aload_n hx hb d_law_577 rfl (lv_at hl 1 rfl) ?_
  refine l_arg (v := 1) (k := 1) C hL hS1 (lv_at hl 3 rfl) (lv_at hl 0 rfl) d_law_578 d_law_579 d_law_580 d_law_581 d_law_582 (by decide) (by decide) (by decide) (by decide) ?_
  refine l_arg (v := 2) (k := 2) C hL hS1 (lv_at hl 3 rfl) (lv_at hl 0 rfl) d_law_583 d_law_584 d_law_585 d_law_586 d_law_587 (by decide) (by decide) (by decide) (by decide) ?_
  refine l_call (st := [.inl (xs 2), .inl (xs 1), .inr (some 0), .inl v]) (as := [.inr (some 0), .inl (xs 1), .inl (xs 2)]) (rest := [.inl v]) (Qc := fun r hE => r = some (.inl v) ∧ okM hE) C d_law_588 rfl rfl hW2 hS1 ⟨hl.1, hl.2.1⟩ ⟨rfl, rfl, ⟨q1, hq2, rfl⟩, rfl, trivial⟩ (kM _ (fun h ok => ⟨rfl, ok⟩)) (fun r hE2 ok => ⟨by have := ok.2.1; have := ok1.1; show cells + (hE.length - 96) + (hE2.length - 26) ≤ 600000; omega, by have := ok.2.2; have := ok1.2.1; show slots + mslots (hE.drop 96) + mslots (hE2.drop 26) ≤ 7302250; omega⟩) fun r hE2 H2 locs2 ads2 st2 hQ2 ha2 hW3 hS2 hst2 => ?_
  obtain ⟨rfl, ok2⟩ := hQ2
  obtain ⟨r2, rfl, hr2⟩ := vrs_i (st := [.inl v]) hst2
  obtain ⟨r3, rfl, hr3⟩ := vrs_i (st := []) hr2
  have hr3e : r3 = [] := by
    match r3, hr3 with
    | [], _ => rfl
    | _ :: _, hr3 => exact hr3.elim
  subst hr3e
  refine lv_icmp_eq (tgt := 829) hx hb d_law_591 (by decide) (fun _ => ?_) (fun hne => absurd rfl hne)
  exact l_end C hL hS2 hl (by have := ok1.1; have := ok2.1; show cells + (hE.length - 96) + (hE2.length - 26) ≤ 600000; omega) (by have := ok1.2.1; have := ok2.2; show slots + mslots (hE.drop 96) + mslots (hE2.drop 26) ≤ 7302250; omega)
set_option maxRecDepth 100000 in
set_option maxHeartbeats 40000000 in
/-- complete -/
theorem l_c12 {q0 q1 : Nat} (C : lw_At p s m meth c b L xs) (hL : L = 6) (hW : Wd D (lA s) s H ads hJ) (hS : va_S (lA s) s.heap H locs) (hq0 : ads[0]? = some q0) (hq1 : ads[70]? = some q1) (hl : lv_has ls 4 [(3, .int 0), (2, .ref q1), (1, .ref q0), (0, .ref b)]) (hc : cells ≤ 100) (hs : slots ≤ 20000) : LG p l e s m below meth c b H locs cells slots 596 ls [] := by
  have hx := C.1
  have hb := C.2.1
  obtain ⟨v, kD, kM⟩ := pr_complete (xs 1)
  refine lv_aload_n hx hb d_law_596 rfl (lv_at hl 2 rfl) ?_
  refine l_arg (v := 1) (k := 1) C hL hS (lv_at hl 3 rfl) (lv_at hl 0 rfl) d_law_597 d_law_598 d_law_599 d_law_600 d_law_601 (by decide) (by decide) (by decide) (by decide) ?_
  refine l_call (st := [.inl (xs 1), .inr (some 0)]) (as := [.inr (some 0), .inl (xs 1)]) (rest := []) (Qc := fun r hE => r = some (.inl v) ∧ okD hE) C d_law_602 rfl rfl hW hS ⟨hl.1, hl.2.1⟩ ⟨rfl, ⟨q0, hq0, rfl⟩, trivial⟩ (kD _ (fun h ok => ⟨rfl, ok⟩)) (fun r hE ok => ⟨by have := ok.2.1; show cells + (hE.length - 96) ≤ 600000; omega, by have := ok.2.2.1; show slots + mslots (hE.drop 96) ≤ 7302250; omega⟩) fun r hE H1 locs1 ads1 st1 hQ ha hW1 hS1 hst1 => ?_
  obtain ⟨rfl, ok1⟩ := hQ
  obtain ⟨r1, rfl, hr1⟩ := vrs_i (st := []) hst1
  have hr1e : r1 = [] := by
    match r1, hr1 with
    | [], _ => rfl
    | _ :: _, hr1 => exact hr1.elim
  subst hr1e
  obtain ⟨la, rfl⟩ := ha
  have hW2 := Wd_pick (k := 70) (g := hM) hW1 (ok1.2.2.trans hS_is) hM_cl
  have hq2 : (((ads ++ la).drop 70).take hM.length)[0]? = some q1 := by
    rw [List.getElem?_take_of_lt (by decide), List.getElem?_drop, List.getElem?_append_left (List.getElem?_eq_some_iff.mp hq1).1]
    exact hq1
  refine lv_aload_n hx hb d_law_605 rfl (lv_at hl 1 rfl) ?_
  refine l_arg (v := 1) (k := 1) C hL hS1 (lv_at hl 3 rfl) (lv_at hl 0 rfl) d_law_606 d_law_607 d_law_608 d_law_609 d_law_610 (by decide) (by decide) (by decide) (by decide) ?_
  refine l_call (st := [.inl (xs 1), .inr (some 0), .inl v]) (as := [.inr (some 0), .inl (xs 1)]) (rest := [.inl v]) (Qc := fun r hE => r = some (.inl v) ∧ okM hE) C d_law_611 rfl rfl hW2 hS1 ⟨hl.1, hl.2.1⟩ ⟨rfl, ⟨q1, hq2, rfl⟩, rfl, trivial⟩ (kM _ (fun h ok => ⟨rfl, ok⟩)) (fun r hE2 ok => ⟨by have := ok.2.1; have := ok1.1; show cells + (hE.length - 96) + (hE2.length - 26) ≤ 600000; omega, by have := ok.2.2; have := ok1.2.1; show slots + mslots (hE.drop 96) + mslots (hE2.drop 26) ≤ 7302250; omega⟩) fun r hE2 H2 locs2 ads2 st2 hQ2 ha2 hW3 hS2 hst2 => ?_
  obtain ⟨rfl, ok2⟩ := hQ2
  obtain ⟨r2, rfl, hr2⟩ := vrs_i (st := [.inl v]) hst2
  obtain ⟨r3, rfl, hr3⟩ := vrs_i (st := []) hr2
  have hr3e : r3 = [] := by
    match r3, hr3 with
    | [], _ => rfl
    | _ :: _, hr3 => exact hr3.elim
  subst hr3e
  refine lv_icmp_eq (tgt := 829) hx hb d_law_614 (by decide) (fun _ => ?_) (fun hne => absurd rfl hne)
  exact l_end C hL hS2 hl (by have := ok1.1; have := ok2.1; show cells + (hE.length - 96) + (hE2.length - 26) ≤ 600000; omega) (by have := ok1.2.1; have := ok2.2; show slots + mslots (hE.drop 96) + mslots (hE2.drop 26) ≤ 7302250; omega)
set_option maxRecDepth 100000 in
set_option maxHeartbeats 40000000 in
/-- rules -/
theorem l_c13 {q0 q1 : Nat} (C : lw_At p s m meth c b L xs) (hL : L = 6) (hW : Wd D (lA s) s H ads hJ) (hS : va_S (lA s) s.heap H locs) (hq0 : ads[0]? = some q0) (hq1 : ads[70]? = some q1) (hl : lv_has ls 4 [(3, .int 0), (2, .ref q1), (1, .ref q0), (0, .ref b)]) (hc : cells ≤ 100) (hs : slots ≤ 20000) : LG p l e s m below meth c b H locs cells slots 619 ls [] := by
  have hx := C.1
  have hb := C.2.1
  obtain ⟨v, kD, kM⟩ := pr_rules 
  refine lv_aload_n hx hb d_law_619 rfl (lv_at hl 2 rfl) ?_
  refine l_call (st := [.inr (some 0)]) (as := [.inr (some 0)]) (rest := []) (Qc := fun r hE => r = some (.inl v) ∧ okD hE) C d_law_620 rfl rfl hW hS ⟨hl.1, hl.2.1⟩ ⟨⟨q0, hq0, rfl⟩, trivial⟩ (kD _ (fun h ok => ⟨rfl, ok⟩)) (fun r hE ok => ⟨by have := ok.2.1; show cells + (hE.length - 96) ≤ 600000; omega, by have := ok.2.2.1; show slots + mslots (hE.drop 96) ≤ 7302250; omega⟩) fun r hE H1 locs1 ads1 st1 hQ ha hW1 hS1 hst1 => ?_
  obtain ⟨rfl, ok1⟩ := hQ
  obtain ⟨r1, rfl, hr1⟩ := vrs_i (st := []) hst1
  have hr1e : r1 = [] := by
    match r1, hr1 with
    | [], _ => rfl
    | _ :: _, hr1 => exact hr1.elim
  subst hr1e
  obtain ⟨la, rfl⟩ := ha
  have hW2 := Wd_pick (k := 70) (g := hM) hW1 (ok1.2.2.trans hS_is) hM_cl
  have hq2 : (((ads ++ la).drop 70).take hM.length)[0]? = some q1 := by
    rw [List.getElem?_take_of_lt (by decide), List.getElem?_drop, List.getElem?_append_left (List.getElem?_eq_some_iff.mp hq1).1]
    exact hq1
  refine lv_aload_n hx hb d_law_623 rfl (lv_at hl 1 rfl) ?_
  refine l_call (st := [.inr (some 0), .inl v]) (as := [.inr (some 0)]) (rest := [.inl v]) (Qc := fun r hE => r = some (.inl v) ∧ okM hE) C d_law_624 rfl rfl hW2 hS1 ⟨hl.1, hl.2.1⟩ ⟨⟨q1, hq2, rfl⟩, rfl, trivial⟩ (kM _ (fun h ok => ⟨rfl, ok⟩)) (fun r hE2 ok => ⟨by have := ok.2.1; have := ok1.1; show cells + (hE.length - 96) + (hE2.length - 26) ≤ 600000; omega, by have := ok.2.2; have := ok1.2.1; show slots + mslots (hE.drop 96) + mslots (hE2.drop 26) ≤ 7302250; omega⟩) fun r hE2 H2 locs2 ads2 st2 hQ2 ha2 hW3 hS2 hst2 => ?_
  obtain ⟨rfl, ok2⟩ := hQ2
  obtain ⟨r2, rfl, hr2⟩ := vrs_i (st := [.inl v]) hst2
  obtain ⟨r3, rfl, hr3⟩ := vrs_i (st := []) hr2
  have hr3e : r3 = [] := by
    match r3, hr3 with
    | [], _ => rfl
    | _ :: _, hr3 => exact hr3.elim
  subst hr3e
  refine lv_icmp_eq (tgt := 829) hx hb d_law_627 (by decide) (fun _ => ?_) (fun hne => absurd rfl hne)
  exact l_end C hL hS2 hl (by have := ok1.1; have := ok2.1; show cells + (hE.length - 96) + (hE2.length - 26) ≤ 600000; omega) (by have := ok1.2.1; have := ok2.2; show slots + mslots (hE.drop 96) + mslots (hE2.drop 26) ≤ 7302250; omega)
set_option maxRecDepth 100000 in
set_option maxHeartbeats 40000000 in
/-- rule -/
theorem l_c14 {q0 q1 : Nat} (C : lw_At p s m meth c b L xs) (hL : L = 6) (hW : Wd D (lA s) s H ads hJ) (hS : va_S (lA s) s.heap H locs) (hq0 : ads[0]? = some q0) (hq1 : ads[70]? = some q1) (hl : lv_has ls 4 [(3, .int 0), (2, .ref q1), (1, .ref q0), (0, .ref b)]) (hc : cells ≤ 100) (hs : slots ≤ 20000) : LG p l e s m below meth c b H locs cells slots 632 ls [] := by
  have hx := C.1
  have hb := C.2.1
  obtain ⟨v, kD, kM⟩ := pr_rule (xs 1) (bz (xs 2)) (xs 3)
  refine lv_aload_n hx hb d_law_632 rfl (lv_at hl 2 rfl) ?_
  refine l_arg (v := 1) (k := 1) C hL hS (lv_at hl 3 rfl) (lv_at hl 0 rfl) d_law_633 d_law_634 d_law_635 d_law_636 d_law_637 (by decide) (by decide) (by decide) (by decide) ?_
  refine l_arg (v := 2) (k := 2) C hL hS (lv_at hl 3 rfl) (lv_at hl 0 rfl) d_law_638 d_law_639 d_law_640 d_law_641 d_law_642 (by decide) (by decide) (by decide) (by decide) ?_
  refine l_bool (t := 651) C d_law_643 d_law_646 d_law_647 d_law_650 (by decide) ?_
  refine l_arg (v := 3) (k := 3) C hL hS (lv_at hl 3 rfl) (lv_at hl 0 rfl) d_law_651 d_law_652 d_law_653 d_law_654 d_law_655 (by decide) (by decide) (by decide) (by decide) ?_
  refine l_call (st := [.inl (xs 3), .inl (bz (xs 2)), .inl (xs 1), .inr (some 0)]) (as := [.inr (some 0), .inl (xs 1), .inl (bz (xs 2)), .inl (xs 3)]) (rest := []) (Qc := fun r hE => r = some (.inl v) ∧ okD hE) C d_law_656 rfl rfl hW hS ⟨hl.1, hl.2.1⟩ ⟨rfl, rfl, rfl, ⟨q0, hq0, rfl⟩, trivial⟩ (kD _ (fun h ok => ⟨rfl, ok⟩)) (fun r hE ok => ⟨by have := ok.2.1; show cells + (hE.length - 96) ≤ 600000; omega, by have := ok.2.2.1; show slots + mslots (hE.drop 96) ≤ 7302250; omega⟩) fun r hE H1 locs1 ads1 st1 hQ ha hW1 hS1 hst1 => ?_
  obtain ⟨rfl, ok1⟩ := hQ
  obtain ⟨r1, rfl, hr1⟩ := vrs_i (st := []) hst1
  have hr1e : r1 = [] := by
    match r1, hr1 with
    | [], _ => rfl
    | _ :: _, hr1 => exact hr1.elim
  subst hr1e
  obtain ⟨la, rfl⟩ := ha
  have hW2 := Wd_pick (k := 70) (g := hM) hW1 (ok1.2.2.trans hS_is) hM_cl
  have hq2 : (((ads ++ la).drop 70).take hM.length)[0]? = some q1 := by
    rw [List.getElem?_take_of_lt (by decide), List.getElem?_drop, List.getElem?_append_left (List.getElem?_eq_some_iff.mp hq1).1]
    exact hq1
  refine lv_aload_n hx hb d_law_659 rfl (lv_at hl 1 rfl) ?_
  refine l_arg (v := 1) (k := 1) C hL hS1 (lv_at hl 3 rfl) (lv_at hl 0 rfl) d_law_660 d_law_661 d_law_662 d_law_663 d_law_664 (by decide) (by decide) (by decide) (by decide) ?_
  refine l_arg (v := 2) (k := 2) C hL hS1 (lv_at hl 3 rfl) (lv_at hl 0 rfl) d_law_665 d_law_666 d_law_667 d_law_668 d_law_669 (by decide) (by decide) (by decide) (by decide) ?_
  refine l_bool (t := 678) C d_law_670 d_law_673 d_law_674 d_law_677 (by decide) ?_
  refine l_arg (v := 3) (k := 3) C hL hS1 (lv_at hl 3 rfl) (lv_at hl 0 rfl) d_law_678 d_law_679 d_law_680 d_law_681 d_law_682 (by decide) (by decide) (by decide) (by decide) ?_
  refine l_call (st := [.inl (xs 3), .inl (bz (xs 2)), .inl (xs 1), .inr (some 0), .inl v]) (as := [.inr (some 0), .inl (xs 1), .inl (bz (xs 2)), .inl (xs 3)]) (rest := [.inl v]) (Qc := fun r hE => r = some (.inl v) ∧ okM hE) C d_law_683 rfl rfl hW2 hS1 ⟨hl.1, hl.2.1⟩ ⟨rfl, rfl, rfl, ⟨q1, hq2, rfl⟩, rfl, trivial⟩ (kM _ (fun h ok => ⟨rfl, ok⟩)) (fun r hE2 ok => ⟨by have := ok.2.1; have := ok1.1; show cells + (hE.length - 96) + (hE2.length - 26) ≤ 600000; omega, by have := ok.2.2; have := ok1.2.1; show slots + mslots (hE.drop 96) + mslots (hE2.drop 26) ≤ 7302250; omega⟩) fun r hE2 H2 locs2 ads2 st2 hQ2 ha2 hW3 hS2 hst2 => ?_
  obtain ⟨rfl, ok2⟩ := hQ2
  obtain ⟨r2, rfl, hr2⟩ := vrs_i (st := [.inl v]) hst2
  obtain ⟨r3, rfl, hr3⟩ := vrs_i (st := []) hr2
  have hr3e : r3 = [] := by
    match r3, hr3 with
    | [], _ => rfl
    | _ :: _, hr3 => exact hr3.elim
  subst hr3e
  refine lv_icmp_eq (tgt := 829) hx hb d_law_686 (by decide) (fun _ => ?_) (fun hne => absurd rfl hne)
  exact l_end C hL hS2 hl (by have := ok1.1; have := ok2.1; show cells + (hE.length - 96) + (hE2.length - 26) ≤ 600000; omega) (by have := ok1.2.1; have := ok2.2; show slots + mslots (hE.drop 96) + mslots (hE2.drop 26) ≤ 7302250; omega)
set_option maxRecDepth 100000 in
set_option maxHeartbeats 40000000 in
/-- waiting -/
theorem l_c15 {q0 q1 : Nat} (C : lw_At p s m meth c b L xs) (hL : L = 6) (hW : Wd D (lA s) s H ads hJ) (hS : va_S (lA s) s.heap H locs) (hq0 : ads[0]? = some q0) (hq1 : ads[70]? = some q1) (hl : lv_has ls 4 [(3, .int 0), (2, .ref q1), (1, .ref q0), (0, .ref b)]) (hc : cells ≤ 100) (hs : slots ≤ 20000) : LG p l e s m below meth c b H locs cells slots 691 ls [] := by
  have hx := C.1
  have hb := C.2.1
  obtain ⟨v, kD, kM⟩ := pr_waiting 
  refine lv_aload_n hx hb d_law_691 rfl (lv_at hl 2 rfl) ?_
  refine l_call (st := [.inr (some 0)]) (as := [.inr (some 0)]) (rest := []) (Qc := fun r hE => r = some (.inl v) ∧ okD hE) C d_law_692 rfl rfl hW hS ⟨hl.1, hl.2.1⟩ ⟨⟨q0, hq0, rfl⟩, trivial⟩ (kD _ (fun h ok => ⟨rfl, ok⟩)) (fun r hE ok => ⟨by have := ok.2.1; show cells + (hE.length - 96) ≤ 600000; omega, by have := ok.2.2.1; show slots + mslots (hE.drop 96) ≤ 7302250; omega⟩) fun r hE H1 locs1 ads1 st1 hQ ha hW1 hS1 hst1 => ?_
  obtain ⟨rfl, ok1⟩ := hQ
  obtain ⟨r1, rfl, hr1⟩ := vrs_i (st := []) hst1
  have hr1e : r1 = [] := by
    match r1, hr1 with
    | [], _ => rfl
    | _ :: _, hr1 => exact hr1.elim
  subst hr1e
  obtain ⟨la, rfl⟩ := ha
  have hW2 := Wd_pick (k := 70) (g := hM) hW1 (ok1.2.2.trans hS_is) hM_cl
  have hq2 : (((ads ++ la).drop 70).take hM.length)[0]? = some q1 := by
    rw [List.getElem?_take_of_lt (by decide), List.getElem?_drop, List.getElem?_append_left (List.getElem?_eq_some_iff.mp hq1).1]
    exact hq1
  refine lv_aload_n hx hb d_law_695 rfl (lv_at hl 1 rfl) ?_
  refine l_call (st := [.inr (some 0), .inl v]) (as := [.inr (some 0)]) (rest := [.inl v]) (Qc := fun r hE => r = some (.inl v) ∧ okM hE) C d_law_696 rfl rfl hW2 hS1 ⟨hl.1, hl.2.1⟩ ⟨⟨q1, hq2, rfl⟩, rfl, trivial⟩ (kM _ (fun h ok => ⟨rfl, ok⟩)) (fun r hE2 ok => ⟨by have := ok.2.1; have := ok1.1; show cells + (hE.length - 96) + (hE2.length - 26) ≤ 600000; omega, by have := ok.2.2; have := ok1.2.1; show slots + mslots (hE.drop 96) + mslots (hE2.drop 26) ≤ 7302250; omega⟩) fun r hE2 H2 locs2 ads2 st2 hQ2 ha2 hW3 hS2 hst2 => ?_
  obtain ⟨rfl, ok2⟩ := hQ2
  obtain ⟨r2, rfl, hr2⟩ := vrs_i (st := [.inl v]) hst2
  obtain ⟨r3, rfl, hr3⟩ := vrs_i (st := []) hr2
  have hr3e : r3 = [] := by
    match r3, hr3 with
    | [], _ => rfl
    | _ :: _, hr3 => exact hr3.elim
  subst hr3e
  refine lv_icmp_eq (tgt := 829) hx hb d_law_699 (by decide) (fun _ => ?_) (fun hne => absurd rfl hne)
  exact l_end C hL hS2 hl (by have := ok1.1; have := ok2.1; show cells + (hE.length - 96) + (hE2.length - 26) ≤ 600000; omega) (by have := ok1.2.1; have := ok2.2; show slots + mslots (hE.drop 96) + mslots (hE2.drop 26) ≤ 7302250; omega)
set_option maxRecDepth 100000 in
set_option maxHeartbeats 40000000 in
/-- pair -/
theorem l_c16 {q0 q1 : Nat} (C : lw_At p s m meth c b L xs) (hL : L = 6) (hW : Wd D (lA s) s H ads hJ) (hS : va_S (lA s) s.heap H locs) (hq0 : ads[0]? = some q0) (hq1 : ads[70]? = some q1) (hl : lv_has ls 4 [(3, .int 0), (2, .ref q1), (1, .ref q0), (0, .ref b)]) (hc : cells ≤ 100) (hs : slots ≤ 20000) : LG p l e s m below meth c b H locs cells slots 704 ls [] := by
  have hx := C.1
  have hb := C.2.1
  obtain ⟨v, kD, kM⟩ := pr_pair (xs 1) (bz (xs 2)) (xs 3)
  refine lv_aload_n hx hb d_law_704 rfl (lv_at hl 2 rfl) ?_
  refine l_arg (v := 1) (k := 1) C hL hS (lv_at hl 3 rfl) (lv_at hl 0 rfl) d_law_705 d_law_706 d_law_707 d_law_708 d_law_709 (by decide) (by decide) (by decide) (by decide) ?_
  refine l_arg (v := 2) (k := 2) C hL hS (lv_at hl 3 rfl) (lv_at hl 0 rfl) d_law_710 d_law_711 d_law_712 d_law_713 d_law_714 (by decide) (by decide) (by decide) (by decide) ?_
  refine l_bool (t := 723) C d_law_715 d_law_718 d_law_719 d_law_722 (by decide) ?_
  refine l_arg (v := 3) (k := 3) C hL hS (lv_at hl 3 rfl) (lv_at hl 0 rfl) d_law_723 d_law_724 d_law_725 d_law_726 d_law_727 (by decide) (by decide) (by decide) (by decide) ?_
  refine l_call (st := [.inl (xs 3), .inl (bz (xs 2)), .inl (xs 1), .inr (some 0)]) (as := [.inr (some 0), .inl (xs 1), .inl (bz (xs 2)), .inl (xs 3)]) (rest := []) (Qc := fun r hE => r = some (.inl v) ∧ okD hE) C d_law_728 rfl rfl hW hS ⟨hl.1, hl.2.1⟩ ⟨rfl, rfl, rfl, ⟨q0, hq0, rfl⟩, trivial⟩ (kD _ (fun h ok => ⟨rfl, ok⟩)) (fun r hE ok => ⟨by have := ok.2.1; show cells + (hE.length - 96) ≤ 600000; omega, by have := ok.2.2.1; show slots + mslots (hE.drop 96) ≤ 7302250; omega⟩) fun r hE H1 locs1 ads1 st1 hQ ha hW1 hS1 hst1 => ?_
  obtain ⟨rfl, ok1⟩ := hQ
  obtain ⟨r1, rfl, hr1⟩ := vrs_i (st := []) hst1
  have hr1e : r1 = [] := by
    match r1, hr1 with
    | [], _ => rfl
    | _ :: _, hr1 => exact hr1.elim
  subst hr1e
  obtain ⟨la, rfl⟩ := ha
  have hW2 := Wd_pick (k := 70) (g := hM) hW1 (ok1.2.2.trans hS_is) hM_cl
  have hq2 : (((ads ++ la).drop 70).take hM.length)[0]? = some q1 := by
    rw [List.getElem?_take_of_lt (by decide), List.getElem?_drop, List.getElem?_append_left (List.getElem?_eq_some_iff.mp hq1).1]
    exact hq1
  refine lv_aload_n hx hb d_law_731 rfl (lv_at hl 1 rfl) ?_
  refine l_arg (v := 1) (k := 1) C hL hS1 (lv_at hl 3 rfl) (lv_at hl 0 rfl) d_law_732 d_law_733 d_law_734 d_law_735 d_law_736 (by decide) (by decide) (by decide) (by decide) ?_
  refine l_arg (v := 2) (k := 2) C hL hS1 (lv_at hl 3 rfl) (lv_at hl 0 rfl) d_law_737 d_law_738 d_law_739 d_law_740 d_law_741 (by decide) (by decide) (by decide) (by decide) ?_
  refine l_bool (t := 750) C d_law_742 d_law_745 d_law_746 d_law_749 (by decide) ?_
  refine l_arg (v := 3) (k := 3) C hL hS1 (lv_at hl 3 rfl) (lv_at hl 0 rfl) d_law_750 d_law_751 d_law_752 d_law_753 d_law_754 (by decide) (by decide) (by decide) (by decide) ?_
  refine l_call (st := [.inl (xs 3), .inl (bz (xs 2)), .inl (xs 1), .inr (some 0), .inl v]) (as := [.inr (some 0), .inl (xs 1), .inl (bz (xs 2)), .inl (xs 3)]) (rest := [.inl v]) (Qc := fun r hE => r = some (.inl v) ∧ okM hE) C d_law_755 rfl rfl hW2 hS1 ⟨hl.1, hl.2.1⟩ ⟨rfl, rfl, rfl, ⟨q1, hq2, rfl⟩, rfl, trivial⟩ (kM _ (fun h ok => ⟨rfl, ok⟩)) (fun r hE2 ok => ⟨by have := ok.2.1; have := ok1.1; show cells + (hE.length - 96) + (hE2.length - 26) ≤ 600000; omega, by have := ok.2.2; have := ok1.2.1; show slots + mslots (hE.drop 96) + mslots (hE2.drop 26) ≤ 7302250; omega⟩) fun r hE2 H2 locs2 ads2 st2 hQ2 ha2 hW3 hS2 hst2 => ?_
  obtain ⟨rfl, ok2⟩ := hQ2
  obtain ⟨r2, rfl, hr2⟩ := vrs_i (st := [.inl v]) hst2
  obtain ⟨r3, rfl, hr3⟩ := vrs_i (st := []) hr2
  have hr3e : r3 = [] := by
    match r3, hr3 with
    | [], _ => rfl
    | _ :: _, hr3 => exact hr3.elim
  subst hr3e
  refine lv_icmp_eq (tgt := 829) hx hb d_law_758 (by decide) (fun _ => ?_) (fun hne => absurd rfl hne)
  exact l_end C hL hS2 hl (by have := ok1.1; have := ok2.1; show cells + (hE.length - 96) + (hE2.length - 26) ≤ 600000; omega) (by have := ok1.2.1; have := ok2.2; show slots + mslots (hE.drop 96) + mslots (hE2.drop 26) ≤ 7302250; omega)
set_option maxRecDepth 100000 in
set_option maxHeartbeats 40000000 in
/-- reduce -/
theorem l_c17 {q0 q1 : Nat} (C : lw_At p s m meth c b L xs) (hL : L = 6) (hW : Wd D (lA s) s H ads hJ) (hS : va_S (lA s) s.heap H locs) (hq0 : ads[0]? = some q0) (hq1 : ads[70]? = some q1) (hl : lv_has ls 4 [(3, .int 0), (2, .ref q1), (1, .ref q0), (0, .ref b)]) (hc : cells ≤ 100) (hs : slots ≤ 20000) : LG p l e s m below meth c b H locs cells slots 763 ls [] := by
  have hx := C.1
  have hb := C.2.1
  obtain ⟨v, kD, kM⟩ := pr_reduce (xs 1) (xs 2)
  refine lv_aload_n hx hb d_law_763 rfl (lv_at hl 2 rfl) ?_
  refine l_arg (v := 1) (k := 1) C hL hS (lv_at hl 3 rfl) (lv_at hl 0 rfl) d_law_764 d_law_765 d_law_766 d_law_767 d_law_768 (by decide) (by decide) (by decide) (by decide) ?_
  refine l_arg (v := 2) (k := 2) C hL hS (lv_at hl 3 rfl) (lv_at hl 0 rfl) d_law_769 d_law_770 d_law_771 d_law_772 d_law_773 (by decide) (by decide) (by decide) (by decide) ?_
  refine l_call (st := [.inl (xs 2), .inl (xs 1), .inr (some 0)]) (as := [.inr (some 0), .inl (xs 1), .inl (xs 2)]) (rest := []) (Qc := fun r hE => r = some (.inl v) ∧ okD hE) C d_law_774 rfl rfl hW hS ⟨hl.1, hl.2.1⟩ ⟨rfl, rfl, ⟨q0, hq0, rfl⟩, trivial⟩ (kD _ (fun h ok => ⟨rfl, ok⟩)) (fun r hE ok => ⟨by have := ok.2.1; show cells + (hE.length - 96) ≤ 600000; omega, by have := ok.2.2.1; show slots + mslots (hE.drop 96) ≤ 7302250; omega⟩) fun r hE H1 locs1 ads1 st1 hQ ha hW1 hS1 hst1 => ?_
  obtain ⟨rfl, ok1⟩ := hQ
  obtain ⟨r1, rfl, hr1⟩ := vrs_i (st := []) hst1
  have hr1e : r1 = [] := by
    match r1, hr1 with
    | [], _ => rfl
    | _ :: _, hr1 => exact hr1.elim
  subst hr1e
  obtain ⟨la, rfl⟩ := ha
  have hW2 := Wd_pick (k := 70) (g := hM) hW1 (ok1.2.2.trans hS_is) hM_cl
  have hq2 : (((ads ++ la).drop 70).take hM.length)[0]? = some q1 := by
    rw [List.getElem?_take_of_lt (by decide), List.getElem?_drop, List.getElem?_append_left (List.getElem?_eq_some_iff.mp hq1).1]
    exact hq1
  refine lv_aload_n hx hb d_law_777 rfl (lv_at hl 1 rfl) ?_
  refine l_arg (v := 1) (k := 1) C hL hS1 (lv_at hl 3 rfl) (lv_at hl 0 rfl) d_law_778 d_law_779 d_law_780 d_law_781 d_law_782 (by decide) (by decide) (by decide) (by decide) ?_
  refine l_arg (v := 2) (k := 2) C hL hS1 (lv_at hl 3 rfl) (lv_at hl 0 rfl) d_law_783 d_law_784 d_law_785 d_law_786 d_law_787 (by decide) (by decide) (by decide) (by decide) ?_
  refine l_call (st := [.inl (xs 2), .inl (xs 1), .inr (some 0), .inl v]) (as := [.inr (some 0), .inl (xs 1), .inl (xs 2)]) (rest := [.inl v]) (Qc := fun r hE => r = some (.inl v) ∧ okM hE) C d_law_788 rfl rfl hW2 hS1 ⟨hl.1, hl.2.1⟩ ⟨rfl, rfl, ⟨q1, hq2, rfl⟩, rfl, trivial⟩ (kM _ (fun h ok => ⟨rfl, ok⟩)) (fun r hE2 ok => ⟨by have := ok.2.1; have := ok1.1; show cells + (hE.length - 96) + (hE2.length - 26) ≤ 600000; omega, by have := ok.2.2; have := ok1.2.1; show slots + mslots (hE.drop 96) + mslots (hE2.drop 26) ≤ 7302250; omega⟩) fun r hE2 H2 locs2 ads2 st2 hQ2 ha2 hW3 hS2 hst2 => ?_
  obtain ⟨rfl, ok2⟩ := hQ2
  obtain ⟨r2, rfl, hr2⟩ := vrs_i (st := [.inl v]) hst2
  obtain ⟨r3, rfl, hr3⟩ := vrs_i (st := []) hr2
  have hr3e : r3 = [] := by
    match r3, hr3 with
    | [], _ => rfl
    | _ :: _, hr3 => exact hr3.elim
  subst hr3e
  refine lv_icmp_eq (tgt := 829) hx hb d_law_791 (by decide) (fun _ => ?_) (fun hne => absurd rfl hne)
  exact l_end C hL hS2 hl (by have := ok1.1; have := ok2.1; show cells + (hE.length - 96) + (hE2.length - 26) ≤ 600000; omega) (by have := ok1.2.1; have := ok2.2; show slots + mslots (hE.drop 96) + mslots (hE2.drop 26) ≤ 7302250; omega)
set_option maxRecDepth 100000 in
set_option maxHeartbeats 40000000 in
/-- prove -/
theorem l_c18 {q0 q1 : Nat} (C : lw_At p s m meth c b L xs) (hL : L = 6) (hW : Wd D (lA s) s H ads hJ) (hS : va_S (lA s) s.heap H locs) (hq0 : ads[0]? = some q0) (hq1 : ads[70]? = some q1) (hl : lv_has ls 4 [(3, .int 0), (2, .ref q1), (1, .ref q0), (0, .ref b)]) (hc : cells ≤ 100) (hs : slots ≤ 20000) : LG p l e s m below meth c b H locs cells slots 796 ls [] := by
  have hx := C.1
  have hb := C.2.1
  obtain ⟨v, kD, kM⟩ := pr_prove (xs 1) (xs 2)
  refine lv_aload_n hx hb d_law_796 rfl (lv_at hl 2 rfl) ?_
  refine l_arg (v := 1) (k := 1) C hL hS (lv_at hl 3 rfl) (lv_at hl 0 rfl) d_law_797 d_law_798 d_law_799 d_law_800 d_law_801 (by decide) (by decide) (by decide) (by decide) ?_
  refine l_arg (v := 2) (k := 2) C hL hS (lv_at hl 3 rfl) (lv_at hl 0 rfl) d_law_802 d_law_803 d_law_804 d_law_805 d_law_806 (by decide) (by decide) (by decide) (by decide) ?_
  refine l_call (st := [.inl (xs 2), .inl (xs 1), .inr (some 0)]) (as := [.inr (some 0), .inl (xs 1), .inl (xs 2)]) (rest := []) (Qc := fun r hE => r = some (.inl v) ∧ okD hE) C d_law_807 rfl rfl hW hS ⟨hl.1, hl.2.1⟩ ⟨rfl, rfl, ⟨q0, hq0, rfl⟩, trivial⟩ (kD _ (fun h ok => ⟨rfl, ok⟩)) (fun r hE ok => ⟨by have := ok.2.1; show cells + (hE.length - 96) ≤ 600000; omega, by have := ok.2.2.1; show slots + mslots (hE.drop 96) ≤ 7302250; omega⟩) fun r hE H1 locs1 ads1 st1 hQ ha hW1 hS1 hst1 => ?_
  obtain ⟨rfl, ok1⟩ := hQ
  obtain ⟨r1, rfl, hr1⟩ := vrs_i (st := []) hst1
  have hr1e : r1 = [] := by
    match r1, hr1 with
    | [], _ => rfl
    | _ :: _, hr1 => exact hr1.elim
  subst hr1e
  obtain ⟨la, rfl⟩ := ha
  have hW2 := Wd_pick (k := 70) (g := hM) hW1 (ok1.2.2.trans hS_is) hM_cl
  have hq2 : (((ads ++ la).drop 70).take hM.length)[0]? = some q1 := by
    rw [List.getElem?_take_of_lt (by decide), List.getElem?_drop, List.getElem?_append_left (List.getElem?_eq_some_iff.mp hq1).1]
    exact hq1
  refine lv_aload_n hx hb d_law_810 rfl (lv_at hl 1 rfl) ?_
  refine l_arg (v := 1) (k := 1) C hL hS1 (lv_at hl 3 rfl) (lv_at hl 0 rfl) d_law_811 d_law_812 d_law_813 d_law_814 d_law_815 (by decide) (by decide) (by decide) (by decide) ?_
  refine l_arg (v := 2) (k := 2) C hL hS1 (lv_at hl 3 rfl) (lv_at hl 0 rfl) d_law_816 d_law_817 d_law_818 d_law_819 d_law_820 (by decide) (by decide) (by decide) (by decide) ?_
  refine l_call (st := [.inl (xs 2), .inl (xs 1), .inr (some 0), .inl v]) (as := [.inr (some 0), .inl (xs 1), .inl (xs 2)]) (rest := [.inl v]) (Qc := fun r hE => r = some (.inl v) ∧ okM hE) C d_law_821 rfl rfl hW2 hS1 ⟨hl.1, hl.2.1⟩ ⟨rfl, rfl, ⟨q1, hq2, rfl⟩, rfl, trivial⟩ (kM _ (fun h ok => ⟨rfl, ok⟩)) (fun r hE2 ok => ⟨by have := ok.2.1; have := ok1.1; show cells + (hE.length - 96) + (hE2.length - 26) ≤ 600000; omega, by have := ok.2.2; have := ok1.2.1; show slots + mslots (hE.drop 96) + mslots (hE2.drop 26) ≤ 7302250; omega⟩) fun r hE2 H2 locs2 ads2 st2 hQ2 ha2 hW3 hS2 hst2 => ?_
  obtain ⟨rfl, ok2⟩ := hQ2
  obtain ⟨r2, rfl, hr2⟩ := vrs_i (st := [.inl v]) hst2
  obtain ⟨r3, rfl, hr3⟩ := vrs_i (st := []) hr2
  have hr3e : r3 = [] := by
    match r3, hr3 with
    | [], _ => rfl
    | _ :: _, hr3 => exact hr3.elim
  subst hr3e
  refine lv_icmp_eq (tgt := 829) hx hb d_law_824 (by decide) (fun _ => ?_) (fun hne => absurd rfl hne)
  exact l_end C hL hS2 hl (by have := ok1.1; have := ok2.1; show cells + (hE.length - 96) + (hE2.length - 26) ≤ 600000; omega) (by have := ok1.2.1; have := ok2.2; show slots + mslots (hE.drop 96) + mslots (hE2.drop 26) ≤ 7302250; omega)
end LW
