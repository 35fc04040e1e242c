/-! A WHOLE RUN OF THE SMALL MACHINE IS A RUN OF THE MACHINE: a contract for every run -/
def rmD (d mc ms : Nat) : Room := { frames := d, cells := mc, slots := ms, locals := 41 * d }
abbrev wsM (q : MM) : List Cond := Cond.code q.1 q.2.1 q.2.2.1 q.2.2.2.1 :: lw_g
def ro (ads : List Nat) (r : Option MV) (oc : Outcome) : Prop := match r with
  | none => oc = .returned none
  | some v => ∃ x, vr ads v x ∧ oc = .returned (some x)
/-- the facts of the state that go along: what the tables hold besides the words, and that all from here on may be written -/
def Xs (A : Nat → Prop) (s : State) : Prop := Xf s ∧ Xc s ∧ ∀ q, s.heap.size ≤ q → A q
def PcM (D : va_G) (A : Nat → Prop) (ads : List Nat) (h : List MC) (xs : List Value) : Array Value → State → Prop := va_Pc xs (fun U => Wd D A U U.heap ads h ∧ Xs A U)
def QcM (D : va_G) (A : Nat → Prop) (ads : List Nat) (hE : List MC) (r : Option MV) : Array Value → State → Outcome → State → Prop := fun _ st oc t => ∃ ads', (∃ l, ads' = ads ++ l) ∧ ro ads' r oc ∧ Wd D A t t.heap ads' hE ∧ va_F A st t
theorem PcM_blind {D : va_G} {A : Nat → Prop} {ads : List Nat} {h : List MC} {xs : List Value} : FrameBlind (PcM D A ads h xs) := by
  intro a U g mk q
  obtain ⟨q0, qW, q1, q2, q3⟩ := q
  exact ⟨q0, Wd_moved (u := U) (U := U.calling g mk a) (Vm.Alike.refl U.vm) qW, Xf_same (u := U) (U := U.calling g mk a) rfl q1, Xc_same (u := U) (U := U.calling g mk a) rfl q2, q3⟩
theorem PcM_at {D : va_G} {A : Nat → Prop} {ads : List Nat} {h : List MC} {xs : List Value} {s : State} {H : Heap} {locs : List Loc} (hW : Wd D A s H ads h) (hf : Xf s) (hc : Xc s) (hA : ∀ q, s.heap.size ≤ q → A q) (hS : va_S A s.heap H locs) : ∀ U : State, U.heap = H → s.WarmedH U.vm → PcM D A ads h xs xs.toArray U := by
  intro U hU hw
  exact ⟨rfl, by rw [hU]; exact Wd_moved hw.alike hW, Xf_warm hw hf, Xc_warm hw hc, fun q hq => hA q (by rw [hU] at hq; exact Nat.le_trans hS.1 hq)⟩
theorem lva_mem {ads : List Nat} : ∀ {vs : List MV} {xs : List Value} {i k : Nat} {v : MV}, vrs ads vs xs → vs[i]? = some v → ∃ x, vr ads v x ∧ (k + i, x) ∈ lv_args k xs
  | [], [], _, _, _, _, h => by simp at h
  | _ :: _, x :: xs, 0, k, _, hr, h => by simp at h; subst h; exact ⟨x, hr.1, by simp [lv_args]⟩
  | _ :: vs, x :: xs, i + 1, k, v, hr, h => by
    simp at h
    obtain ⟨y, h1, h2⟩ := lva_mem (k := k + 1) hr.2 h
    refine ⟨y, h1, ?_⟩
    have hc := vr_cat hr.1
    simp only [lv_args, hc, show ¬ (1 = 2) by decide, if_false]
    exact List.mem_cons_of_mem _ (by rw [show k + (i + 1) = k + 1 + i by omega]; exact h2)
  | [], _ :: _, _, _, _, h, _ => h.elim
  | _ :: _, [], _, _, _, h, _ => h.elim
theorem lgs_len {ads : List Nat} : ∀ {vs : List MV} {xs : List Value}, vrs ads vs xs → (lg_sl xs).length = vs.length
  | [], [], _ => rfl
  | _ :: vs, x :: xs, h => by
    have hc := vr_cat h.1
    have := lgs_len h.2
    simp only [lg_sl] at this
    simp only [lg_sl, List.flatMap_cons, hc, show ¬ (1 = 2) by decide, if_false, List.length_append, List.length_cons, List.length_nil, this]
    omega
  | [], _ :: _, h => h.elim
  | _ :: _, [], h => h.elim
theorem Lr_entry {ads : List Nat} {vs : List MV} {xs : List Value} {n : Nat} (h : vrs ads vs xs) (hn : vs.length ≤ n) : Lr ads (vs.map some ++ List.replicate (n - vs.length) none) ((lg_sl xs ++ List.replicate (n - (lg_sl xs).length) Slot.unset).toArray) n := by
  have hl := lgs_len h
  have he := lv_entry xs (n := n) (by omega)
  refine ⟨by simp; omega, he.1, he.2.1, fun i v hv => ?_⟩
  by_cases hi : i < vs.length
  · rw [List.getElem?_append_left (by simpa using hi)] at hv
    simp only [List.getElem?_map, Option.map_eq_some_iff] at hv
    obtain ⟨w, hw, hw2⟩ := hv
    cases hw2
    obtain ⟨x, h1, h2⟩ := lva_mem (k := 0) h hw
    exact ⟨x, h1, by simpa using he.2.2 _ h2⟩
  · rw [List.getElem?_append_right (by simp; omega)] at hv
    simp only [List.getElem?_replicate] at hv
    split at hv <;> cases hv
section S6
variable {p : Program} {l : Launch} {e : Env} {R : Room} {s : State} {m : MethodId} {args : Array Value} {below : List Frame} {meth : Method} {c : Code} {H : Heap} {locs : List Loc} {cells slots : Nat} {Q : State → Prop} {cc : ByteArray} {pc : Nat} {ls : Array Slot} {ads : List Nat} {D : va_G} {A : Nat → Prop} {own : Nat} {h : List MC}
/-- behind a call -/
theorem s_run {mc ms : Nat} {hE : List MC} {r : Option MV} {as : Array Value} {rest : List MV} {st0 rest0 : List Value} (hr : va_Run p l e R s m args below meth c H locs cells slots mc ms (F0 m pc ls st0) rest0 (QcM D A ads hE r as) A) (hS : va_S A s.heap H locs) (hrest : vrs ads rest rest0)
    (kk : ∀ (H1 : Heap) (locs1 : List Loc) (ads' : List Nat) (st1 : List Value), (∃ l, ads' = ads ++ l) → Wd D A s H1 ads' hE → va_S A s.heap H1 locs1 → vrs ads' (r.toList ++ rest) st1 → W p l e R s m args below meth c H1 locs1 (cells + mc) (slots + ms) Q (F0 m (pc + 3) ls st1)) : W p l e R s m args below meth c H locs cells slots Q (F0 m pc ls st0) := by
  intro T hT X
  obtain ⟨v, st₀, t, T', L, h0, X', hL, e1, e2, ⟨ads', ⟨la, rfl⟩, hro, hWd, hz, hk⟩, st⟩ := hr T hT X
  rw [h0] at hz hk
  have hal : s.vm.Alike t.vm := by rw [← e2]; exact X'.warmed.alike
  have hv : vrs (ads ++ la) (r.toList ++ rest) (v.toList ++ rest0) := by
    match r, hro with
    | none, hro => cases hro; exact vrs_mono hrest
    | some w, ⟨x, hx, hro⟩ => cases hro; exact ⟨hx, vrs_mono hrest⟩
  obtain ⟨t2, a1, b1⟩ := kk T'.heap (locs ++ L) (ads ++ la) (v.toList ++ rest0) ⟨la, rfl⟩ (by rw [e1]; exact Wd_moved hal.symm hWd)
    ⟨Nat.le_trans hS.1 (by rw [e1]; exact hz), fun q h1 h2 => by rw [e1, hk q (Nat.lt_of_lt_of_le h1 hS.1) h2]; exact hS.2.1 q h1 h2, fun q hq => by
      rcases List.mem_append.mp hq with h | h
      · exact hS.2.2 q h
      · exact hL q h⟩ hv T' rfl X'
  exact ⟨t2, st t2 a1, b1⟩
theorem wsM_good {q : MM} {M : Nat} (hq : mmt[M]? = some q) : GoodIn lw_g (wsM q) := gtbl (fun w hw => by
  rcases List.mem_cons.mp hw with rfl | h
  · exact (fm hq).1
  · exact h)
set_option maxHeartbeats 4000000 in
/-- a call of a method with code -/
theorem sim_cal {mL d M' d' : Nat} {as rest : List MV} {q : MM} {mc ms : Nat} {hE : List MC} {r : Option MV} (he : p.tables.exec = Jvm.exec) (hb : c.code = cc) (hml : c.maxLocals = mL) (hown : s.vm.findClass (mon own) = some m.cls) (hts : ∀ w ∈ lw_g, w.before args s = true) (hXf : Xf s) (hXc : Xc s) (hA : ∀ q, s.heap.size ≤ q → A q) (hfr : d ≤ R.frames) (hlo : 41 * d ≤ R.locals)
    {ml : List (Option MV)} {st : List MV} {st0 : List Value} {ig : Instr} {len : Nat} (hdg : decode cc pc = .ok (ig, len)) (hcal : mcal own d ig len st h = some (M', d', as, rest)) (hq : mmt[M']? = some q) (hW : Wd D A s H ads h) (hS : va_S A s.heap H locs) (hL : Lr ads ml ls mL) (hst : vrs ads st st0)
    (hM : ∀ xs, vrs ads as xs → as.length ≤ q.2.2.1 → Met l q.1 (wsM q) (rmD d' mc ms) (PcM D A ads h xs) (QcM D A ads hE r) mc ms A) (hrc : cells + mc ≤ R.cells) (hrs : slots + ms ≤ R.slots)
    (kk : ∀ (H1 : Heap) (locs1 : List Loc) (ads' : List Nat) (st1 : List Value), (∃ l, ads' = ads ++ l) → Wd D A s H1 ads' hE → va_S A s.heap H1 locs1 → vrs ads' (r.toList ++ rest) st1 → W p l e R s m args below meth c H1 locs1 (cells + mc) (slots + ms) Q (F0 m (pc + 3) ls st1)) : W p l e R s m args below meth c H locs cells slots Q (F0 m pc ls st0) := by
  obtain ⟨f1, f2, f3, f4⟩ := fm hq
  have hgood := wsM_good hq
  unfold mcal mcalG at hcal
  split at hcal
  · next i =>
    split at hcal
    · next M2 d2 hk =>
      split at hcal
      · next q2 hq2 =>
        split at hcal
        · next b rs hdrop =>
          split at hcal
          · next t us hcb =>
            split at hcal
            · next hl =>
              obtain ⟨rfl, ht, ho12, hrl, hkL, hL22⟩ := hl
              cases hcal
              cases hq.symm.trans hq2
              obtain ⟨sa, sb⟩ := vrs_split q.2.2.2.2.2 hst
              rw [hdrop] at sb
              obtain ⟨qb, r0, hst2, hqb, hr0⟩ := vrs_r sb
              obtain ⟨pp, hpp⟩ := fl hk
              simp only [ckL, hq, show ¬ (0 = 3) by decide, show ¬ (0 = 4) by decide, show ¬ (0 = 7) by decide, show ¬ (0 = 8) by decide, if_true, if_false, Bool.and_eq_true] at hpp
              obtain ⟨⟨⟨g1, g2⟩, g3⟩, g4⟩ := hpp
              have hxs : vrs ads (.inr (some b) :: (st.take q.2.2.2.2.2).reverse) (.ref qb :: (st0.take q.2.2.2.2.2).reverse) := ⟨⟨qb, hqb, rfl⟩, vrs_rev sa⟩
              have hlen : (st.take q.2.2.2.2.2).length = q.2.2.2.2.2 := by
                have : (st.drop q.2.2.2.2.2).length ≠ 0 := by rw [hdrop]; simp
                simp at this ⊢
                omega
              have hMet := hM _ hxs (by simp only [List.length_cons, List.length_reverse, hlen]; omega)
              have hW' := hW
              obtain ⟨ws, tys, h1, h2, h3, hP, hD, hK, h7⟩ := hW
              obtain ⟨eb, hwb⟩ := wd_cell h1 h2 hqb hcb
              subst ht
              obtain ⟨fs, hfe, -⟩ := ec_obj (h3 b _ _ hcb hwb)
              simp only at hfe
              subst hfe
              have hcl : ∃ rc, mcl[q.2.2.2.2.1]? = some rc ∧ rc.1 = q.1.cls := by
                have hz : (mcl.map (·.1)) = mown.take 12 := by decide +kernel
                have hl12 : mcl.length = 12 := by decide +kernel
                have hlt : q.2.2.2.2.1 < mcl.length := by rw [hl12]; exact ho12
                refine ⟨mcl[q.2.2.2.2.1], List.getElem?_eq_getElem hlt, ?_⟩
                have h9 : (mcl.map (·.1))[q.2.2.2.2.1]? = some (mcl[q.2.2.2.2.1]).1 := by simp [hlt]
                rw [hz, List.getElem?_take_of_lt ho12] at h9
                rw [← f4]
                simp [mon, List.getD, h9]
              obtain ⟨rc, hrc1, hrc2⟩ := hcl
              have hrecv := va_recv hK hP hrc1 hwb
              rw [hrc2] at hrecv
              refine s_run (va_runV (Ts := lw_g) (own := mon own) (C := q.1.cls) (As := (st0.take q.2.2.2.2.2).reverse) (rest := r0) (n := q.2.2.2.2.2) ⟨he, hb, hml, hown, hts⟩ hMet ⟨callB_of q.2.2.2.2.2 hts hgood rfl rfl rfl (hts _ (wat_mem g4)) (hts _ (wat_mem g1)) f3 ⟨?_, ?_⟩, hts _ (wat_mem g2), hts _ (wat_mem g3)⟩ ⟨PcM_blind, hrecv, PcM_at hW' hXf hXc hA hS⟩ rfl ?_ hL.2.1 ?_ ?_ hdg ⟨hrc, hrs⟩) hS hr0 kk
              · show d' + 1 ≤ R.frames; exact hfr
              · show 8 + (q.2.2.1 + 11) + 41 * d' ≤ R.locals; omega
              · rw [List.length_reverse, vrs_len sa]; exact hlen
              · rw [List.reverse_reverse, ← hst2, List.take_append_drop]
              · exact lv_room (by rw [vrs_cat hr0]; exact hrl)
            · cases hcal
          · cases hcal
        · cases hcal
      · cases hcal
    · cases hcal
  · next i =>
    split at hcal
    · next kd M2 d2 hk =>
      split at hcal
      · next q2 hq2 =>
        split at hcal
        · next hl =>
          obtain ⟨rfl, hkd, hkl, hrl, hkL, hL22⟩ := hl
          cases hcal
          cases hq.symm.trans hq2
          obtain ⟨sa, sb⟩ := vrs_split q.2.2.2.2.2 hst
          obtain ⟨pp, hpp⟩ := fl hk
          have hlen : (st.take q.2.2.2.2.2).length = q.2.2.2.2.2 := by rw [List.length_take]; omega
          have hMet := hM _ (vrs_rev sa) (by rw [List.length_reverse, hlen]; exact hkL)
          have hR1 : (rmD d' mc ms).frames + 1 ≤ R.frames := hfr
          have hR2 : 8 + (q.2.2.1 + 11) + (rmD d' mc ms).locals ≤ R.locals := by show 8 + (q.2.2.1 + 11) + 41 * d' ≤ R.locals; omega
          have hAs : ((st0.take q.2.2.2.2.2).reverse).length = q.2.2.2.2.2 := by rw [List.length_reverse, vrs_len sa]; exact hlen
          have hsk : st0 = ((st0.take q.2.2.2.2.2).reverse).reverse ++ st0.drop q.2.2.2.2.2 := by rw [List.reverse_reverse, List.take_append_drop]
          rcases hkd with hkd | hkd
          · subst hkd
            simp only [ckL, hq, show ¬ (1 = 3) by decide, show ¬ (1 = 4) by decide, show ¬ (1 = 7) by decide, show ¬ (1 = 8) by decide, show ¬ (1 = 0) by decide, if_true, if_false, Bool.and_eq_true] at hpp
            obtain ⟨⟨g1, g2⟩, g4⟩ := hpp
            exact s_run (va_runS (Ts := lw_g) (own := mon own) (As := (st0.take q.2.2.2.2.2).reverse) (rest := st0.drop q.2.2.2.2.2) (n := q.2.2.2.2.2) ⟨he, hb, hml, hown, hts⟩ hMet ⟨callB_of q.2.2.2.2.2 hts hgood rfl rfl rfl (hts _ (wat_mem g4)) (hts _ (wat_mem g1)) f3 ⟨hR1, hR2⟩, hts _ (wat_mem g2)⟩ ⟨PcM_blind, PcM_at hW hXf hXc hA hS⟩ rfl hAs hL.2.1 hsk (lv_room (by rw [vrs_cat sb]; exact hrl)) hdg ⟨hrc, hrs⟩) hS sb kk
          · subst hkd
            have hnest := hXf.2 own i 5 M' q hk (Or.inl rfl) hq
            simp only [ckL, hq, show ¬ (5 = 3) by decide, show ¬ (5 = 4) by decide, show ¬ (5 = 7) by decide, show ¬ (5 = 8) by decide, show ¬ (5 = 0) by decide, show ¬ (5 = 1) by decide, show ¬ (5 = 2) by decide, if_true, if_false, Bool.and_eq_true] at hpp
            obtain ⟨⟨g1, g2⟩, g4⟩ := hpp
            exact s_run (va_runSN (Ts := lw_g) (own := mon own) (As := (st0.take q.2.2.2.2.2).reverse) (rest := st0.drop q.2.2.2.2.2) (n := q.2.2.2.2.2) ⟨he, hb, hml, hown, hts⟩ hMet ⟨va_cnB q.2.2.2.2.2 hts hgood rfl rfl rfl hnest (hts _ (wat_mem g4)) f3 ⟨hR1, hR2⟩, hts _ (wat_mem g2), trivial⟩ ⟨PcM_blind, PcM_at hW hXf hXc hA hS⟩ rfl hAs hL.2.1 hsk (lv_room (by rw [vrs_cat sb]; exact hrl)) hdg ⟨hrc, hrs⟩) hS sb kk
        · cases hcal
      · cases hcal
    · cases hcal
  · next i =>
    split at hcal
    · next kd M2 d2 hk =>
      split at hcal
      · next q2 hq2 =>
        split at hcal
        · next b rs hdrop =>
          split at hcal
          · next hl =>
            obtain ⟨rfl, hkd, hrl, hkL, hL22, hnone⟩ := hl
            cases hcal
            cases hq.symm.trans hq2
            obtain ⟨sa, sb⟩ := vrs_split q.2.2.2.2.2 hst
            rw [hdrop] at sb
            obtain ⟨qb, r0, hst2, hqb, hr0⟩ := vrs_r sb
            obtain ⟨pp, hpp⟩ := fl hk
            have hxs : vrs ads (.inr (some b) :: (st.take q.2.2.2.2.2).reverse) (.ref qb :: (st0.take q.2.2.2.2.2).reverse) := ⟨⟨qb, hqb, rfl⟩, vrs_rev sa⟩
            have hlen : (st.take q.2.2.2.2.2).length = q.2.2.2.2.2 := by
              have : (st.drop q.2.2.2.2.2).length ≠ 0 := by rw [hdrop]; simp
              simp at this ⊢
              omega
            have hMet := hM _ hxs (by simp only [List.length_cons, List.length_reverse, hlen]; omega)
            have hwq : wsM q = Cond.code q.1 q.2.1 q.2.2.1 none :: lw_g := by unfold wsM; rw [hnone]
            have hR1 : (rmD d' mc ms).frames + 1 ≤ R.frames := hfr
            have hR2 : 8 + (q.2.2.1 + 11) + (rmD d' mc ms).locals ≤ R.locals := by show 8 + (q.2.2.1 + 11) + 41 * d' ≤ R.locals; omega
            have hAs : ((st0.take q.2.2.2.2.2).reverse).length = q.2.2.2.2.2 := by rw [List.length_reverse, vrs_len sa]; exact hlen
            have hsk : st0 = ((st0.take q.2.2.2.2.2).reverse).reverse ++ .ref qb :: r0 := by rw [List.reverse_reverse, ← hst2, List.take_append_drop]
            rcases hkd with hkd | hkd
            · subst hkd
              simp only [ckL, hq, show ¬ (2 = 3) by decide, show ¬ (2 = 4) by decide, show ¬ (2 = 7) by decide, show ¬ (2 = 8) by decide, show ¬ (2 = 0) by decide, show ¬ (2 = 1) by decide, if_true, if_false, Bool.and_eq_true, decide_eq_true_eq] at hpp
              obtain ⟨⟨⟨g1, g2⟩, g4⟩, g5⟩ := hpp
              exact s_run (va_runI (Ts := lw_g) (own := mon own) (As := (st0.take q.2.2.2.2.2).reverse) (rest := r0) (n := q.2.2.2.2.2) ⟨he, hb, hml, hown, hts⟩ hMet ⟨callB_of q.2.2.2.2.2 hts hgood hwq rfl rfl (hts _ (wat_mem g4)) (hts _ (wat_mem g1)) f3 ⟨hR1, hR2⟩, g5, hts _ (wat_mem g2)⟩ ⟨PcM_blind, PcM_at hW hXf hXc hA hS⟩ rfl hAs hL.2.1 hsk (lv_room (by rw [vrs_cat hr0]; exact hrl)) hdg ⟨hrc, hrs⟩) hS hr0 kk
            · subst hkd
              have hnest := hXf.2 own i 6 M' q hk (Or.inr rfl) hq
              simp only [ckL, hq, show ¬ (6 = 3) by decide, show ¬ (6 = 4) by decide, show ¬ (6 = 7) by decide, show ¬ (6 = 8) by decide, show ¬ (6 = 0) by decide, show ¬ (6 = 1) by decide, show ¬ (6 = 2) by decide, show ¬ (6 = 5) by decide, if_true, if_false, Bool.and_eq_true, decide_eq_true_eq] at hpp
              obtain ⟨⟨⟨g1, g2⟩, g4⟩, g5⟩ := hpp
              exact s_run (va_runIN (Ts := lw_g) (own := mon own) (As := (st0.take q.2.2.2.2.2).reverse) (rest := r0) (n := q.2.2.2.2.2) ⟨he, hb, hml, hown, hts⟩ hMet ⟨va_cnB q.2.2.2.2.2 hts hgood hwq rfl rfl hnest (hts _ (wat_mem g4)) f3 ⟨hR1, hR2⟩, g5, hts _ (wat_mem g2)⟩ ⟨PcM_blind, PcM_at hW hXf hXc hA hS⟩ rfl hAs hL.2.1 hsk (lv_room (by rw [vrs_cat hr0]; exact hrl)) hdg ⟨hrc, hrs⟩) hS hr0 kk
          · cases hcal
        · cases hcal
      · cases hcal
    · cases hcal
  · cases hcal
end S6
