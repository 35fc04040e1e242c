/-! HOW MANY CELLS A CALL MAKES AT LEAST, AND WHAT IT LEAVES ALONE -/
theorem nd_len : ∀ (n a : Nat) (l : List Nat), l.Nodup → (∀ q ∈ l, a ≤ q ∧ q < a + n) → l.length ≤ n
  | 0, a, l, _, h => by
    match l, h with
    | [], _ => exact Nat.le_refl _
    | q :: _, h => have := h q (by simp); omega
  | n + 1, a, l, hd, h => by
    by_cases hm : a + n ∈ l
    · have h1 := nd_len n a (l.erase (a + n)) (hd.erase _) (fun q hq => by
        have h2 := (hd.mem_erase_iff).mp hq
        have h3 := h q h2.2
        have h4 := h2.1
        omega)
      rw [List.length_erase_of_mem hm] at h1
      omega
    · have h1 := nd_len n a l hd (fun q hq => by
        have h3 := h q hq
        have h4 : q ≠ a + n := fun e => hm (e ▸ hq)
        omega)
      omega
theorem va_at_lt {D : va_G} {cl : List vw_C} {q : Nat × va_E} {H : Heap} (h : va_at D cl q H) : q.1 < H.size := by
  obtain ⟨a, e⟩ := q
  match e, h with
  | .inl a, h => exact (Array.getElem?_eq_some_iff.mp h).1
  | .inr o, h =>
    obtain ⟨r, -, cell, hc, -⟩ := h
    exact (Array.getElem?_eq_some_iff.mp hc).1
theorem va_at_kept {D : va_G} {cl : List vw_C} {q : Nat × va_E} {H H1 : Heap} (h : va_at D cl q H) (e : H1[q.1]? = H[q.1]?) : va_at D cl q H1 := by
  obtain ⟨a, e1⟩ := q
  match e1, h with
  | .inl a, h => exact e.trans h
  | .inr o, h =>
    obtain ⟨r, hr, ho⟩ := h
    exact ⟨r, hr, ho.kept e⟩
theorem Wd_in {D : va_G} {A : Nat → Prop} {s : State} {H : Heap} {ads : List Nat} {h : List MC} (w : Wd D A s H ads h) {q : Nat} (hq : q ∈ ads) : q < H.size ∧ A q := by
  obtain ⟨ws, tys, h1, h2, h3, h4, h5, h6, h7⟩ := w
  rw [← h1] at hq
  obtain ⟨x, hx, rfl⟩ := List.mem_map.mp hq
  obtain ⟨k, hk⟩ := List.mem_iff_getElem?.mp hx
  exact ⟨va_at_lt (h4 k x hk), h5.2 k x hk⟩
theorem Wd_kept {D : va_G} {A : Nat → Prop} {s : State} {H H1 : Heap} {ads : List Nat} {h : List MC} (w : Wd D A s H ads h) (e : ∀ q ∈ ads, H1[q]? = H[q]?) : Wd D A s H1 ads h := by
  obtain ⟨ws, tys, h1, h2, h3, h4, h5, h6, h7⟩ := w
  exact ⟨ws, tys, h1, h2, h3, fun k q hq => va_at_kept (h4 k q hq) (e q.1 (by rw [← h1]; exact List.mem_map_of_mem (List.mem_of_getElem? hq))), h5, h6, h7⟩
theorem Wd_A {D : va_G} {A A' : Nat → Prop} {s : State} {H : Heap} {ads : List Nat} {h : List MC} (w : Wd D A s H ads h) (hA : ∀ q ∈ ads, A' q) : Wd D A' s H ads h := by
  obtain ⟨ws, tys, h1, h2, h3, h4, h5, h6, h7⟩ := w
  exact ⟨ws, tys, h1, h2, h3, h4, ⟨h5.1, fun k q hq => hA q.1 (by rw [← h1]; exact List.mem_map_of_mem (List.mem_of_getElem? hq))⟩, h6, h7⟩
theorem Wd_nd {D : va_G} {A : Nat → Prop} {s : State} {H : Heap} {ads : List Nat} {h : List MC} (w : Wd D A s H ads h) : ads.Nodup := by
  obtain ⟨ws, tys, h1, h2, h3, h4, h5, h6, h7⟩ := w
  subst h1
  rw [List.Nodup, List.pairwise_iff_getElem]
  intro i j hi hj hij e
  simp only [List.length_map] at hi hj
  simp only [List.getElem_map] at e
  have := h5.1 i j _ _ (List.getElem?_eq_getElem hi) (List.getElem?_eq_getElem hj) e
  omega
theorem Wd_len {D : va_G} {A : Nat → Prop} {s : State} {H : Heap} {ads : List Nat} {h : List MC} (w : Wd D A s H ads h) : ads.length = h.length := by
  obtain ⟨ws, tys, h1, h2, -⟩ := w
  rw [← h1, List.length_map, h2]
theorem shv_0 (v : MV) : shv 0 v = v := by
  match v with
  | .inl i => rfl
  | .inr none => rfl
  | .inr (some a) => simp [shv]
theorem shc_0 (c : MC) : shc 0 c = c := by
  obtain ⟨t, vs⟩ := c
  simp only [shc]
  congr 1
  rw [show (shv 0) = id from funext shv_0, List.map_id]
/-- the cells behind are dropped -/
theorem Wd_drop {D : va_G} {A : Nat → Prop} {s : State} {H : Heap} {ads : List Nat} {g j : List MC} (w : Wd D A s H ads (g ++ j)) (hc : g.all (fun c => c.2.all (clv g.length)) = true) : Wd D A s H (ads.take g.length) g := by
  have h1 := Wd_pick (k := 0) (g := g) w (by rw [List.drop_zero, List.take_left, show (shc 0) = id from funext shc_0, List.map_id]) hc
  rwa [List.drop_zero] at h1
/-- what a call leaves: its world, all other cells as they were, its new cells new -/
def QcN (D : va_G) (A : Nat → Prop) (ads : List Nat) (h hE : List MC) (r : Option MV) : Array Value → State → Outcome → State → Prop := fun _ st oc t => ∃ la, ro (ads ++ la) r oc ∧ Wd D A t t.heap (ads ++ la) hE ∧ va_F A st t ∧ (∀ q, q < st.heap.size → q ∉ ads → t.heap[q]? = st.heap[q]?) ∧ (∀ q ∈ la, st.heap.size ≤ q) ∧ st.heap.size + (hE.length - h.length) ≤ t.heap.size
theorem met_runN {n d M : Nat} {as : List MV} {h hE : List MC} {r : Option MV} {q : MM} (hq : mmt[M]? = some q) (hmx : mx n d M 0 (as.map some ++ List.replicate (q.2.2.1 - as.length) none) [] h = some (r, hE)) (l : Launch) (D : va_G) (A : Nat → Prop) (ads : List Nat) (xs : List Value) (hxs : vrs ads as xs) (hlen : as.length ≤ q.2.2.1) :
    Met l q.1 (wsM q) (rmD d (hE.length - h.length) (mslots hE - mslots h)) (PcM D A ads h xs) (QcN D A ads h hE r) (hE.length - h.length) (mslots hE - mslots h) A := by
  intro p e ha hc hk s m args below hf happ hP hK
  obtain ⟨rfl, hW, hXf, hXc, hA⟩ := hP
  have hsub : ∀ q, (q ∈ ads ∨ s.heap.size ≤ q) → A q := fun q hq => hq.elim (fun h => (Wd_in hW h).2) (hA q)
  obtain ⟨k, o, h1, h2, h3, ⟨⟨ads', ⟨la, rfl⟩, hro, hWt, hF1, hF2⟩, L, hFE, hL⟩⟩ := met_run hq hmx l D (fun q => q ∈ ads ∨ s.heap.size ≤ q) ads xs hxs hlen p e ha hc hk s m xs.toArray below hf happ ⟨rfl, Wd_A hW (fun q hq => Or.inl hq), hXf, hXc, fun q hq => Or.inr hq⟩ hK
  have hlaN := List.nodup_append.mp (Wd_nd hWt)
  have hla : ∀ q ∈ la, s.heap.size ≤ q := fun q hq => by
    rcases (Wd_in hWt (List.mem_append_right _ hq)).2 with h | h
    · exact absurd rfl (hlaN.2.2 q h q hq)
    · exact h
  refine ⟨k, o, h1, h2, h3, ⟨⟨la, hro, Wd_A hWt (fun q hq => hsub q (Wd_in hWt hq).2), ⟨hF1, fun q hq hn => hF2 q hq (fun hq2 => hn (hsub q hq2))⟩, fun q hq hn => hF2 q hq (fun h => h.elim hn (fun h => by omega)), hla, ?_⟩, L, hFE, fun q hq => hsub _ (hL q hq)⟩⟩
  have hcard := nd_len _ s.heap.size la hlaN.2.1 (fun q hq => ⟨hla q hq, by
    have h9 := (Wd_in hWt (List.mem_append_right _ hq)).1
    exact Nat.lt_of_lt_of_le h9 (Nat.le_of_eq (Nat.add_sub_of_le hF1).symm)⟩)
  have e1 := Wd_len hWt
  have e2 := Wd_len hW
  rw [List.length_append] at e1
  omega
section S6
variable {p : Program} {l : Launch} {e : Env} {R : Room} {s : State} {m : MethodId} {args : Array Value} {below : List Frame} {meth : Method} {c : Code} {H : Heap} {locs : List Loc} {cells slots : Nat} {Q : State → Prop} {cc : ByteArray} {pc : Nat} {ls : Array Slot} {ads : List Nat} {D : va_G} {A : Nat → Prop} {own : Nat} {h : List MC}
/-- behind a call -/
theorem s_runN {mc ms : Nat} {hE : List MC} {r : Option MV} {as : Array Value} {rest : List MV} {st0 rest0 : List Value} (hr : va_Run p l e R s m args below meth c H locs cells slots mc ms (F0 m pc ls st0) rest0 (QcN D A ads h hE r as) A) (hS : va_S A s.heap H locs) (hrest : vrs ads rest rest0)
    (kk : ∀ (H1 : Heap) (locs1 : List Loc) (la : List Nat) (st1 : List Value), Wd D A s H1 (ads ++ la) hE → va_S A s.heap H1 locs1 → vrs (ads ++ la) (r.toList ++ rest) st1 → (∀ q, q < H.size → q ∉ ads → H1[q]? = H[q]?) → (∀ q ∈ la, H.size ≤ q) → H.size + (hE.length - h.length) ≤ H1.size → W p l e R s m args below meth c H1 locs1 (cells + mc) (slots + ms) Q (F0 m (pc + 3) ls st1)) : W p l e R s m args below meth c H locs cells slots Q (F0 m pc ls st0) := by
  intro T hT X
  obtain ⟨v, st₀, t, T', L, h0, X', hL, e1, e2, ⟨la, hro, hWd, ⟨hz, hk⟩, hkN, hla, hcnt⟩, st⟩ := hr T hT X
  rw [h0] at hz hk hkN hla hcnt
  have hal : s.vm.Alike t.vm := by rw [← e2]; exact X'.warmed.alike
  have hv : vrs (ads ++ la) (r.toList ++ rest) (v.toList ++ rest0) := by
    match r, hro with
    | none, hro => cases hro; exact vrs_mono hrest
    | some w, ⟨x, hx, hro⟩ => cases hro; exact ⟨hx, vrs_mono hrest⟩
  obtain ⟨t2, a1, b1⟩ := kk T'.heap (locs ++ L) la (v.toList ++ rest0) (by rw [e1]; exact Wd_moved hal.symm hWd)
    ⟨Nat.le_trans hS.1 (by rw [e1]; exact hz), fun q h1 h2 => by rw [e1, hk q (Nat.lt_of_lt_of_le h1 hS.1) h2]; exact hS.2.1 q h1 h2, fun q hq => by
      rcases List.mem_append.mp hq with h | h
      · exact hS.2.2 q h
      · exact hL q h⟩ hv (by rw [e1]; exact hkN) hla (by rw [e1]; exact hcnt) T' rfl X'
  exact ⟨t2, st t2 a1, b1⟩
set_option maxHeartbeats 4000000 in
/-- a call of a method with code, of an object -/
theorem sim_calN {mL d M' d' i : Nat} {as rest : List MV} {q : MM} {mc ms : Nat} {hE : List MC} {r : Option MV} (he : p.tables.exec = Jvm.exec) (hb : c.code = cc) (hml : c.maxLocals = mL) (hown : s.vm.findClass (mon own) = some m.cls) (hts : ∀ w ∈ lw_g, w.before args s = true) (hXf : Xf s) (hXc : Xc s) (hA : ∀ q, s.heap.size ≤ q → A q) (hfr : d ≤ R.frames) (hlo : 41 * d ≤ R.locals)
    {st : List MV} {st0 : List Value} (hdg : decode cc pc = .ok (.invokevirtual i, 3)) (hcal : mcal own d (.invokevirtual i) 3 st h = some (M', d', as, rest)) (hq : mmt[M']? = some q) (hW : Wd D A s H ads h) (hS : va_S A s.heap H locs) (hL : ls.size = mL) (hst : vrs ads st st0)
    (hM : ∀ xs, vrs ads as xs → as.length ≤ q.2.2.1 → Met l q.1 (wsM q) (rmD d' mc ms) (PcM D A ads h xs) (QcN D A ads h hE r) mc ms A) (hrc : cells + mc ≤ R.cells) (hrs : slots + ms ≤ R.slots)
    (kk : ∀ (H1 : Heap) (locs1 : List Loc) (la : List Nat) (st1 : List Value), Wd D A s H1 (ads ++ la) hE → va_S A s.heap H1 locs1 → vrs (ads ++ la) (r.toList ++ rest) st1 → (∀ q, q < H.size → q ∉ ads → H1[q]? = H[q]?) → (∀ q ∈ la, H.size ≤ q) → H.size + (hE.length - h.length) ≤ H1.size → W p l e R s m args below meth c H1 locs1 (cells + mc) (slots + ms) Q (F0 m (pc + 3) ls st1)) : W p l e R s m args below meth c H locs cells slots Q (F0 m pc ls st0) := by
  obtain ⟨f1, f2, f3, f4⟩ := fm hq
  have hgood := wsM_good hq
  simp only [mcal, mcalG] at hcal
  split at hcal
  · next M2 d2 hk =>
    split at hcal
    · next q2 hq2 =>
      split at hcal
      · next b rs hdrop =>
        split at hcal
        · next t us hcb =>
          split at hcal
          · next hl =>
            obtain ⟨-, ht, ho12, hrl, hkL, hL22⟩ := hl
            cases hcal
            cases hq.symm.trans hq2
            obtain ⟨sa, sb⟩ := vrs_split q.2.2.2.2.2 hst
            rw [hdrop] at sb
            obtain ⟨qb, r0, hst2, hqb, hr0⟩ := vrs_r sb
            obtain ⟨pp, hpp⟩ := fl hk
            simp only [ckL, hq, show ¬ (0 = 3) by decide, show ¬ (0 = 4) by decide, show ¬ (0 = 7) by decide, show ¬ (0 = 8) by decide, if_true, if_false, Bool.and_eq_true] at hpp
            obtain ⟨⟨⟨g1, g2⟩, g3⟩, g4⟩ := hpp
            have hxs : vrs ads (.inr (some b) :: (st.take q.2.2.2.2.2).reverse) (.ref qb :: (st0.take q.2.2.2.2.2).reverse) := ⟨⟨qb, hqb, rfl⟩, vrs_rev sa⟩
            have hlen : (st.take q.2.2.2.2.2).length = q.2.2.2.2.2 := by
              have : (st.drop q.2.2.2.2.2).length ≠ 0 := by rw [hdrop]; simp
              simp at this ⊢
              omega
            have hMet := hM _ hxs (by simp only [List.length_cons, List.length_reverse, hlen]; omega)
            have hW' := hW
            obtain ⟨ws, tys, h1, h2, h3, hP, hD, hK, h7⟩ := hW
            obtain ⟨eb, hwb⟩ := wd_cell h1 h2 hqb hcb
            subst ht
            obtain ⟨fs, hfe, -⟩ := ec_obj (h3 b _ _ hcb hwb)
            simp only at hfe
            subst hfe
            have hcl : ∃ rc, mcl[q.2.2.2.2.1]? = some rc ∧ rc.1 = q.1.cls := by
              have hz : (mcl.map (·.1)) = mown.take 12 := by decide +kernel
              have hl12 : mcl.length = 12 := by decide +kernel
              have hlt : q.2.2.2.2.1 < mcl.length := by rw [hl12]; exact ho12
              refine ⟨mcl[q.2.2.2.2.1], List.getElem?_eq_getElem hlt, ?_⟩
              have h9 : (mcl.map (·.1))[q.2.2.2.2.1]? = some (mcl[q.2.2.2.2.1]).1 := by simp [hlt]
              rw [hz, List.getElem?_take_of_lt ho12] at h9
              rw [← f4]
              simp [mon, List.getD, h9]
            obtain ⟨rc, hrc1, hrc2⟩ := hcl
            have hrecv := va_recv hK hP hrc1 hwb
            rw [hrc2] at hrecv
            refine s_runN (va_runV (Ts := lw_g) (own := mon own) (C := q.1.cls) (As := (st0.take q.2.2.2.2.2).reverse) (rest := r0) (n := q.2.2.2.2.2) ⟨he, hb, hml, hown, hts⟩ hMet ⟨callB_of q.2.2.2.2.2 hts hgood rfl rfl rfl (hts _ (wat_mem g4)) (hts _ (wat_mem g1)) f3 ⟨?_, ?_⟩, hts _ (wat_mem g2), hts _ (wat_mem g3)⟩ ⟨PcM_blind, hrecv, PcM_at hW' hXf hXc hA hS⟩ rfl ?_ hL ?_ ?_ hdg ⟨hrc, hrs⟩) hS hr0 kk
            · show d' + 1 ≤ R.frames; exact hfr
            · show 8 + (q.2.2.1 + 11) + 41 * d' ≤ R.locals; omega
            · rw [List.length_reverse, vrs_len sa]; exact hlen
            · rw [List.reverse_reverse, ← hst2, List.take_append_drop]
            · exact lv_room (by rw [vrs_cat hr0]; exact hrl)
          · cases hcal
        · cases hcal
      · cases hcal
    · cases hcal
  · cases hcal
end S6
