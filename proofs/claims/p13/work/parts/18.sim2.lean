/-! THE INSTRUCTIONS OF THE HEAP -/
theorem mfit_ok {ads : List Nat} {ty : FieldType} {v : MV} {x : Value} (h : mfit ty v = true) (hv : vr ads v x) : narrow ty x = x ∧ fits ty x = true := by
  unfold mfit at h
  split at h
  · rw [show x = Value.int _ from hv]; exact ⟨rfl, rfl⟩
  · next i =>
    rw [show x = Value.int i from hv]
    simp only [Bool.or_eq_true, beq_iff_eq] at h
    rcases h with h | h <;> subst h <;> exact ⟨by decide, by decide⟩
  · rcases vr_nr hv with h | ⟨a, h⟩ <;> subst h <;> exact ⟨rfl, rfl⟩
  · rcases vr_nr hv with h | ⟨a, h⟩ <;> subst h <;> exact ⟨rfl, rfl⟩
  · cases h
theorem mdef_ok {ads : List Nat} : ∀ {l : List FieldType}, (∀ ty ∈ l, mtyOk ty = true) → vrs ads (l.map mdef) (l.map defaultValue)
  | [], _ => trivial
  | ty :: l, h => by
    refine ⟨?_, mdef_ok (fun t ht => h t (List.mem_cons_of_mem _ ht))⟩
    have h0 := h ty List.mem_cons_self
    cases ty <;> first | rfl | (exact absurd h0 (by simp [mtyOk]))
section S2
variable {p : Program} {l : Launch} {e : Env} {R : Room} {s : State} {m : MethodId} {args : Array Value} {below : List Frame} {meth : Method} {c : Code} {H : Heap} {locs : List Loc} {cells slots : Nat} {Q : State → Prop} {cc : ByteArray} {pc : Nat} {ls : Array Slot} {ads : List Nat} {rest : List Value} {D : va_G} {A : Nat → Prop} {own : Nat} {h : List MC}
theorem s_getf (he : p.tables.exec = Jvm.exec) (hb : c.code = cc) (hown : s.vm.findClass (mon own) = some m.cls) (hts : ∀ w ∈ lw_g, w.before args s = true) {i ci k a q : Nat} {vs : List MV} {v : MV} (hW : Wd D A s H ads h) (hf : mk2 mlF own i = some (ci, k)) (hq : ads[a]? = some q) (hc : h[a]? = some (10 + ci, vs)) (hv : vs[k]? = some v) (hdg : decode cc pc = .ok (.getfield i, 3))
    (kk : ∀ x, vr ads v x → W p l e R s m args below meth c H locs cells slots Q (F0 m (pc + 3) ls (x :: rest))) : W p l e R s m args below meth c H locs cells slots Q (F0 m pc ls (.ref q :: rest)) := by
  obtain ⟨ws, tys, h1, h2, h3, hP, hD, hK, h7⟩ := hW
  obtain ⟨⟨rn, rT, rN⟩, hr, hk, hlk⟩ := ff hf
  obtain ⟨e0, hwa⟩ := wd_cell h1 h2 hq hc
  obtain ⟨fs, hfe, hfs⟩ := ec_obj (h3 a _ _ hc hwa)
  simp only at hfe
  subst hfe
  obtain ⟨x, hx, hvx⟩ := vrs_get hfs hv
  exact va_get (D := D) (cl := mcl) (C := rn) (T := rT) (N := rN) he hb hts (fc hr).1 hown hK hP a hwa hr k hk (hts _ hlk) (fun _ h9 => h9) hx hdg (kk x hvx)
theorem s_putf (he : p.tables.exec = Jvm.exec) (hb : c.code = cc) (hown : s.vm.findClass (mon own) = some m.cls) (hts : ∀ w ∈ lw_g, w.before args s = true) {i ci k a q : Nat} {vs : List MV} {v : MV} {x : Value} {r : vw_C} {ty : FieldType} (hW : Wd D A s H ads h) (hS : va_S A s.heap H locs) (hf : mk2 mlF own i = some (ci, k)) (hq : ads[a]? = some q) (hc : h[a]? = some (10 + ci, vs)) (hk2 : k < vs.length) (hr : mcl[ci]? = some r) (hty : (mty.getD ci [])[k]? = some ty) (hfit : mfit ty v = true) (hx : vr ads v x) (hfin : (r.2.1 k).2.2.2 = true → meth.name = "<init>" ∧ own = ci) (hdg : decode cc pc = .ok (.putfield i, 3))
    (kk : ∀ (H1 : Heap) (locs1 : List Loc), Wd D A s H1 ads (h.set a (10 + ci, vs.set k v)) → va_S A s.heap H1 locs1 → W p l e R s m args below meth c H1 locs1 cells slots Q (F0 m (pc + 3) ls rest)) : W p l e R s m args below meth c H locs cells slots Q (F0 m pc ls (x :: .ref q :: rest)) := by
  obtain ⟨ws, tys, h1, h2, h3, hP, hD, hK, h7⟩ := hW
  obtain ⟨r', hr', hk, hlk⟩ := ff hf
  cases hr.symm.trans hr'
  obtain ⟨rn, rT, rN⟩ := r
  obtain ⟨e0, hwa⟩ := wd_cell h1 h2 hq hc
  obtain ⟨fs, hfe, hfs⟩ := ec_obj (h3 a _ _ hc hwa)
  simp only at hfe
  subst hfe
  obtain ⟨c1, c2, c3, c4, c5, c6, c7⟩ := fc hr
  have htyk : (mty.getD ci []).getD k .int = ty := by rw [List.getD_eq_getElem?_getD, hty]; rfl
  have hpd : parseFieldDescriptor (rT k).2.2.1 = some ty := by rw [← htyk]; exact (c3 k hk).1
  obtain ⟨hn, hft⟩ := mfit_ok hfit hx
  have hl : k < fs.length := by rw [vrs_len hfs]; exact hk2
  have done : ∀ (H1 : Heap) (locs1 : List Loc), va_P D mcl (ws.set a (q, .inr (ci, fs.set k x))) H1 → va_D A (ws.set a (q, .inr (ci, fs.set k x))) → va_S A s.heap H1 locs1 → W p l e R s m args below meth c H1 locs1 cells slots Q (F0 m (pc + 3) ls rest) := fun H1 locs1 hP1 hD1 hS1 =>
    kk H1 locs1 (wd_set h1 h2 h3 hK h7 hwa (Or.inr (Or.inr (Or.inr ⟨Nat.le_add_right _ _, fs.set k x, by simp, vrs_set hfs hx⟩))) hP1 hD1) hS1
  by_cases hfl : (rT k).2.2.2 = true
  · obtain ⟨hi1, hi2⟩ := hfin hfl
    subst hi2
    have hmon : (rT k).1 = mon own := by
      rw [(c3 k hk).2]
      have : mown[own]? = some rn := by
        have hz : ∀ (ci : Nat) (r : vw_C), mcl[ci]? = some r → mown[ci]? = some r.1 := by
          intro ci r h
          have hz : (mcl.map (·.1)) = mown.take mcl.length := by decide +kernel
          have hlt := (List.getElem?_eq_some_iff.mp h).1
          have h9 : (mcl.map (·.1))[ci]? = some r.1 := by simp [h]
          rw [hz, List.getElem?_take_of_lt hlt] at h9
          exact h9
        exact hz own _ hr
      simp [mon, List.getD, this]
    exact va_putF (D := D) (cl := mcl) (C := rn) (T := rT) (N := rN) he hb hts c1 (fun k => (mty.getD own []).getD k .int) (fun k hk => (c3 k hk).1) c4 hown hK hP hD hS a hwa hr k hk (hts _ hlk) (fun _ h9 => h9) hfl hi1 hmon hpd hn hft hl hdg done
  · exact va_put (D := D) (cl := mcl) (C := rn) (T := rT) (N := rN) he hb hts c1 (fun k => (mty.getD ci []).getD k .int) (fun k hk => (c3 k hk).1) c4 hown hK hP hD hS a hwa hr k hk (hts _ hlk) (fun _ h9 => h9) (by simpa using hfl) hpd hn hft hl hdg done
theorem mint_at {i x : Int32} {vs : List MV} (h : mint ((mix i vs.length).bind fun j => vs[j]?) = some x) : vp_in i vs.length ∧ vs[i.toNatClampNeg]? = some (.inl x) := by
  cases hm : mix i vs.length with
  | none => simp [hm, mint] at h
  | some j =>
    obtain ⟨h1, h2, -⟩ := mix_of hm
    subst h2
    simp only [hm, Option.bind_some] at h
    unfold mint at h
    split at h
    · next y hy => cases h; exact ⟨h1, hy⟩
    · cases h
theorem mref_at {i : Int32} {x : Option Nat} {vs : List MV} (h : mref ((mix i vs.length).bind fun j => vs[j]?) = some x) : vp_in i vs.length ∧ vs[i.toNatClampNeg]? = some (.inr x) := by
  cases hm : mix i vs.length with
  | none => simp [hm, mref] at h
  | some j =>
    obtain ⟨h1, h2, -⟩ := mix_of hm
    subst h2
    simp only [hm, Option.bind_some] at h
    unfold mref at h
    split at h
    · next y hy => cases h; exact ⟨h1, hy⟩
    · cases h
theorem s_iald (he : p.tables.exec = Jvm.exec) (hb : c.code = cc) {a q : Nat} {i x : Int32} {vs : List MV} (hW : Wd D A s H ads h) (hq : ads[a]? = some q) (hc : h[a]? = some (0, vs)) (hv : mint ((mix i vs.length).bind fun j => vs[j]?) = some x) (hdg : decode cc pc = .ok (.iaload, 1))
    (kk : W p l e R s m args below meth c H locs cells slots Q (F0 m (pc + 1) ls (.int x :: rest))) : W p l e R s m args below meth c H locs cells slots Q (F0 m pc ls (.int i :: .ref q :: rest)) := by
  obtain ⟨ws, tys, h1, h2, h3, hP, hD, hK, h7⟩ := hW
  obtain ⟨e0, hwa⟩ := wd_cell h1 h2 hq hc
  obtain ⟨cA, f, t0, hfe, ht, hf⟩ := ec_int (h3 a _ _ hc hwa)
  simp only at hfe
  subst hfe
  obtain ⟨hin, hj⟩ := mint_at hv
  have hx := hf _ _ hj
  simp only [Sum.inl.injEq] at hx
  exact va_iald he hb hK hP a t0 hwa ht hin hdg (by rw [← hx]; exact kk)
theorem s_bald (he : p.tables.exec = Jvm.exec) (hb : c.code = cc) {a q : Nat} {i x : Int32} {vs : List MV} (hW : Wd D A s H ads h) (hq : ads[a]? = some q) (hc : h[a]? = some (1, vs)) (hv : mint ((mix i vs.length).bind fun j => vs[j]?) = some x) (hdg : decode cc pc = .ok (.baload, 1))
    (kk : W p l e R s m args below meth c H locs cells slots Q (F0 m (pc + 1) ls (.int x :: rest))) : W p l e R s m args below meth c H locs cells slots Q (F0 m pc ls (.int i :: .ref q :: rest)) := by
  obtain ⟨ws, tys, h1, h2, h3, hP, hD, hK, h7⟩ := hW
  obtain ⟨e0, hwa⟩ := wd_cell h1 h2 hq hc
  obtain ⟨cA, f, t0, hfe, ht, hf⟩ := ec_bool (h3 a _ _ hc hwa)
  simp only at hfe
  subst hfe
  obtain ⟨hin, hj⟩ := mint_at hv
  have hx := hf _ _ hj
  simp only [Sum.inl.injEq] at hx
  exact va_zald he hb hK hP a t0 hwa ht hin hdg (by rw [← hx]; exact kk)
theorem mtag_ref {t : Nat} (ht : t = 2 ∨ t = 3 ∨ t = 4) : (mtag t).isReference = true := by rcases ht with h | h | h <;> subst h <;> rfl
theorem s_aald (he : p.tables.exec = Jvm.exec) (hb : c.code = cc) {a q t : Nat} {i : Int32} {x : Option Nat} {vs : List MV} (hW : Wd D A s H ads h) (hq : ads[a]? = some q) (hc : h[a]? = some (t, vs)) (htt : t = 2 ∨ t = 3 ∨ t = 4) (hv : mref ((mix i vs.length).bind fun j => vs[j]?) = some x) (hdg : decode cc pc = .ok (.aaload, 1))
    (kk : ∀ z, vr ads (.inr x) z → W p l e R s m args below meth c H locs cells slots Q (F0 m (pc + 1) ls (z :: rest))) : W p l e R s m args below meth c H locs cells slots Q (F0 m pc ls (.int i :: .ref q :: rest)) := by
  obtain ⟨ws, tys, h1, h2, h3, hP, hD, hK, h7⟩ := hW
  obtain ⟨e0, hwa⟩ := wd_cell h1 h2 hq hc
  obtain ⟨cA, f, t0, hfe, ht, hf⟩ := ec_ref htt (h3 a _ _ hc hwa)
  simp only at hfe
  subst hfe
  obtain ⟨hin, hj⟩ := mref_at hv
  have hlt : i.toNatClampNeg < vs.length := Nat.not_le.mp fun q => hin (Or.inr q)
  exact W.aald (v := va_rf (f i.toNatClampNeg)) (ty := mtag t) he hb (hP a _ hwa) ((hK.2 t0 _ ht).1 vs.length (fun j => va_rf (f j))) (mtag_ref htt) (fun q => by cases q) (by show ¬ (i < 0 ∨ (arrV _ _ _).slots.size ≤ _); rw [arrV_size]; exact hin) (by show (arrV _ _ _).slots[_]? = _; rw [arrV_read _ _ hlt]) rfl rfl hdg (kk _ (hf _ _ hj).1)
theorem ec_upd {tys : List (ClassId × FieldType)} {ty : FieldType} {vs : List MV} {cA : ClassId} {f : Nat → Int32} {t0 j : Nat} {x : Int32} (ht : tys[t0]? = some (cA, ty)) (hf : ∀ (j : Nat) (v : MV), vs[j]? = some v → v = .inl (f j)) : ecI tys ty (vs.set j (.inl x)) (.inl (cA, vs.length, .inl (upd f j x))) := by
  refine ⟨cA, upd f j x, t0, by simp, ht, fun k v hk => ?_⟩
  by_cases hkj : j = k
  · subst hkj
    rw [List.getElem?_set] at hk
    simp only [if_true] at hk
    split at hk
    · cases hk; rw [pk_us]
    · cases hk
  · rw [List.getElem?_set_ne hkj] at hk
    rw [pk_un (fun q => hkj q.symm)]
    exact hf k v hk
theorem s_iast (he : p.tables.exec = Jvm.exec) (hb : c.code = cc) {a q j : Nat} {i x : Int32} {vs : List MV} (hW : Wd D A s H ads h) (hS : va_S A s.heap H locs) (hq : ads[a]? = some q) (hc : h[a]? = some (0, vs)) (hj : mix i vs.length = some j) (hdg : decode cc pc = .ok (.iastore, 1))
    (kk : ∀ (H1 : Heap) (locs1 : List Loc), Wd D A s H1 ads (h.set a (0, vs.set j (.inl x))) → va_S A s.heap H1 locs1 → W p l e R s m args below meth c H1 locs1 cells slots Q (F0 m (pc + 1) ls rest)) : W p l e R s m args below meth c H locs cells slots Q (F0 m pc ls (.int x :: .int i :: .ref q :: rest)) := by
  obtain ⟨ws, tys, h1, h2, h3, hP, hD, hK, h7⟩ := hW
  obtain ⟨e0, hwa⟩ := wd_cell h1 h2 hq hc
  obtain ⟨cA, f, t0, hfe, ht, hf⟩ := ec_int (h3 a _ _ hc hwa)
  simp only at hfe
  subst hfe
  obtain ⟨hin, hj2, -⟩ := mix_of hj
  subst hj2
  exact va_iast he hb hK hP hD hS a t0 hwa ht hin hdg fun H1 locs1 hP1 hD1 hS1 => kk H1 locs1 (wd_set h1 h2 h3 hK h7 hwa (Or.inl ⟨rfl, ec_upd ht hf⟩) hP1 hD1) hS1
theorem s_bast (he : p.tables.exec = Jvm.exec) (hb : c.code = cc) {a q j : Nat} {i x : Int32} {vs : List MV} (hW : Wd D A s H ads h) (hS : va_S A s.heap H locs) (hq : ads[a]? = some q) (hc : h[a]? = some (1, vs)) (hx : x = 0 ∨ x = 1) (hj : mix i vs.length = some j) (hdg : decode cc pc = .ok (.bastore, 1))
    (kk : ∀ (H1 : Heap) (locs1 : List Loc), Wd D A s H1 ads (h.set a (1, vs.set j (.inl x))) → va_S A s.heap H1 locs1 → W p l e R s m args below meth c H1 locs1 cells slots Q (F0 m (pc + 1) ls rest)) : W p l e R s m args below meth c H locs cells slots Q (F0 m pc ls (.int x :: .int i :: .ref q :: rest)) := by
  obtain ⟨ws, tys, h1, h2, h3, hP, hD, hK, h7⟩ := hW
  obtain ⟨e0, hwa⟩ := wd_cell h1 h2 hq hc
  obtain ⟨cA, f, t0, hfe, ht, hf⟩ := ec_bool (h3 a _ _ hc hwa)
  simp only at hfe
  subst hfe
  obtain ⟨hin, hj2, -⟩ := mix_of hj
  subst hj2
  have hnar : vp_nar .boolean x = x := by rcases hx with h | h <;> subst h <;> decide
  exact va_zast he hb hK hP hD hS a t0 hwa ht hin hdg fun H1 locs1 hP1 hD1 hS1 => by
    rw [hnar] at hP1 hD1
    exact kk H1 locs1 (wd_set h1 h2 h3 hK h7 hwa (Or.inr (Or.inl ⟨rfl, ec_upd ht hf⟩)) hP1 hD1) hS1
theorem s_alen (he : p.tables.exec = Jvm.exec) (hb : c.code = cc) {a q t : Nat} {vs : List MV} (hW : Wd D A s H ads h) (hq : ads[a]? = some q) (hc : h[a]? = some (t, vs)) (htt : t < 5) (hdg : decode cc pc = .ok (.arraylength, 1))
    (kk : W p l e R s m args below meth c H locs cells slots Q (F0 m (pc + 1) ls (.int (Int32.ofNat vs.length) :: rest))) : W p l e R s m args below meth c H locs cells slots Q (F0 m pc ls (.ref q :: rest)) := by
  obtain ⟨ws, tys, h1, h2, h3, hP, hD, hK, h7⟩ := hW
  obtain ⟨e0, hwa⟩ := wd_cell h1 h2 hq hc
  rcases h3 a _ _ hc hwa with ⟨_, cA, f, t0, hfe, ht, hf⟩ | ⟨_, cA, f, t0, hfe, ht, hf⟩ | ⟨_, cA, f, t0, hfe, ht, hf⟩ | ⟨h10, _⟩
  · simp only at hfe; subst hfe; exact va_alen he hb hK hP a t0 hwa ht rfl hdg kk
  · simp only at hfe; subst hfe; exact va_alen he hb hK hP a t0 hwa ht rfl hdg kk
  · simp only at hfe; subst hfe; exact va_alen he hb hK hP a t0 hwa ht rfl hdg kk
  · simp only at h10; omega
theorem s_new (he : p.tables.exec = Jvm.exec) (hb : c.code = cc) (hown : s.vm.findClass (mon own) = some m.cls) (hts : ∀ w ∈ lw_g, w.before args s = true) (hA : ∀ q, s.heap.size ≤ q → A q) {i ci : Nat} (hW : Wd D A s H ads h) (hS : va_S A s.heap H locs) (hf : mk2 mlN own i = some ci) (hcl : cells + 1 ≤ R.cells) (hsl : slots + (mty.getD ci []).length ≤ R.slots) (hdg : decode cc pc = .ok (.new i, 3))
    (kk : ∀ (H1 : Heap) (q : Nat), Wd D A s H1 (ads ++ [q]) (h ++ [(10 + ci, (mty.getD ci []).map mdef)]) → va_S A s.heap H1 locs → W p l e R s m args below meth c H1 locs (cells + 1) (slots + (mty.getD ci []).length) Q (F0 m (pc + 3) ls (.ref q :: rest))) : W p l e R s m args below meth c H locs cells slots Q (F0 m pc ls rest) := by
  obtain ⟨ws, tys, h1, h2, h3, hP, hD, hK, h7⟩ := hW
  obtain ⟨⟨rn, rT, rN⟩, hr, hlk⟩ := fn hf
  obtain ⟨c1, c2, c3, c4, c5, c6, c7⟩ := fc hr
  have hN : (mty.getD ci []).length = rN := c2
  refine va_new (D := D) (cl := mcl) (ci := ci) (fs := (mty.getD ci []).map defaultValue) (C := rn) (T := rT) (N := rN) he hb hts c1 (fun k => (mty.getD ci []).getD k .int) (fun k hk => (c3 k hk).1) hown (hts _ hlk) (hts _ c6) (hts _ c7) hK hP hD hS hA hr (fun j hj => ?_) hcl (by rw [← hN]; exact hsl) hdg fun q H1 hP1 hD1 hS1 => ?_
  · rw [← hN] at hj
    show defaultValue ((mty.getD ci []).getD j .int) = _
    generalize mty.getD ci [] = L at hj ⊢
    simp [vp_V, List.getD_eq_getElem?_getD, hj]
  · rw [← hN]
    exact kk H1 q (wd_push (ts := []) h1 h2 h3 (by simpa using hK) (by simpa using h7) (Or.inr (Or.inr (Or.inr ⟨Nat.le_add_right _ _, _, by simp, mdef_ok c5⟩))) hP1 hD1) hS1
theorem s_newi (he : p.tables.exec = Jvm.exec) (hb : c.code = cc) (hts : ∀ w ∈ lw_g, w.before args s = true) (hA : ∀ q, s.heap.size ≤ q → A q) {n : Int32} (hW : Wd D A s H ads h) (hS : va_S A s.heap H locs) (hn : ¬ n < 0) (hn2 : n.toNatClampNeg ≤ 100000) (hcl : cells + 1 ≤ R.cells) (hsl : slots + n.toNatClampNeg ≤ R.slots) (hdg : decode cc pc = .ok (.newarray .int, 2))
    (kk : ∀ (H1 : Heap) (q : Nat), Wd D A s H1 (ads ++ [q]) (h ++ [(0, List.replicate n.toNatClampNeg (.inl 0))]) → va_S A s.heap H1 locs → W p l e R s m args below meth c H1 locs (cells + 1) (slots + n.toNatClampNeg) Q (F0 m (pc + 2) ls (.ref q :: rest))) : W p l e R s m args below meth c H locs cells slots Q (F0 m pc ls (.int n :: rest)) := by
  obtain ⟨ws, tys, h1, h2, h3, hP, hD, hK, h7⟩ := hW
  refine va_newa (D := D) (cl := mcl) (atype := .int) (ty := .int) (a0 := (n.toNatClampNeg, .inl (fun _ => 0))) he hb (hts _ w_ai) rfl hK hP hD hS hA (fun cA => rfl) hn rfl (by show _ * 4 ≤ _; omega) hcl hsl hdg fun q cA H1 hK1 hP1 hD1 hS1 => ?_
  refine kk H1 q (wd_push (ts := [(cA, .int)]) h1 h2 h3 hK1 (fun k x hx => ?_) (Or.inl ⟨rfl, cA, fun _ => 0, tys.length, by simp, by simp, fun j v hj => ?_⟩) hP1 hD1) hS1
  · by_cases hk : k < tys.length
    · rw [List.getElem?_append_left hk] at hx; exact h7 k x hx
    · have : k = tys.length := by have := (List.getElem?_eq_some_iff.mp hx).1; simp at this; omega
      subst this; simp at hx; subst hx; trivial
  · simp only [List.getElem?_replicate] at hj
    split at hj
    · exact (Option.some.inj hj).symm
    · cases hj
theorem s_newz (he : p.tables.exec = Jvm.exec) (hb : c.code = cc) (hts : ∀ w ∈ lw_g, w.before args s = true) (hA : ∀ q, s.heap.size ≤ q → A q) {n : Int32} (hW : Wd D A s H ads h) (hS : va_S A s.heap H locs) (hn : ¬ n < 0) (hn2 : n.toNatClampNeg ≤ 100000) (hcl : cells + 1 ≤ R.cells) (hsl : slots + n.toNatClampNeg ≤ R.slots) (hdg : decode cc pc = .ok (.newarray .boolean, 2))
    (kk : ∀ (H1 : Heap) (q : Nat), Wd D A s H1 (ads ++ [q]) (h ++ [(1, List.replicate n.toNatClampNeg (.inl 0))]) → va_S A s.heap H1 locs → W p l e R s m args below meth c H1 locs (cells + 1) (slots + n.toNatClampNeg) Q (F0 m (pc + 2) ls (.ref q :: rest))) : W p l e R s m args below meth c H locs cells slots Q (F0 m pc ls (.int n :: rest)) := by
  obtain ⟨ws, tys, h1, h2, h3, hP, hD, hK, h7⟩ := hW
  refine va_newa (D := D) (cl := mcl) (atype := .boolean) (ty := .boolean) (a0 := (n.toNatClampNeg, .inl (fun _ => 0))) he hb (hts _ w_az) rfl hK hP hD hS hA (fun cA => rfl) hn rfl (by show _ * 1 ≤ _; omega) hcl hsl hdg fun q cA H1 hK1 hP1 hD1 hS1 => ?_
  refine kk H1 q (wd_push (ts := [(cA, .boolean)]) h1 h2 h3 hK1 (fun k x hx => ?_) (Or.inr (Or.inl ⟨rfl, cA, fun _ => 0, tys.length, by simp, by simp, fun j v hj => ?_⟩)) hP1 hD1) hS1
  · by_cases hk : k < tys.length
    · rw [List.getElem?_append_left hk] at hx; exact h7 k x hx
    · have : k = tys.length := by have := (List.getElem?_eq_some_iff.mp hx).1; simp at this; omega
      subst this; simp at hx; subst hx; trivial
  · simp only [List.getElem?_replicate] at hj
    split at hj
    · exact (Option.some.inj hj).symm
    · cases hj
end S2
