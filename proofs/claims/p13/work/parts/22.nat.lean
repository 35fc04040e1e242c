/-! Object's constructor, arraycopy, min, clone, the cast behind it -/
theorem Xc_warm {s U : State} (hW : s.WarmedH U.vm) (h : Xc s) : Xc U := va_Nw.warmC hW h
theorem Xc_same {u U : State} (he : u.vm = U.vm) (h : Xc u) : Xc U := va_Nw.same rfl he h
theorem ec_cpy {tys : List (ClassId × FieldType)} {ty : FieldType} {us vs : List MV} {cB : ClassId} {f g : Nat → Int32} {t1 sp dp n : Nat} (ht : tys[t1]? = some (cB, ty)) (hf : ∀ (j : Nat) (v : MV), us[j]? = some v → v = .inl (f j)) (hg : ∀ (j : Nat) (v : MV), vs[j]? = some v → v = .inl (g j)) (h1 : sp + n ≤ us.length) (h2 : dp + n ≤ vs.length) :
    ecI tys ty (vs.take dp ++ ((us.drop sp).take n ++ vs.drop (dp + n))) (.inl (cB, vs.length, .inl (va_cpy f g sp dp n))) := by
  refine ⟨cB, va_cpy f g sp dp n, t1, ?_, ht, fun j v hj => ?_⟩
  · have : (vs.take dp ++ ((us.drop sp).take n ++ vs.drop (dp + n))).length = vs.length := by simp only [List.length_append, List.length_take, List.length_drop]; omega
    rw [this]
  · by_cases ha : j < dp
    · rw [List.getElem?_append_left (by simp; omega), List.getElem?_take_of_lt ha] at hj
      rw [pk_cpy_out (Or.inl ha)]
      exact hg j v hj
    · rw [List.getElem?_append_right (by simp; omega)] at hj
      have hl : (vs.take dp).length = dp := by simp; omega
      rw [hl] at hj
      by_cases hb : j < dp + n
      · rw [List.getElem?_append_left (by simp; omega), List.getElem?_take_of_lt (by omega), List.getElem?_drop] at hj
        rw [pk_cpy_in (by omega) hb]
        exact hf _ v hj
      · rw [List.getElem?_append_right (by simp; omega)] at hj
        have hl2 : ((us.drop sp).take n).length = n := by simp; omega
        rw [hl2, List.getElem?_drop] at hj
        rw [pk_cpy_out (Or.inr (by omega))]
        have : dp + n + (j - dp - n) = j := by omega
        rw [this] at hj
        exact hg j v hj
section S5
variable {p : Program} {l : Launch} {e : Env} {R : Room} {s : State} {m : MethodId} {args : Array Value} {below : List Frame} {meth : Method} {c : Code} {H : Heap} {locs : List Loc} {cells slots : Nat} {Q : State → Prop} {cc : ByteArray} {pc : Nat} {ls : Array Slot} {ads : List Nat} {D : va_G} {A : Nat → Prop} {own : Nat} {h : List MC}
set_option maxHeartbeats 4000000 in
theorem sim_nat {mL d : Nat} (he : p.tables.exec = Jvm.exec) (hb : c.code = cc) (hml : c.maxLocals = mL) (hown : s.vm.findClass (mon own) = some m.cls) (hts : ∀ w ∈ lw_g, w.before args s = true) (hXc : Xc s) (hA : ∀ q, s.heap.size ≤ q → A q) (hfr : d ≤ R.frames) (hlo : 41 * d ≤ R.locals)
    {ml : List (Option MV)} {st : List MV} {st0 : List Value} {ig : Instr} {len : Nat} {q : MS} (hdg : decode cc pc = .ok (ig, len)) (hps : mnat own d ig len pc ml st h = some q) (hW : Wd D A s H ads h) (hS : va_S A s.heap H locs) (hL : Lr ads ml ls mL) (hst : vrs ads st st0)
    (hrc : q.2.2.2.length + cells ≤ h.length + R.cells) (hrs : mslots q.2.2.2 + slots ≤ mslots h + R.slots)
    (kk : ∀ (H' : Heap) (locs' : List Loc) (ls' : Array Slot) (st1 : List Value) (ads' : List Nat) (c' s' : Nat), (∃ l, ads' = ads ++ l) → Wd D A s H' ads' q.2.2.2 → va_S A s.heap H' locs' → Lr ads' q.2.1 ls' mL → vrs ads' q.2.2.1 st1 → c' + h.length = cells + q.2.2.2.length → s' + mslots h = slots + mslots q.2.2.2 → W p l e R s m args below meth c H' locs' c' s' Q (F0 m q.1 ls' st1)) :
    W p l e R s m args below meth c H locs cells slots Q (F0 m pc ls st0) := by
  have hsz : c.maxLocals = ls.size := hml.trans hL.2.1.symm
  unfold mnat mnatG at hps
  split at hps
  · next i =>
    split at hps
    · next M b rest hk =>
      split at hps
      · next hl =>
        obtain ⟨rfl, hd, hrl⟩ := hl
        cases hps
        obtain ⟨qb, r, rfl, hqb, hr⟩ := vrs_r hst
        obtain ⟨pp, hpp⟩ := fl hk
        simp only [ckL, if_true] at hpp
        have hcat := vrs_cat hr
        refine W.objInit he hb hown (hts _ (wat_mem hpp)) (hts _ w_oin) (hts _ w_oco) rfl hsz.symm rfl hdg (by omega) ?_ (W.eq (g2 := F0 m (pc + 3) ls r) rfl (kk H locs ls _ ads cells slots ⟨[], by simp⟩ hW hS hL hr rfl rfl))
        show 2 * 0 + (r.map fun v => v.category).sum + 12 ≤ R.locals
        rw [hcat]
        omega
      · cases hps
    · cases hps
  · next i =>
    split at hps
    · next M n dp b sp a rest hk =>
      split at hps
      · next us vs hca hcb =>
        split at hps
        · next hl =>
          obtain ⟨rfl, hd, hrl, hsp, hdp, hn, hu, hv⟩ := hl
          cases hps
          obtain ⟨r1, rfl, hr1⟩ := vrs_i hst
          obtain ⟨r2, rfl, hr2⟩ := vrs_i hr1
          obtain ⟨qb, r3, rfl, hqb, hr3⟩ := vrs_r hr2
          obtain ⟨r4, rfl, hr4⟩ := vrs_i hr3
          obtain ⟨qa, r5, rfl, hqa, hr5⟩ := vrs_r hr4
          obtain ⟨pp, hpp⟩ := fl hk
          simp only [ckL, if_true, if_false, show ¬ (4 = 3) by decide] at hpp
          obtain ⟨ws, tys, h1, h2, h3, hP, hD, hK, h7⟩ := hW
          obtain ⟨ea, hwa⟩ := wd_cell h1 h2 hqa hca
          obtain ⟨eb, hwb⟩ := wd_cell h1 h2 hqb hcb
          obtain ⟨cA, f, t0, hfe, ht, hf⟩ := ec_int (h3 a _ _ hca hwa)
          obtain ⟨cB, g, t1, hge, ht1, hg⟩ := ec_int (h3 b _ _ hcb hwb)
          simp only at hfe hge
          subst hfe
          subst hge
          have hcat := vrs_cat hr5
          refine va_copyi he hb hsz hown (hts _ (wat_mem hpp)) (hts _ w_acn) (hts _ w_acs) (hts _ w_aci) hK hP hD hS a b t0 t1 hwa hwb ht ht1 rfl hsp hdp hn hu hv (fun i _ => rfl) (by omega) ?_ hdg fun H1 locs1 hP1 hD1 hS1 => ?_
          · rw [hcat]
            have : nativeFrameWords "java/lang/System" "arraycopy" 5 ≤ 20 := by decide
            omega
          · exact kk H1 locs1 ls _ ads cells slots ⟨[], by simp⟩ (wd_set h1 h2 h3 hK h7 hwb (Or.inl ⟨rfl, ec_cpy ht1 hf hg hu hv⟩) hP1 hD1) hS1 hL hr5 (by simp) (by simp only; rw [mslots_set hcb (by simp only [List.length_append, List.length_take, List.length_drop]; omega)])
        · cases hps
      · cases hps
    · next M y x rest hk =>
      split at hps
      · next hl =>
        obtain ⟨rfl, hd, hrl⟩ := hl
        cases hps
        obtain ⟨r1, rfl, hr1⟩ := vrs_i hst
        obtain ⟨r2, rfl, hr2⟩ := vrs_i hr1
        obtain ⟨pp, hpp⟩ := fl hk
        simp only [ckL, if_true, if_false, show ¬ (7 = 3) by decide, show ¬ (7 = 4) by decide] at hpp
        have hcat := vrs_cat hr2
        simp only at hrc hrs
        refine va_mmin he hb hsz hown (hts _ (wat_mem hpp)) (hts _ w_mis) (hts _ w_mii) (hts _ w_mic) (by omega) ?_ (by omega) (by omega) hdg (kk H locs ls _ ads cells slots ⟨[], by simp⟩ hW hS hL ⟨rfl, hr2⟩ rfl rfl)
        rw [hcat]
        omega
      · cases hps
    · cases hps
  · next i =>
    split at hps
    · next M a rest hk =>
      split at hps
      · next vs hca =>
        split at hps
        · next hl =>
          obtain ⟨rfl, hd, hrl⟩ := hl
          cases hps
          have hal : ads.length = h.length := by obtain ⟨ws, tys, h1, h2, -⟩ := hW; rw [← h1, h2]; simp
          obtain ⟨qa, r, rfl, hqa, hr⟩ := vrs_r hst
          obtain ⟨pp, hpp⟩ := fl hk
          simp only [ckL, if_true, if_false, show ¬ (8 = 3) by decide, show ¬ (8 = 4) by decide, show ¬ (8 = 7) by decide] at hpp
          obtain ⟨ws, tys, h1, h2, h3, hP, hD, hK, h7⟩ := hW
          obtain ⟨ea, hwa⟩ := wd_cell h1 h2 hqa hca
          obtain ⟨cA, f, t0, hfe, ht, hf⟩ := ec_int (h3 a _ _ hca hwa)
          simp only at hfe
          subst hfe
          have hcat := vrs_cat hr
          simp only [List.length_append, List.length_cons, List.length_nil] at hrc
          simp only [mslots_app] at hrs
          refine va_clone he hb hsz hown (hts _ (wat_mem hpp)) (hts _ w_cls) (hts _ w_cln) (hts _ w_cli) (hts _ w_cle) hXc hK hP hD hS hA a t0 hwa ht (hK.2 t0 _ ht).2 (fun i v hv => ?_) (by omega) ?_ (by omega) (by simp only; omega) hdg fun qn H1 hK1 hP1 hD1 hS1 => ?_
          · rw [vp_cell_i] at hv
            by_cases hi : i < vs.length
            · rw [arrV_read _ _ hi] at hv; cases hv; rfl
            · rw [Array.getElem?_eq_none (by rw [arrV_size]; omega)] at hv; cases hv
          · rw [hcat]; omega
          · refine kk H1 locs ls _ (ads ++ [qn]) _ _ ⟨[qn], rfl⟩ (wd_push (ts := [(cA, .int)]) h1 h2 h3 hK1 (fun k x hx => ?_) (Or.inl ⟨rfl, cA, f, tys.length, rfl, by simp, hf⟩) hP1 hD1) hS1 (Lr_mono hL) ⟨⟨qn, by rw [← hal]; simp, rfl⟩, vrs_mono hr⟩ (by simp; omega) (by simp [mslots_app]; omega)
            by_cases hk : k < tys.length
            · rw [List.getElem?_append_left hk] at hx; exact h7 k x hx
            · have : k = tys.length := by have := (List.getElem?_eq_some_iff.mp hx).1; simp at this; omega
              subst this; simp at hx; subst hx; trivial
        · cases hps
      · cases hps
    · cases hps
  · next i =>
    split at hps
    · next a rest hk =>
      split at hps
      · next vs hca =>
        split at hps
        · next hl =>
          subst hl
          cases hps
          obtain ⟨qa, r, rfl, hqa, hr⟩ := vrs_r hst
          have hW' := hW
          obtain ⟨ws, tys, h1, h2, h3, hP, hD, hK, h7⟩ := hW
          obtain ⟨ea, hwa⟩ := wd_cell h1 h2 hqa hca
          obtain ⟨cA, f, t0, hfe, ht, hf⟩ := ec_int (h3 a _ _ hca hwa)
          simp only at hfe
          subst hfe
          have hlk := fa hk (Or.inl rfl)
          simp only [if_true] at hlk
          exact va_castA he hb hown (hts _ hlk) hP a hwa (hK.2 t0 _ ht).2 hdg (kk H locs ls _ ads cells slots ⟨[], by simp⟩ hW' hS hL ⟨⟨qa, hqa, rfl⟩, hr⟩ rfl rfl)
        · cases hps
      · cases hps
    · cases hps
  · cases hps
end S5
