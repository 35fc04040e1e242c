/-! ANY INSTRUCTION THAT NEITHER CALLS NOR RETURNS -/
theorem mgrid_len (n0 N K : Nat) : (mgrid n0 N K).length = N + 1 := by simp [mgrid]
theorem mslots_rep (N : Nat) (c : MC) : mslots (List.replicate N c) = N * c.2.length := by
  induction N with
  | zero => simp [mslots]
  | succ N ih => rw [List.replicate_succ]; simp only [mslots, ih]; rw [Nat.succ_mul]; omega
theorem mgrid_slots (n0 N K : Nat) : mslots (mgrid n0 N K) = N + N * K := by simp [mgrid, mslots, mslots_rep]
section S4
variable {p : Program} {l : Launch} {e : Env} {R : Room} {s : State} {m : MethodId} {args : Array Value} {below : List Frame} {meth : Method} {c : Code} {H : Heap} {locs : List Loc} {cells slots : Nat} {Q : State → Prop} {cc : ByteArray} {pc : Nat} {ls : Array Slot} {ads : List Nat} {D : va_G} {A : Nat → Prop} {own : Nat} {h : List MC}
set_option maxHeartbeats 4000000 in
theorem sim_ps {mL : Nat} {ini : Bool} (he : p.tables.exec = Jvm.exec) (hb : c.code = cc) (hown : s.vm.findClass (mon own) = some m.cls) (hts : ∀ w ∈ lw_g, w.before args s = true) (hini : ini = true → meth.name = "<init>") (hXf : Xf s) (hA : ∀ q, s.heap.size ≤ q → A q)
    {ml : List (Option MV)} {st : List MV} {st0 : List Value} {ig : Instr} {len : Nat} {q : MS} (hdg : decode cc pc = .ok (ig, len)) (hps : mps own ini ig len pc ml st h = some q) (hW : Wd D A s H ads h) (hS : va_S A s.heap H locs) (hL : Lr ads ml ls mL) (hst : vrs ads st st0)
    (hrc : q.2.2.2.length + cells ≤ h.length + R.cells) (hrs : mslots q.2.2.2 + slots ≤ mslots h + R.slots)
    (kk : ∀ (H' : Heap) (locs' : List Loc) (ls' : Array Slot) (st1 : List Value) (ads' : List Nat) (c' s' : Nat), (∃ l, ads' = ads ++ l) → Wd D A s H' ads' q.2.2.2 → va_S A s.heap H' locs' → Lr ads' q.2.1 ls' mL → vrs ads' q.2.2.1 st1 → c' + h.length = cells + q.2.2.2.length → s' + mslots h = slots + mslots q.2.2.2 → W p l e R s m args below meth c H' locs' c' s' Q (F0 m q.1 ls' st1)) :
    W p l e R s m args below meth c H locs cells slots Q (F0 m pc ls st0) := by
  have hkq : ∀ (ls' : Array Slot) (st1 : List Value), q.2.2.2 = h → Lr ads q.2.1 ls' mL → vrs ads q.2.2.1 st1 → W p l e R s m args below meth c H locs cells slots Q (F0 m q.1 ls' st1) := fun ls' st1 hh h1 h2 => kk H locs ls' st1 ads cells slots ⟨[], by simp⟩ (by rw [hh]; exact hW) hS h1 h2 (by rw [hh]) (by rw [hh])
  have hks : ∀ (H' : Heap) (locs' : List Loc) (st1 : List Value) (a : Nat) (cc0 cc1 : MC), h[a]? = some cc0 → cc1.2.length = cc0.2.length → q.2.2.2 = h.set a cc1 → q.2.1 = ml → Wd D A s H' ads (h.set a cc1) → va_S A s.heap H' locs' → vrs ads q.2.2.1 st1 → W p l e R s m args below meth c H' locs' cells slots Q (F0 m q.1 ls st1) := fun H' locs' st1 a cc0 cc1 h0 hl hh hm h1 h2 h3 => kk H' locs' ls st1 ads cells slots ⟨[], by simp⟩ (by rw [hh]; exact h1) h2 (by rw [hm]; exact hL) h3 (by rw [hh]; simp) (by rw [hh, mslots_set h0 hl])
  cases ig
  case aconst_null =>
    simp only [mps, mpsG, k_aconst_null, k_iconst, k_bipush, k_sipush, k_ldc, k_iload, k_iload_n, k_aload, k_aload_n, k_istore, k_istore_n, k_astore, k_astore_n, k_iinc, k_iadd, k_isub, k_imul, k_iand, k_ior, k_ishl, k_ishr, k_dup, k_pop, k_goto, k_ifCond, k_if_icmp, k_ifnull, k_ifnonnull, k_getfield, k_putfield, k_iaload, k_baload, k_aaload, k_iastore, k_bastore, k_aastore, k_arraylength, k_new, k_newarray, k_anewarray, k_multianewarray] at hps
    split at hps
    · next hl => subst hl; cases hps; exact lv_null he hb hdg (hkq ls _ rfl hL ⟨rfl, hst⟩)
    · cases hps
  case iconst i =>
    simp only [mps, mpsG, k_aconst_null, k_iconst, k_bipush, k_sipush, k_ldc, k_iload, k_iload_n, k_aload, k_aload_n, k_istore, k_istore_n, k_astore, k_astore_n, k_iinc, k_iadd, k_isub, k_imul, k_iand, k_ior, k_ishl, k_ishr, k_dup, k_pop, k_goto, k_ifCond, k_if_icmp, k_ifnull, k_ifnonnull, k_getfield, k_putfield, k_iaload, k_baload, k_aaload, k_iastore, k_bastore, k_aastore, k_arraylength, k_new, k_newarray, k_anewarray, k_multianewarray] at hps
    split at hps
    · next hl => subst hl; cases hps; exact lv_iconst he hb hdg rfl (hkq ls _ rfl hL ⟨rfl, hst⟩)
    · cases hps
  case bipush i =>
    simp only [mps, mpsG, k_aconst_null, k_iconst, k_bipush, k_sipush, k_ldc, k_iload, k_iload_n, k_aload, k_aload_n, k_istore, k_istore_n, k_astore, k_astore_n, k_iinc, k_iadd, k_isub, k_imul, k_iand, k_ior, k_ishl, k_ishr, k_dup, k_pop, k_goto, k_ifCond, k_if_icmp, k_ifnull, k_ifnonnull, k_getfield, k_putfield, k_iaload, k_baload, k_aaload, k_iastore, k_bastore, k_aastore, k_arraylength, k_new, k_newarray, k_anewarray, k_multianewarray] at hps
    split at hps
    · next hl => subst hl; cases hps; exact lv_bipush he hb hdg rfl (hkq ls _ rfl hL ⟨rfl, hst⟩)
    · cases hps
  case sipush i =>
    simp only [mps, mpsG, k_aconst_null, k_iconst, k_bipush, k_sipush, k_ldc, k_iload, k_iload_n, k_aload, k_aload_n, k_istore, k_istore_n, k_astore, k_astore_n, k_iinc, k_iadd, k_isub, k_imul, k_iand, k_ior, k_ishl, k_ishr, k_dup, k_pop, k_goto, k_ifCond, k_if_icmp, k_ifnull, k_ifnonnull, k_getfield, k_putfield, k_iaload, k_baload, k_aaload, k_iastore, k_bastore, k_aastore, k_arraylength, k_new, k_newarray, k_anewarray, k_multianewarray] at hps
    split at hps
    · next hl => subst hl; cases hps; exact lv_sipush he hb hdg rfl (hkq ls _ rfl hL ⟨rfl, hst⟩)
    · cases hps
  case ldc i =>
    simp only [mps, mpsG, k_aconst_null, k_iconst, k_bipush, k_sipush, k_ldc, k_iload, k_iload_n, k_aload, k_aload_n, k_istore, k_istore_n, k_astore, k_astore_n, k_iinc, k_iadd, k_isub, k_imul, k_iand, k_ior, k_ishl, k_ishr, k_dup, k_pop, k_goto, k_ifCond, k_if_icmp, k_ifnull, k_ifnonnull, k_getfield, k_putfield, k_iaload, k_baload, k_aaload, k_iastore, k_bastore, k_aastore, k_arraylength, k_new, k_newarray, k_anewarray, k_multianewarray] at hps
    split at hps
    · next hl =>
      subst hl
      obtain ⟨v, hv, rfl⟩ := Option.map_eq_some_iff.mp hps
      exact lv_ldc he hb hown (hts _ (fk hv)) hdg (hkq ls _ rfl hL ⟨rfl, hst⟩)
    · cases hps
  case iload k =>
    simp only [mps, mpsG, k_aconst_null, k_iconst, k_bipush, k_sipush, k_ldc, k_iload, k_iload_n, k_aload, k_aload_n, k_istore, k_istore_n, k_astore, k_astore_n, k_iinc, k_iadd, k_isub, k_imul, k_iand, k_ior, k_ishl, k_ishr, k_dup, k_pop, k_goto, k_ifCond, k_if_icmp, k_ifnull, k_ifnonnull, k_getfield, k_putfield, k_iaload, k_baload, k_aaload, k_iastore, k_bastore, k_aastore, k_arraylength, k_new, k_newarray, k_anewarray, k_multianewarray] at hps
    split at hps
    · next hl =>
      subst hl
      obtain ⟨x, hx, rfl⟩ := Option.map_eq_some_iff.mp hps
      exact lv_iload he hb hdg (mint_of hL hx) (hkq ls _ rfl hL ⟨rfl, hst⟩)
    · cases hps
  case iload_n k =>
    simp only [mps, mpsG, k_aconst_null, k_iconst, k_bipush, k_sipush, k_ldc, k_iload, k_iload_n, k_aload, k_aload_n, k_istore, k_istore_n, k_astore, k_astore_n, k_iinc, k_iadd, k_isub, k_imul, k_iand, k_ior, k_ishl, k_ishr, k_dup, k_pop, k_goto, k_ifCond, k_if_icmp, k_ifnull, k_ifnonnull, k_getfield, k_putfield, k_iaload, k_baload, k_aaload, k_iastore, k_bastore, k_aastore, k_arraylength, k_new, k_newarray, k_anewarray, k_multianewarray] at hps
    split at hps
    · next hl =>
      subst hl
      obtain ⟨x, hx, rfl⟩ := Option.map_eq_some_iff.mp hps
      exact lv_iload_n he hb hdg rfl (mint_of hL hx) (hkq ls _ rfl hL ⟨rfl, hst⟩)
    · cases hps
  case aload k =>
    simp only [mps, mpsG, k_aconst_null, k_iconst, k_bipush, k_sipush, k_ldc, k_iload, k_iload_n, k_aload, k_aload_n, k_istore, k_istore_n, k_astore, k_astore_n, k_iinc, k_iadd, k_isub, k_imul, k_iand, k_ior, k_ishl, k_ishr, k_dup, k_pop, k_goto, k_ifCond, k_if_icmp, k_ifnull, k_ifnonnull, k_getfield, k_putfield, k_iaload, k_baload, k_aaload, k_iastore, k_bastore, k_aastore, k_arraylength, k_new, k_newarray, k_anewarray, k_multianewarray] at hps
    split at hps
    · next hl =>
      subst hl
      obtain ⟨x, hx, rfl⟩ := Option.map_eq_some_iff.mp hps
      obtain ⟨z, hz, hlz⟩ := mref_of hL hx
      rcases vr_nr hz with hn | ⟨a, hn⟩
      · subst hn; exact lv_aloadN he hb hdg hlz (hkq ls _ rfl hL ⟨hz, hst⟩)
      · subst hn; exact lv_aload he hb hdg hlz (hkq ls _ rfl hL ⟨hz, hst⟩)
    · cases hps
  case aload_n k =>
    simp only [mps, mpsG, k_aconst_null, k_iconst, k_bipush, k_sipush, k_ldc, k_iload, k_iload_n, k_aload, k_aload_n, k_istore, k_istore_n, k_astore, k_astore_n, k_iinc, k_iadd, k_isub, k_imul, k_iand, k_ior, k_ishl, k_ishr, k_dup, k_pop, k_goto, k_ifCond, k_if_icmp, k_ifnull, k_ifnonnull, k_getfield, k_putfield, k_iaload, k_baload, k_aaload, k_iastore, k_bastore, k_aastore, k_arraylength, k_new, k_newarray, k_anewarray, k_multianewarray] at hps
    split at hps
    · next hl =>
      subst hl
      obtain ⟨x, hx, rfl⟩ := Option.map_eq_some_iff.mp hps
      obtain ⟨z, hz, hlz⟩ := mref_of hL hx
      rcases vr_nr hz with hn | ⟨a, hn⟩
      · subst hn; exact lv_aload_nN he hb hdg rfl hlz (hkq ls _ rfl hL ⟨hz, hst⟩)
      · subst hn; exact lv_aload_n he hb hdg rfl hlz (hkq ls _ rfl hL ⟨hz, hst⟩)
    · cases hps
  case istore k =>
    simp only [mps, mpsG, k_aconst_null, k_iconst, k_bipush, k_sipush, k_ldc, k_iload, k_iload_n, k_aload, k_aload_n, k_istore, k_istore_n, k_astore, k_astore_n, k_iinc, k_iadd, k_isub, k_imul, k_iand, k_ior, k_ishl, k_ishr, k_dup, k_pop, k_goto, k_ifCond, k_if_icmp, k_ifnull, k_ifnonnull, k_getfield, k_putfield, k_iaload, k_baload, k_aaload, k_iastore, k_bastore, k_aastore, k_arraylength, k_new, k_newarray, k_anewarray, k_multianewarray] at hps
    split at hps
    · next x st =>
      split at hps
      · next hl =>
        obtain ⟨rfl, hk⟩ := hl
        cases hps
        obtain ⟨r1, rfl, hr1⟩ := vrs_i hst
        exact lv_istore he hb hdg (lvA_has hL.2.1 hL.2.2.1) (by rw [← hL.1]; exact hk) rfl fun ls' hl' => hkq ls' _ rfl (Lr_store hL rfl hl') hr1
      · cases hps
    · cases hps
  case istore_n k =>
    simp only [mps, mpsG, k_aconst_null, k_iconst, k_bipush, k_sipush, k_ldc, k_iload, k_iload_n, k_aload, k_aload_n, k_istore, k_istore_n, k_astore, k_astore_n, k_iinc, k_iadd, k_isub, k_imul, k_iand, k_ior, k_ishl, k_ishr, k_dup, k_pop, k_goto, k_ifCond, k_if_icmp, k_ifnull, k_ifnonnull, k_getfield, k_putfield, k_iaload, k_baload, k_aaload, k_iastore, k_bastore, k_aastore, k_arraylength, k_new, k_newarray, k_anewarray, k_multianewarray] at hps
    split at hps
    · next x st =>
      split at hps
      · next hl =>
        obtain ⟨rfl, hk⟩ := hl
        cases hps
        obtain ⟨r1, rfl, hr1⟩ := vrs_i hst
        exact lv_istore_n he hb hdg rfl (lvA_has hL.2.1 hL.2.2.1) (by rw [← hL.1]; exact hk) rfl fun ls' hl' => hkq ls' _ rfl (Lr_store hL rfl hl') hr1
      · cases hps
    · cases hps
  case astore k =>
    simp only [mps, mpsG, k_aconst_null, k_iconst, k_bipush, k_sipush, k_ldc, k_iload, k_iload_n, k_aload, k_aload_n, k_istore, k_istore_n, k_astore, k_astore_n, k_iinc, k_iadd, k_isub, k_imul, k_iand, k_ior, k_ishl, k_ishr, k_dup, k_pop, k_goto, k_ifCond, k_if_icmp, k_ifnull, k_ifnonnull, k_getfield, k_putfield, k_iaload, k_baload, k_aaload, k_iastore, k_bastore, k_aastore, k_arraylength, k_new, k_newarray, k_anewarray, k_multianewarray] at hps
    split at hps
    · next x st =>
      split at hps
      · next hl =>
        obtain ⟨rfl, hk⟩ := hl
        cases hps
        obtain ⟨z, r, rfl, hz, hr⟩ := vrs_v hst
        rcases vr_nr hz with hn | ⟨a, hn⟩
        · subst hn; exact lv_astoreN he hb hdg (lvA_has hL.2.1 hL.2.2.1) (by rw [← hL.1]; exact hk) rfl fun ls' hl' => hkq ls' _ rfl (Lr_store hL hz hl') hr
        · subst hn; exact lv_astore he hb hdg (lvA_has hL.2.1 hL.2.2.1) (by rw [← hL.1]; exact hk) rfl fun ls' hl' => hkq ls' _ rfl (Lr_store hL hz hl') hr
      · cases hps
    · cases hps
  case astore_n k =>
    simp only [mps, mpsG, k_aconst_null, k_iconst, k_bipush, k_sipush, k_ldc, k_iload, k_iload_n, k_aload, k_aload_n, k_istore, k_istore_n, k_astore, k_astore_n, k_iinc, k_iadd, k_isub, k_imul, k_iand, k_ior, k_ishl, k_ishr, k_dup, k_pop, k_goto, k_ifCond, k_if_icmp, k_ifnull, k_ifnonnull, k_getfield, k_putfield, k_iaload, k_baload, k_aaload, k_iastore, k_bastore, k_aastore, k_arraylength, k_new, k_newarray, k_anewarray, k_multianewarray] at hps
    split at hps
    · next x st =>
      split at hps
      · next hl =>
        obtain ⟨rfl, hk⟩ := hl
        cases hps
        obtain ⟨z, r, rfl, hz, hr⟩ := vrs_v hst
        rcases vr_nr hz with hn | ⟨a, hn⟩
        · subst hn; exact lv_astore_nN he hb hdg rfl (lvA_has hL.2.1 hL.2.2.1) (by rw [← hL.1]; exact hk) rfl fun ls' hl' => hkq ls' _ rfl (Lr_store hL hz hl') hr
        · subst hn; exact lv_astore_n he hb hdg rfl (lvA_has hL.2.1 hL.2.2.1) (by rw [← hL.1]; exact hk) rfl fun ls' hl' => hkq ls' _ rfl (Lr_store hL hz hl') hr
      · cases hps
    · cases hps
  case iinc k n =>
    simp only [mps, mpsG, k_aconst_null, k_iconst, k_bipush, k_sipush, k_ldc, k_iload, k_iload_n, k_aload, k_aload_n, k_istore, k_istore_n, k_astore, k_astore_n, k_iinc, k_iadd, k_isub, k_imul, k_iand, k_ior, k_ishl, k_ishr, k_dup, k_pop, k_goto, k_ifCond, k_if_icmp, k_ifnull, k_ifnonnull, k_getfield, k_putfield, k_iaload, k_baload, k_aaload, k_iastore, k_bastore, k_aastore, k_arraylength, k_new, k_newarray, k_anewarray, k_multianewarray] at hps
    split at hps
    · next hl =>
      obtain ⟨rfl, hk⟩ := hl
      obtain ⟨x, hx, rfl⟩ := Option.map_eq_some_iff.mp hps
      have hm := lvA_mem (mint_of hL hx)
      obtain ⟨j, hj⟩ := List.getElem?_of_mem hm
      exact lv_iinc he hb hdg (lvA_has hL.2.1 hL.2.2.1) hj rfl (by rw [← hL.1]; exact hk) rfl fun ls' hl' => hkq ls' _ rfl (Lr_store hL rfl hl') hst
    · cases hps
  case iadd =>
    simp only [mps, mpsG, k_aconst_null, k_iconst, k_bipush, k_sipush, k_ldc, k_iload, k_iload_n, k_aload, k_aload_n, k_istore, k_istore_n, k_astore, k_astore_n, k_iinc, k_iadd, k_isub, k_imul, k_iand, k_ior, k_ishl, k_ishr, k_dup, k_pop, k_goto, k_ifCond, k_if_icmp, k_ifnull, k_ifnonnull, k_getfield, k_putfield, k_iaload, k_baload, k_aaload, k_iastore, k_bastore, k_aastore, k_arraylength, k_new, k_newarray, k_anewarray, k_multianewarray] at hps
    split at hps
    · next y x st =>
      split at hps
      · next hl => subst hl; cases hps; obtain ⟨r1, rfl, hr1⟩ := vrs_i hst; obtain ⟨r2, rfl, hr2⟩ := vrs_i hr1; exact lv_iadd he hb hdg (hkq ls _ rfl hL ⟨rfl, hr2⟩)
      · cases hps
    · cases hps
  case isub =>
    simp only [mps, mpsG, k_aconst_null, k_iconst, k_bipush, k_sipush, k_ldc, k_iload, k_iload_n, k_aload, k_aload_n, k_istore, k_istore_n, k_astore, k_astore_n, k_iinc, k_iadd, k_isub, k_imul, k_iand, k_ior, k_ishl, k_ishr, k_dup, k_pop, k_goto, k_ifCond, k_if_icmp, k_ifnull, k_ifnonnull, k_getfield, k_putfield, k_iaload, k_baload, k_aaload, k_iastore, k_bastore, k_aastore, k_arraylength, k_new, k_newarray, k_anewarray, k_multianewarray] at hps
    split at hps
    · next y x st =>
      split at hps
      · next hl => subst hl; cases hps; obtain ⟨r1, rfl, hr1⟩ := vrs_i hst; obtain ⟨r2, rfl, hr2⟩ := vrs_i hr1; exact lv_isub he hb hdg (hkq ls _ rfl hL ⟨rfl, hr2⟩)
      · cases hps
    · cases hps
  case imul =>
    simp only [mps, mpsG, k_aconst_null, k_iconst, k_bipush, k_sipush, k_ldc, k_iload, k_iload_n, k_aload, k_aload_n, k_istore, k_istore_n, k_astore, k_astore_n, k_iinc, k_iadd, k_isub, k_imul, k_iand, k_ior, k_ishl, k_ishr, k_dup, k_pop, k_goto, k_ifCond, k_if_icmp, k_ifnull, k_ifnonnull, k_getfield, k_putfield, k_iaload, k_baload, k_aaload, k_iastore, k_bastore, k_aastore, k_arraylength, k_new, k_newarray, k_anewarray, k_multianewarray] at hps
    split at hps
    · next y x st =>
      split at hps
      · next hl => subst hl; cases hps; obtain ⟨r1, rfl, hr1⟩ := vrs_i hst; obtain ⟨r2, rfl, hr2⟩ := vrs_i hr1; exact lv_imul he hb hdg (hkq ls _ rfl hL ⟨rfl, hr2⟩)
      · cases hps
    · cases hps
  case iand =>
    simp only [mps, mpsG, k_aconst_null, k_iconst, k_bipush, k_sipush, k_ldc, k_iload, k_iload_n, k_aload, k_aload_n, k_istore, k_istore_n, k_astore, k_astore_n, k_iinc, k_iadd, k_isub, k_imul, k_iand, k_ior, k_ishl, k_ishr, k_dup, k_pop, k_goto, k_ifCond, k_if_icmp, k_ifnull, k_ifnonnull, k_getfield, k_putfield, k_iaload, k_baload, k_aaload, k_iastore, k_bastore, k_aastore, k_arraylength, k_new, k_newarray, k_anewarray, k_multianewarray] at hps
    split at hps
    · next y x st =>
      split at hps
      · next hl => subst hl; cases hps; obtain ⟨r1, rfl, hr1⟩ := vrs_i hst; obtain ⟨r2, rfl, hr2⟩ := vrs_i hr1; exact lv_iand he hb hdg (hkq ls _ rfl hL ⟨rfl, hr2⟩)
      · cases hps
    · cases hps
  case ior =>
    simp only [mps, mpsG, k_aconst_null, k_iconst, k_bipush, k_sipush, k_ldc, k_iload, k_iload_n, k_aload, k_aload_n, k_istore, k_istore_n, k_astore, k_astore_n, k_iinc, k_iadd, k_isub, k_imul, k_iand, k_ior, k_ishl, k_ishr, k_dup, k_pop, k_goto, k_ifCond, k_if_icmp, k_ifnull, k_ifnonnull, k_getfield, k_putfield, k_iaload, k_baload, k_aaload, k_iastore, k_bastore, k_aastore, k_arraylength, k_new, k_newarray, k_anewarray, k_multianewarray] at hps
    split at hps
    · next y x st =>
      split at hps
      · next hl => subst hl; cases hps; obtain ⟨r1, rfl, hr1⟩ := vrs_i hst; obtain ⟨r2, rfl, hr2⟩ := vrs_i hr1; exact lv_ior he hb hdg (hkq ls _ rfl hL ⟨rfl, hr2⟩)
      · cases hps
    · cases hps
  case ishl =>
    simp only [mps, mpsG, k_aconst_null, k_iconst, k_bipush, k_sipush, k_ldc, k_iload, k_iload_n, k_aload, k_aload_n, k_istore, k_istore_n, k_astore, k_astore_n, k_iinc, k_iadd, k_isub, k_imul, k_iand, k_ior, k_ishl, k_ishr, k_dup, k_pop, k_goto, k_ifCond, k_if_icmp, k_ifnull, k_ifnonnull, k_getfield, k_putfield, k_iaload, k_baload, k_aaload, k_iastore, k_bastore, k_aastore, k_arraylength, k_new, k_newarray, k_anewarray, k_multianewarray] at hps
    split at hps
    · next y x st =>
      split at hps
      · next hl => subst hl; cases hps; obtain ⟨r1, rfl, hr1⟩ := vrs_i hst; obtain ⟨r2, rfl, hr2⟩ := vrs_i hr1; exact lv_ishl he hb hdg (hkq ls _ rfl hL ⟨rfl, hr2⟩)
      · cases hps
    · cases hps
  case ishr =>
    simp only [mps, mpsG, k_aconst_null, k_iconst, k_bipush, k_sipush, k_ldc, k_iload, k_iload_n, k_aload, k_aload_n, k_istore, k_istore_n, k_astore, k_astore_n, k_iinc, k_iadd, k_isub, k_imul, k_iand, k_ior, k_ishl, k_ishr, k_dup, k_pop, k_goto, k_ifCond, k_if_icmp, k_ifnull, k_ifnonnull, k_getfield, k_putfield, k_iaload, k_baload, k_aaload, k_iastore, k_bastore, k_aastore, k_arraylength, k_new, k_newarray, k_anewarray, k_multianewarray] at hps
    split at hps
    · next y x st =>
      split at hps
      · next hl => subst hl; cases hps; obtain ⟨r1, rfl, hr1⟩ := vrs_i hst; obtain ⟨r2, rfl, hr2⟩ := vrs_i hr1; exact lv_ishr he hb hdg (hkq ls _ rfl hL ⟨rfl, hr2⟩)
      · cases hps
    · cases hps
  case dup =>
    simp only [mps, mpsG, k_aconst_null, k_iconst, k_bipush, k_sipush, k_ldc, k_iload, k_iload_n, k_aload, k_aload_n, k_istore, k_istore_n, k_astore, k_astore_n, k_iinc, k_iadd, k_isub, k_imul, k_iand, k_ior, k_ishl, k_ishr, k_dup, k_pop, k_goto, k_ifCond, k_if_icmp, k_ifnull, k_ifnonnull, k_getfield, k_putfield, k_iaload, k_baload, k_aaload, k_iastore, k_bastore, k_aastore, k_arraylength, k_new, k_newarray, k_anewarray, k_multianewarray] at hps
    split at hps
    · next v st =>
      split at hps
      · next hl => subst hl; cases hps; obtain ⟨x, r, rfl, hx, hr⟩ := vrs_v hst; exact lv_dup he hb hdg (vr_cat hx) (hkq ls _ rfl hL ⟨hx, hx, hr⟩)
      · cases hps
    · cases hps
  case pop =>
    simp only [mps, mpsG, k_aconst_null, k_iconst, k_bipush, k_sipush, k_ldc, k_iload, k_iload_n, k_aload, k_aload_n, k_istore, k_istore_n, k_astore, k_astore_n, k_iinc, k_iadd, k_isub, k_imul, k_iand, k_ior, k_ishl, k_ishr, k_dup, k_pop, k_goto, k_ifCond, k_if_icmp, k_ifnull, k_ifnonnull, k_getfield, k_putfield, k_iaload, k_baload, k_aaload, k_iastore, k_bastore, k_aastore, k_arraylength, k_new, k_newarray, k_anewarray, k_multianewarray] at hps
    split at hps
    · next v st =>
      split at hps
      · next hl => subst hl; cases hps; obtain ⟨x, r, rfl, hx, hr⟩ := vrs_v hst; exact lv_pop he hb hdg (vr_cat hx) (hkq ls _ rfl hL hr)
      · cases hps
    · cases hps
  case goto off =>
    simp only [mps, mpsG, k_aconst_null, k_iconst, k_bipush, k_sipush, k_ldc, k_iload, k_iload_n, k_aload, k_aload_n, k_istore, k_istore_n, k_astore, k_astore_n, k_iinc, k_iadd, k_isub, k_imul, k_iand, k_ior, k_ishl, k_ishr, k_dup, k_pop, k_goto, k_ifCond, k_if_icmp, k_ifnull, k_ifnonnull, k_getfield, k_putfield, k_iaload, k_baload, k_aaload, k_iastore, k_bastore, k_aastore, k_arraylength, k_new, k_newarray, k_anewarray, k_multianewarray] at hps
    split at hps
    · next hl =>
      subst hl
      obtain ⟨t, ht, rfl⟩ := Option.map_eq_some_iff.mp hps
      exact lv_goto he hb hdg (mjmp_of ht) (hkq ls _ rfl hL hst)
    · cases hps
  case ifCond cnd off =>
    simp only [mps, mpsG, k_aconst_null, k_iconst, k_bipush, k_sipush, k_ldc, k_iload, k_iload_n, k_aload, k_aload_n, k_istore, k_istore_n, k_astore, k_astore_n, k_iinc, k_iadd, k_isub, k_imul, k_iand, k_ior, k_ishl, k_ishr, k_dup, k_pop, k_goto, k_ifCond, k_if_icmp, k_ifnull, k_ifnonnull, k_getfield, k_putfield, k_iaload, k_baload, k_aaload, k_iastore, k_bastore, k_aastore, k_arraylength, k_new, k_newarray, k_anewarray, k_multianewarray] at hps
    split at hps
    · next x st =>
      split at hps
      · next hl =>
        subst hl
        obtain ⟨t, ht, rfl⟩ := Option.map_eq_some_iff.mp hps
        obtain ⟨r1, rfl, hr1⟩ := vrs_i hst
        exact s_if he hb hdg (mjmp_of ht) (hkq ls _ rfl hL hr1)
      · cases hps
    · cases hps
  case if_icmp cnd off =>
    simp only [mps, mpsG, k_aconst_null, k_iconst, k_bipush, k_sipush, k_ldc, k_iload, k_iload_n, k_aload, k_aload_n, k_istore, k_istore_n, k_astore, k_astore_n, k_iinc, k_iadd, k_isub, k_imul, k_iand, k_ior, k_ishl, k_ishr, k_dup, k_pop, k_goto, k_ifCond, k_if_icmp, k_ifnull, k_ifnonnull, k_getfield, k_putfield, k_iaload, k_baload, k_aaload, k_iastore, k_bastore, k_aastore, k_arraylength, k_new, k_newarray, k_anewarray, k_multianewarray] at hps
    split at hps
    · next y x st =>
      split at hps
      · next hl =>
        subst hl
        obtain ⟨t, ht, rfl⟩ := Option.map_eq_some_iff.mp hps
        obtain ⟨r1, rfl, hr1⟩ := vrs_i hst
        obtain ⟨r2, rfl, hr2⟩ := vrs_i hr1
        exact s_icmp he hb hdg (mjmp_of ht) (hkq ls _ rfl hL hr2)
      · cases hps
    · cases hps
  case ifnull off =>
    simp only [mps, mpsG, k_aconst_null, k_iconst, k_bipush, k_sipush, k_ldc, k_iload, k_iload_n, k_aload, k_aload_n, k_istore, k_istore_n, k_astore, k_astore_n, k_iinc, k_iadd, k_isub, k_imul, k_iand, k_ior, k_ishl, k_ishr, k_dup, k_pop, k_goto, k_ifCond, k_if_icmp, k_ifnull, k_ifnonnull, k_getfield, k_putfield, k_iaload, k_baload, k_aaload, k_iastore, k_bastore, k_aastore, k_arraylength, k_new, k_newarray, k_anewarray, k_multianewarray] at hps
    split at hps
    · next st =>
      split at hps
      · next hl =>
        subst hl
        obtain ⟨t, ht, rfl⟩ := Option.map_eq_some_iff.mp hps
        obtain ⟨r1, rfl, hr1⟩ := vrs_n hst
        exact lv_ifnullN he hb hdg (mjmp_of ht) (hkq ls _ rfl hL hr1)
      · cases hps
    · next a st =>
      split at hps
      · next hl =>
        subst hl
        cases hps
        obtain ⟨qa, r1, rfl, -, hr1⟩ := vrs_r hst
        exact lv_ifnull he hb hdg (hkq ls _ rfl hL hr1)
      · cases hps
    · cases hps
  case ifnonnull off =>
    simp only [mps, mpsG, k_aconst_null, k_iconst, k_bipush, k_sipush, k_ldc, k_iload, k_iload_n, k_aload, k_aload_n, k_istore, k_istore_n, k_astore, k_astore_n, k_iinc, k_iadd, k_isub, k_imul, k_iand, k_ior, k_ishl, k_ishr, k_dup, k_pop, k_goto, k_ifCond, k_if_icmp, k_ifnull, k_ifnonnull, k_getfield, k_putfield, k_iaload, k_baload, k_aaload, k_iastore, k_bastore, k_aastore, k_arraylength, k_new, k_newarray, k_anewarray, k_multianewarray] at hps
    split at hps
    · next a st =>
      split at hps
      · next hl =>
        subst hl
        obtain ⟨t, ht, rfl⟩ := Option.map_eq_some_iff.mp hps
        obtain ⟨qa, r1, rfl, -, hr1⟩ := vrs_r hst
        exact lv_ifnonnull he hb hdg (mjmp_of ht) (hkq ls _ rfl hL hr1)
      · cases hps
    · next st =>
      split at hps
      · next hl =>
        subst hl
        cases hps
        obtain ⟨r1, rfl, hr1⟩ := vrs_n hst
        exact lv_ifnonnullN he hb hdg (hkq ls _ rfl hL hr1)
      · cases hps
    · cases hps
  case getfield i =>
    simp only [mps, mpsG, k_aconst_null, k_iconst, k_bipush, k_sipush, k_ldc, k_iload, k_iload_n, k_aload, k_aload_n, k_istore, k_istore_n, k_astore, k_astore_n, k_iinc, k_iadd, k_isub, k_imul, k_iand, k_ior, k_ishl, k_ishr, k_dup, k_pop, k_goto, k_ifCond, k_if_icmp, k_ifnull, k_ifnonnull, k_getfield, k_putfield, k_iaload, k_baload, k_aaload, k_iastore, k_bastore, k_aastore, k_arraylength, k_new, k_newarray, k_anewarray, k_multianewarray] at hps
    split at hps
    · next a st =>
      split at hps
      · next ci k t vs hf hc =>
        split at hps
        · next hl =>
          obtain ⟨rfl, rfl⟩ := hl
          obtain ⟨v, hv, rfl⟩ := Option.map_eq_some_iff.mp hps
          obtain ⟨qa, r1, rfl, hqa, hr1⟩ := vrs_r hst
          exact s_getf he hb hown hts hW hf hqa hc hv hdg fun x hx => hkq ls _ rfl hL ⟨hx, hr1⟩
        · cases hps
      · cases hps
    · cases hps
  case putfield i =>
    simp only [mps, mpsG, k_aconst_null, k_iconst, k_bipush, k_sipush, k_ldc, k_iload, k_iload_n, k_aload, k_aload_n, k_istore, k_istore_n, k_astore, k_astore_n, k_iinc, k_iadd, k_isub, k_imul, k_iand, k_ior, k_ishl, k_ishr, k_dup, k_pop, k_goto, k_ifCond, k_if_icmp, k_ifnull, k_ifnonnull, k_getfield, k_putfield, k_iaload, k_baload, k_aaload, k_iastore, k_bastore, k_aastore, k_arraylength, k_new, k_newarray, k_anewarray, k_multianewarray] at hps
    split at hps
    · next v a st =>
      split at hps
      · next ci k t vs hf hc =>
        split at hps
        · next r ty hr hty =>
          split at hps
          · next hl =>
            obtain ⟨rfl, rfl, hk, hk2, hfit, hfin⟩ := hl
            cases hps
            obtain ⟨x, r1, rfl, hx, hr1⟩ := vrs_v hst
            obtain ⟨qa, r2, rfl, hqa, hr2⟩ := vrs_r hr1
            exact s_putf he hb hown hts hW hS hf hqa hc hk hr hty hfit hx (fun hz => ⟨hini (hfin hz).1, (hfin hz).2⟩) hdg fun H1 locs1 hW1 hS1 => hks H1 locs1 _ a _ _ hc (by simp) rfl rfl hW1 hS1 hr2
          · cases hps
        · cases hps
      · cases hps
    · cases hps
  case iaload =>
    simp only [mps, mpsG, k_aconst_null, k_iconst, k_bipush, k_sipush, k_ldc, k_iload, k_iload_n, k_aload, k_aload_n, k_istore, k_istore_n, k_astore, k_astore_n, k_iinc, k_iadd, k_isub, k_imul, k_iand, k_ior, k_ishl, k_ishr, k_dup, k_pop, k_goto, k_ifCond, k_if_icmp, k_ifnull, k_ifnonnull, k_getfield, k_putfield, k_iaload, k_baload, k_aaload, k_iastore, k_bastore, k_aastore, k_arraylength, k_new, k_newarray, k_anewarray, k_multianewarray] at hps
    split at hps
    · next i a st =>
      split at hps
      · next vs hc =>
        split at hps
        · next hl =>
          subst hl
          obtain ⟨x, hx, rfl⟩ := Option.map_eq_some_iff.mp hps
          obtain ⟨r1, rfl, hr1⟩ := vrs_i hst
          obtain ⟨qa, r2, rfl, hqa, hr2⟩ := vrs_r hr1
          exact s_iald he hb hW hqa hc hx hdg (hkq ls _ rfl hL ⟨rfl, hr2⟩)
        · cases hps
      · cases hps
    · cases hps
  case baload =>
    simp only [mps, mpsG, k_aconst_null, k_iconst, k_bipush, k_sipush, k_ldc, k_iload, k_iload_n, k_aload, k_aload_n, k_istore, k_istore_n, k_astore, k_astore_n, k_iinc, k_iadd, k_isub, k_imul, k_iand, k_ior, k_ishl, k_ishr, k_dup, k_pop, k_goto, k_ifCond, k_if_icmp, k_ifnull, k_ifnonnull, k_getfield, k_putfield, k_iaload, k_baload, k_aaload, k_iastore, k_bastore, k_aastore, k_arraylength, k_new, k_newarray, k_anewarray, k_multianewarray] at hps
    split at hps
    · next i a st =>
      split at hps
      · next vs hc =>
        split at hps
        · next hl =>
          subst hl
          obtain ⟨x, hx, rfl⟩ := Option.map_eq_some_iff.mp hps
          obtain ⟨r1, rfl, hr1⟩ := vrs_i hst
          obtain ⟨qa, r2, rfl, hqa, hr2⟩ := vrs_r hr1
          exact s_bald he hb hW hqa hc hx hdg (hkq ls _ rfl hL ⟨rfl, hr2⟩)
        · cases hps
      · cases hps
    · cases hps
  case aaload =>
    simp only [mps, mpsG, k_aconst_null, k_iconst, k_bipush, k_sipush, k_ldc, k_iload, k_iload_n, k_aload, k_aload_n, k_istore, k_istore_n, k_astore, k_astore_n, k_iinc, k_iadd, k_isub, k_imul, k_iand, k_ior, k_ishl, k_ishr, k_dup, k_pop, k_goto, k_ifCond, k_if_icmp, k_ifnull, k_ifnonnull, k_getfield, k_putfield, k_iaload, k_baload, k_aaload, k_iastore, k_bastore, k_aastore, k_arraylength, k_new, k_newarray, k_anewarray, k_multianewarray] at hps
    split at hps
    · next i a st =>
      split at hps
      · next t vs hc =>
        split at hps
        · next hl =>
          obtain ⟨rfl, htt⟩ := hl
          obtain ⟨x, hx, rfl⟩ := Option.map_eq_some_iff.mp hps
          obtain ⟨r1, rfl, hr1⟩ := vrs_i hst
          obtain ⟨qa, r2, rfl, hqa, hr2⟩ := vrs_r hr1
          exact s_aald he hb hW hqa hc htt hx hdg fun z hz => hkq ls _ rfl hL ⟨hz, hr2⟩
        · cases hps
      · cases hps
    · cases hps
  case iastore =>
    simp only [mps, mpsG, k_aconst_null, k_iconst, k_bipush, k_sipush, k_ldc, k_iload, k_iload_n, k_aload, k_aload_n, k_istore, k_istore_n, k_astore, k_astore_n, k_iinc, k_iadd, k_isub, k_imul, k_iand, k_ior, k_ishl, k_ishr, k_dup, k_pop, k_goto, k_ifCond, k_if_icmp, k_ifnull, k_ifnonnull, k_getfield, k_putfield, k_iaload, k_baload, k_aaload, k_iastore, k_bastore, k_aastore, k_arraylength, k_new, k_newarray, k_anewarray, k_multianewarray] at hps
    split at hps
    · next x i a st =>
      split at hps
      · next vs hc =>
        split at hps
        · next hl =>
          subst hl
          obtain ⟨j, hj, rfl⟩ := Option.map_eq_some_iff.mp hps
          obtain ⟨r1, rfl, hr1⟩ := vrs_i hst
          obtain ⟨r2, rfl, hr2⟩ := vrs_i hr1
          obtain ⟨qa, r3, rfl, hqa, hr3⟩ := vrs_r hr2
          exact s_iast he hb hW hS hqa hc hj hdg fun H1 locs1 hW1 hS1 => hks H1 locs1 _ a _ _ hc (by simp) rfl rfl hW1 hS1 hr3
        · cases hps
      · cases hps
    · cases hps
  case bastore =>
    simp only [mps, mpsG, k_aconst_null, k_iconst, k_bipush, k_sipush, k_ldc, k_iload, k_iload_n, k_aload, k_aload_n, k_istore, k_istore_n, k_astore, k_astore_n, k_iinc, k_iadd, k_isub, k_imul, k_iand, k_ior, k_ishl, k_ishr, k_dup, k_pop, k_goto, k_ifCond, k_if_icmp, k_ifnull, k_ifnonnull, k_getfield, k_putfield, k_iaload, k_baload, k_aaload, k_iastore, k_bastore, k_aastore, k_arraylength, k_new, k_newarray, k_anewarray, k_multianewarray] at hps
    split at hps
    · next x i a st =>
      split at hps
      · next vs hc =>
        split at hps
        · next hl =>
          obtain ⟨rfl, hx⟩ := hl
          obtain ⟨j, hj, rfl⟩ := Option.map_eq_some_iff.mp hps
          obtain ⟨r1, rfl, hr1⟩ := vrs_i hst
          obtain ⟨r2, rfl, hr2⟩ := vrs_i hr1
          obtain ⟨qa, r3, rfl, hqa, hr3⟩ := vrs_r hr2
          exact s_bast he hb hW hS hqa hc hx hj hdg fun H1 locs1 hW1 hS1 => hks H1 locs1 _ a _ _ hc (by simp) rfl rfl hW1 hS1 hr3
        · cases hps
      · cases hps
    · cases hps
  case aastore =>
    simp only [mps, mpsG, k_aconst_null, k_iconst, k_bipush, k_sipush, k_ldc, k_iload, k_iload_n, k_aload, k_aload_n, k_istore, k_istore_n, k_astore, k_astore_n, k_iinc, k_iadd, k_isub, k_imul, k_iand, k_ior, k_ishl, k_ishr, k_dup, k_pop, k_goto, k_ifCond, k_if_icmp, k_ifnull, k_ifnonnull, k_getfield, k_putfield, k_iaload, k_baload, k_aaload, k_iastore, k_bastore, k_aastore, k_arraylength, k_new, k_newarray, k_anewarray, k_multianewarray] at hps
    split at hps
    · next b i a st =>
      split at hps
      · next t vs u us hc hcb =>
        split at hps
        · next hl =>
          obtain ⟨rfl, htt, hu⟩ := hl
          obtain ⟨j, hj, rfl⟩ := Option.map_eq_some_iff.mp hps
          obtain ⟨qb, r1, rfl, hqb, hr1⟩ := vrs_r hst
          obtain ⟨r2, rfl, hr2⟩ := vrs_i hr1
          obtain ⟨qa, r3, rfl, hqa, hr3⟩ := vrs_r hr2
          exact s_aast he hb hW hS hqa hqb hc hcb htt hu hj hdg fun H1 locs1 hW1 hS1 => hks H1 locs1 _ a _ _ hc (by simp) rfl rfl hW1 hS1 hr3
        · cases hps
      · cases hps
    · next i a st =>
      split at hps
      · next t vs hc =>
        split at hps
        · next hl =>
          obtain ⟨rfl, htt⟩ := hl
          obtain ⟨j, hj, rfl⟩ := Option.map_eq_some_iff.mp hps
          obtain ⟨r1, rfl, hr1⟩ := vrs_n hst
          obtain ⟨r2, rfl, hr2⟩ := vrs_i hr1
          obtain ⟨qa, r3, rfl, hqa, hr3⟩ := vrs_r hr2
          exact s_aastN he hb hW hS hqa hc htt hj hdg fun H1 locs1 hW1 hS1 => hks H1 locs1 _ a _ _ hc (by simp) rfl rfl hW1 hS1 hr3
        · cases hps
      · cases hps
    · cases hps
  case arraylength =>
    simp only [mps, mpsG, k_aconst_null, k_iconst, k_bipush, k_sipush, k_ldc, k_iload, k_iload_n, k_aload, k_aload_n, k_istore, k_istore_n, k_astore, k_astore_n, k_iinc, k_iadd, k_isub, k_imul, k_iand, k_ior, k_ishl, k_ishr, k_dup, k_pop, k_goto, k_ifCond, k_if_icmp, k_ifnull, k_ifnonnull, k_getfield, k_putfield, k_iaload, k_baload, k_aaload, k_iastore, k_bastore, k_aastore, k_arraylength, k_new, k_newarray, k_anewarray, k_multianewarray] at hps
    split at hps
    · next a st =>
      split at hps
      · next t vs hc =>
        split at hps
        · next hl =>
          obtain ⟨rfl, htt⟩ := hl
          cases hps
          obtain ⟨qa, r1, rfl, hqa, hr1⟩ := vrs_r hst
          exact s_alen he hb hW hqa hc htt hdg (hkq ls _ rfl hL ⟨rfl, hr1⟩)
        · cases hps
      · cases hps
    · cases hps
  case new i =>
    simp only [mps, mpsG, k_aconst_null, k_iconst, k_bipush, k_sipush, k_ldc, k_iload, k_iload_n, k_aload, k_aload_n, k_istore, k_istore_n, k_astore, k_astore_n, k_iinc, k_iadd, k_isub, k_imul, k_iand, k_ior, k_ishl, k_ishr, k_dup, k_pop, k_goto, k_ifCond, k_if_icmp, k_ifnull, k_ifnonnull, k_getfield, k_putfield, k_iaload, k_baload, k_aaload, k_iastore, k_bastore, k_aastore, k_arraylength, k_new, k_newarray, k_anewarray, k_multianewarray] at hps
    split at hps
    · next ci hf =>
      split at hps
      · next hl =>
        subst hl
        cases hps
        have hal : ads.length = h.length := by obtain ⟨ws, tys, h1, h2, -⟩ := hW; rw [← h1, h2]; simp
        simp only [List.length_append, List.length_cons, List.length_nil] at hrc
        simp only [mslots_app, List.length_map] at hrs
        exact s_new he hb hown hts hA hW hS hf (by omega) (by omega) hdg fun H1 qn hW1 hS1 => kk H1 locs ls _ (ads ++ [qn]) _ _ ⟨[qn], rfl⟩ hW1 hS1 (Lr_mono hL) ⟨⟨qn, by rw [← hal]; simp, rfl⟩, vrs_mono hst⟩ (by simp; omega) (by simp [mslots_app]; omega)
      · cases hps
    · cases hps
  case newarray ty =>
    simp only [mps, mpsG, k_aconst_null, k_iconst, k_bipush, k_sipush, k_ldc, k_iload, k_iload_n, k_aload, k_aload_n, k_istore, k_istore_n, k_astore, k_astore_n, k_iinc, k_iadd, k_isub, k_imul, k_iand, k_ior, k_ishl, k_ishr, k_dup, k_pop, k_goto, k_ifCond, k_if_icmp, k_ifnull, k_ifnonnull, k_getfield, k_putfield, k_iaload, k_baload, k_aaload, k_iastore, k_bastore, k_aastore, k_arraylength, k_new, k_newarray, k_anewarray, k_multianewarray] at hps
    split at hps
    · next n st =>
      split at hps
      · next hl =>
        obtain ⟨rfl, hn, hn2⟩ := hl
        have hal : ads.length = h.length := by obtain ⟨ws, tys, h1, h2, -⟩ := hW; rw [← h1, h2]; simp
        split at hps
        · cases hps
          obtain ⟨r1, rfl, hr1⟩ := vrs_i hst
          simp only [List.length_append, List.length_cons, List.length_nil] at hrc
          simp only [mslots_app, List.length_replicate] at hrs
          exact s_newi he hb hts hA hW hS hn hn2 (by omega) (by omega) hdg fun H1 qn hW1 hS1 => kk H1 locs ls _ (ads ++ [qn]) _ _ ⟨[qn], rfl⟩ hW1 hS1 (Lr_mono hL) ⟨⟨qn, by rw [← hal]; simp, rfl⟩, vrs_mono hr1⟩ (by simp; omega) (by simp [mslots_app]; omega)
        · cases hps
          obtain ⟨r1, rfl, hr1⟩ := vrs_i hst
          simp only [List.length_append, List.length_cons, List.length_nil] at hrc
          simp only [mslots_app, List.length_replicate] at hrs
          exact s_newz he hb hts hA hW hS hn hn2 (by omega) (by omega) hdg fun H1 qn hW1 hS1 => kk H1 locs ls _ (ads ++ [qn]) _ _ ⟨[qn], rfl⟩ hW1 hS1 (Lr_mono hL) ⟨⟨qn, by rw [← hal]; simp, rfl⟩, vrs_mono hr1⟩ (by simp; omega) (by simp [mslots_app]; omega)
        · cases hps
      · cases hps
    · cases hps
  case anewarray i =>
    simp only [mps, mpsG, k_aconst_null, k_iconst, k_bipush, k_sipush, k_ldc, k_iload, k_iload_n, k_aload, k_aload_n, k_istore, k_istore_n, k_astore, k_astore_n, k_iinc, k_iadd, k_isub, k_imul, k_iand, k_ior, k_ishl, k_ishr, k_dup, k_pop, k_goto, k_ifCond, k_if_icmp, k_ifnull, k_ifnonnull, k_getfield, k_putfield, k_iaload, k_baload, k_aaload, k_iastore, k_bastore, k_aastore, k_arraylength, k_new, k_newarray, k_anewarray, k_multianewarray] at hps
    split at hps
    · next n st t hf =>
      split at hps
      · next hl =>
        obtain ⟨rfl, hn, hn2, htt⟩ := hl
        have hal : ads.length = h.length := by obtain ⟨ws, tys, h1, h2, -⟩ := hW; rw [← h1, h2]; simp
        cases hps
        obtain ⟨r1, rfl, hr1⟩ := vrs_i hst
        simp only [List.length_append, List.length_cons, List.length_nil] at hrc
        simp only [mslots_app, List.length_replicate] at hrs
        exact s_anew he hb hown hts hXf hA hW hS hf htt hn hn2 (by omega) (by omega) hdg fun H1 qn hW1 hS1 => kk H1 locs ls _ (ads ++ [qn]) _ _ ⟨[qn], rfl⟩ hW1 hS1 (Lr_mono hL) ⟨⟨qn, by rw [← hal]; simp, rfl⟩, vrs_mono hr1⟩ (by simp; omega) (by simp [mslots_app]; omega)
      · cases hps
    · cases hps
  case multianewarray i dm =>
    simp only [mps, mpsG, k_multianewarray] at hps
    split at hps
    · next k n st hf =>
      split at hps
      · next hl =>
        obtain ⟨rfl, rfl, hn, hk, hn2, hk2⟩ := hl
        have hal : ads.length = h.length := by obtain ⟨ws, tys, h1, h2, -⟩ := hW; rw [← h1, h2]; simp
        cases hps
        obtain ⟨r1, rfl, hr1⟩ := vrs_i hst
        obtain ⟨r2, rfl, hr2⟩ := vrs_i hr1
        simp only [List.length_append, mgrid_len] at hrc
        simp only [mslots_apps, mgrid_slots] at hrs
        exact s_mna he hb hown hts hXf hA hW hS hf hn hk hn2 hk2 (by omega) (by omega) hdg fun H1 qn ads2 hW1 hS1 => kk H1 locs ls _ (ads ++ (qn :: ads2)) _ _ ⟨qn :: ads2, rfl⟩ hW1 hS1 (Lr_mono hL) ⟨⟨qn, by rw [← hal]; simp, rfl⟩, vrs_mono hr2⟩ (by simp only [List.length_append, mgrid_len]; omega) (by simp only [mslots_apps, mgrid_slots]; omega)
      · cases hps
    · cases hps
  all_goals (simp [mps, mpsG, k_aconst_null, k_iconst, k_bipush, k_sipush, k_ldc, k_iload, k_iload_n, k_aload, k_aload_n, k_istore, k_istore_n, k_astore, k_astore_n, k_iinc, k_iadd, k_isub, k_imul, k_iand, k_ior, k_ishl, k_ishr, k_dup, k_pop, k_goto, k_ifCond, k_if_icmp, k_ifnull, k_ifnonnull, k_getfield, k_putfield, k_iaload, k_baload, k_aaload, k_iastore, k_bastore, k_aastore, k_arraylength, k_new, k_newarray, k_anewarray, k_multianewarray] at hps)
end S4
