/-! THE FAST FORM IS RIGHT -/
theorem mx_ps {n d M pc len : Nat} {ml : List (Option MV)} {st : List MV} {h : List MC} {q : MM} {ig : Instr} {u : MS} (hq : mmt[M]? = some q) (hd : decode q.2.1 pc = .ok (ig, len)) (h1 : mret q.2.2.2.1 ig len st = none) (h2 : mcal q.2.2.2.2.1 d ig len st h = none) (h3 : mnat q.2.2.2.2.1 d ig len pc ml st h = none) (h4 : mps q.2.2.2.2.1 (q.1.name == "<init>") ig len pc ml st h = some u) : mx (n + 1) d M pc ml st h = mx n d M u.1 u.2.1 u.2.2.1 u.2.2.2 := by
  conv => lhs; unfold mx
  simp only [hq, hd, h1, h2, h3, h4]
theorem fpc_of {M j k : Nat} (h : fpc M j = some k) : ∃ x, fget M j = some x ∧ x.1 = k := by
  unfold fpc at h
  exact Option.map_eq_some_iff.mp h
theorem fto_ps {M own : Nat} {ini : Bool} {ig : Instr} {pc len nj tj : Nat} {ml : List (Option MV)} {st : List MV} {h : List MC} {u : MS} (hj : fjp ig = false) (hps : mps own ini ig len pc ml st h = some u) (ht : fto M ig pc len nj tj = true) : fpc M nj = some (pc + len) := by
  cases ig
  all_goals (first | (simp [fjp] at hj; done) | skip)
  all_goals (first | (simp [mps, mpsG, k_aconst_null, k_iconst, k_bipush, k_sipush, k_ldc, k_iload, k_iload_n, k_aload, k_aload_n, k_istore, k_istore_n, k_astore, k_astore_n, k_iinc, k_iadd, k_isub, k_imul, k_iand, k_ior, k_ishl, k_ishr, k_dup, k_pop, k_goto, k_ifCond, k_if_icmp, k_ifnull, k_ifnonnull, k_getfield, k_putfield, k_iaload, k_baload, k_aaload, k_iastore, k_bastore, k_aastore, k_arraylength, k_new, k_newarray, k_anewarray, k_multianewarray] at hps; done) | skip)
  all_goals (simp only [fto, beq_iff_eq] at ht; exact ht)
theorem fto_nat {M own d : Nat} {ig : Instr} {pc len nj tj : Nat} {ml : List (Option MV)} {st : List MV} {h : List MC} {u : MS} (hps : mnat own d ig len pc ml st h = some u) (ht : fto M ig pc len nj tj = true) : fpc M nj = some (pc + len) := by
  unfold mnat mnatG at hps
  split at hps
  all_goals (first | (cases hps; done) | skip)
  all_goals (simp only [fto, beq_iff_eq] at ht; exact ht)
theorem fto_cal {M own d : Nat} {ig : Instr} {pc len nj tj : Nat} {st : List MV} {h : List MC} {u : Nat × Nat × List MV × List MV} (hps : mcal own d ig len st h = some u) (ht : fto M ig pc len nj tj = true) : fpc M nj = some (pc + len) := by
  unfold mcal mcalG at hps
  split at hps
  all_goals (first | (cases hps; done) | skip)
  all_goals (simp only [fto, beq_iff_eq] at ht; exact ht)
theorem fto_jmp {M pc nj tj : Nat} {off : Int} (h : (fpc M tj == mjmp pc off && (mjmp pc off).isSome && fpc M nj == some (pc + 3)) = true) : ∃ t, mjmp pc off = some t ∧ fpc M tj = some t ∧ fpc M nj = some (pc + 3) := by
  simp only [Bool.and_eq_true, beq_iff_eq] at h
  obtain ⟨t, ht⟩ := Option.isSome_iff_exists.mp h.1.2
  exact ⟨t, ht, by rw [h.1.1, ht], h.2⟩
set_option maxHeartbeats 4000000 in
theorem fx_sound (hok : ∀ M, Fok M) : ∀ {n d M j : Nat} {ml : List (Option MV)} {st : List MV} {h : List MC} {r : Option MV × List MC} {x : FI}, fx n d M j ml st h = some r → fget M j = some x → mx n d M x.1 ml st h = some r
  | 0, _, _, _, _, _, _, _, _, hr, _ => by simp [fx] at hr
  | n + 1, d, M, j, ml, st, h, r, x, hr, hx => by
    unfold fx at hr
    rw [hx] at hr
    obtain ⟨pc, ig, len, nj, tj, a, b, cl⟩ := x
    simp only at hr
    split at hr
    · cases hr
    · next q hq =>
      have hck := (hok M q hq).1 j _ hx
      have go : ∀ {k j2 : Nat} {ml2 : List (Option MV)} {st2 : List MV} {h2 : List MC}, fpc M j2 = some k → fx n d M j2 ml2 st2 h2 = some r → mx n d M k ml2 st2 h2 = some r := by
        intro k j2 ml2 st2 h2 hk hf
        obtain ⟨y, hy, rfl⟩ := fpc_of hk
        exact fx_sound hok hf hy
      split at hr
      · simp only [fck, show ((0 : Nat) == 4) = false from rfl, Bool.false_or, Bool.and_eq_true, decide_eq_true_eq, beq_iff_eq] at hck
        obtain ⟨⟨⟨hcl, hd⟩, hl⟩, ht⟩ := hck
        obtain ⟨hnj, g1, g2, g3⟩ := fcl0 hcl
        rw [mpsG_lk hl] at hr
        split at hr
        · next u hv =>
          rw [mx_ps hq hd (g1 _ _ _) (g2 _ _ _ _ _) (g3 _ _ _ _ _ _ _) hv, mps_pc hnj hv]
          exact go (fto_ps hnj hv ht) hr
        · cases hr
      · simp only [fck, show ((1 : Nat) == 4) = false from rfl, Bool.false_or, Bool.and_eq_true, decide_eq_true_eq, beq_iff_eq] at hck
        obtain ⟨⟨⟨hcl, hd⟩, hl⟩, ht⟩ := hck
        split at hr
        · next off =>
          split at hr
          · next hl3 =>
            subst hl3
            simp only [fto, Bool.and_eq_true, beq_iff_eq] at ht
            obtain ⟨t, hjm⟩ := Option.isSome_iff_exists.mp ht.2
            rw [mx_ps hq hd rfl rfl rfl (u := (t, ml, st, h)) (by simp [mps, mpsG, k_aconst_null, k_iconst, k_bipush, k_sipush, k_ldc, k_iload, k_iload_n, k_aload, k_aload_n, k_istore, k_istore_n, k_astore, k_astore_n, k_iinc, k_iadd, k_isub, k_imul, k_iand, k_ior, k_ishl, k_ishr, k_dup, k_pop, k_goto, k_ifCond, k_if_icmp, k_ifnull, k_ifnonnull, k_getfield, k_putfield, k_iaload, k_baload, k_aaload, k_iastore, k_bastore, k_aastore, k_arraylength, k_new, k_newarray, k_anewarray, k_multianewarray, hjm])]
            exact go (by rw [ht.1, hjm]) hr
          · cases hr
        · next cnd off =>
          split at hr
          · next x st =>
            split at hr
            · next hl3 =>
              subst hl3
              obtain ⟨t, hjm, h1, h2⟩ := fto_jmp ht
              rw [mx_ps hq hd rfl rfl rfl (u := (if mcmp cnd x 0 then t else pc + 3, ml, st, h)) (by simp [mps, mpsG, k_aconst_null, k_iconst, k_bipush, k_sipush, k_ldc, k_iload, k_iload_n, k_aload, k_aload_n, k_istore, k_istore_n, k_astore, k_astore_n, k_iinc, k_iadd, k_isub, k_imul, k_iand, k_ior, k_ishl, k_ishr, k_dup, k_pop, k_goto, k_ifCond, k_if_icmp, k_ifnull, k_ifnonnull, k_getfield, k_putfield, k_iaload, k_baload, k_aaload, k_iastore, k_bastore, k_aastore, k_arraylength, k_new, k_newarray, k_anewarray, k_multianewarray, hjm])]
              split at hr
              · next hc => simp only [hc, if_true]; exact go h1 hr
              · next hc => simp only [hc]; exact go h2 hr
            · cases hr
          · cases hr
        · next cnd off =>
          split at hr
          · next y x st =>
            split at hr
            · next hl3 =>
              subst hl3
              obtain ⟨t, hjm, h1, h2⟩ := fto_jmp ht
              rw [mx_ps hq hd rfl rfl rfl (u := (if mcmp cnd x y then t else pc + 3, ml, st, h)) (by simp [mps, mpsG, k_aconst_null, k_iconst, k_bipush, k_sipush, k_ldc, k_iload, k_iload_n, k_aload, k_aload_n, k_istore, k_istore_n, k_astore, k_astore_n, k_iinc, k_iadd, k_isub, k_imul, k_iand, k_ior, k_ishl, k_ishr, k_dup, k_pop, k_goto, k_ifCond, k_if_icmp, k_ifnull, k_ifnonnull, k_getfield, k_putfield, k_iaload, k_baload, k_aaload, k_iastore, k_bastore, k_aastore, k_arraylength, k_new, k_newarray, k_anewarray, k_multianewarray, hjm])]
              split at hr
              · next hc => simp only [hc, if_true]; exact go h1 hr
              · next hc => simp only [hc]; exact go h2 hr
            · cases hr
          · cases hr
        · next off =>
          split at hr
          · next st =>
            split at hr
            · next hl3 =>
              subst hl3
              obtain ⟨t, hjm, h1, h2⟩ := fto_jmp ht
              rw [mx_ps hq hd rfl rfl rfl (u := (t, ml, st, h)) (by simp [mps, mpsG, k_aconst_null, k_iconst, k_bipush, k_sipush, k_ldc, k_iload, k_iload_n, k_aload, k_aload_n, k_istore, k_istore_n, k_astore, k_astore_n, k_iinc, k_iadd, k_isub, k_imul, k_iand, k_ior, k_ishl, k_ishr, k_dup, k_pop, k_goto, k_ifCond, k_if_icmp, k_ifnull, k_ifnonnull, k_getfield, k_putfield, k_iaload, k_baload, k_aaload, k_iastore, k_bastore, k_aastore, k_arraylength, k_new, k_newarray, k_anewarray, k_multianewarray, hjm])]
              exact go h1 hr
            · cases hr
          · next a2 st =>
            split at hr
            · next hl3 =>
              subst hl3
              obtain ⟨t, hjm, h1, h2⟩ := fto_jmp ht
              rw [mx_ps hq hd rfl rfl rfl (u := (pc + 3, ml, st, h)) (by simp [mps, mpsG, k_aconst_null, k_iconst, k_bipush, k_sipush, k_ldc, k_iload, k_iload_n, k_aload, k_aload_n, k_istore, k_istore_n, k_astore, k_astore_n, k_iinc, k_iadd, k_isub, k_imul, k_iand, k_ior, k_ishl, k_ishr, k_dup, k_pop, k_goto, k_ifCond, k_if_icmp, k_ifnull, k_ifnonnull, k_getfield, k_putfield, k_iaload, k_baload, k_aaload, k_iastore, k_bastore, k_aastore, k_arraylength, k_new, k_newarray, k_anewarray, k_multianewarray])]
              exact go h2 hr
            · cases hr
          · cases hr
        · next off =>
          split at hr
          · next st =>
            split at hr
            · next hl3 =>
              subst hl3
              obtain ⟨t, hjm, h1, h2⟩ := fto_jmp ht
              rw [mx_ps hq hd rfl rfl rfl (u := (pc + 3, ml, st, h)) (by simp [mps, mpsG, k_aconst_null, k_iconst, k_bipush, k_sipush, k_ldc, k_iload, k_iload_n, k_aload, k_aload_n, k_istore, k_istore_n, k_astore, k_astore_n, k_iinc, k_iadd, k_isub, k_imul, k_iand, k_ior, k_ishl, k_ishr, k_dup, k_pop, k_goto, k_ifCond, k_if_icmp, k_ifnull, k_ifnonnull, k_getfield, k_putfield, k_iaload, k_baload, k_aaload, k_iastore, k_bastore, k_aastore, k_arraylength, k_new, k_newarray, k_anewarray, k_multianewarray])]
              exact go h2 hr
            · cases hr
          · next a2 st =>
            split at hr
            · next hl3 =>
              subst hl3
              obtain ⟨t, hjm, h1, h2⟩ := fto_jmp ht
              rw [mx_ps hq hd rfl rfl rfl (u := (t, ml, st, h)) (by simp [mps, mpsG, k_aconst_null, k_iconst, k_bipush, k_sipush, k_ldc, k_iload, k_iload_n, k_aload, k_aload_n, k_istore, k_istore_n, k_astore, k_astore_n, k_iinc, k_iadd, k_isub, k_imul, k_iand, k_ior, k_ishl, k_ishr, k_dup, k_pop, k_goto, k_ifCond, k_if_icmp, k_ifnull, k_ifnonnull, k_getfield, k_putfield, k_iaload, k_baload, k_aaload, k_iastore, k_bastore, k_aastore, k_arraylength, k_new, k_newarray, k_anewarray, k_multianewarray, hjm])]
              exact go h1 hr
            · cases hr
          · cases hr
        · cases hr
      · simp only [fck, show ((2 : Nat) == 4) = false from rfl, Bool.false_or, Bool.and_eq_true, decide_eq_true_eq, beq_iff_eq] at hck
        obtain ⟨⟨⟨hcl, hd⟩, hl⟩, ht⟩ := hck
        split at hr
        · next r2 hr2 =>
          unfold mx
          simp only [hq, hd, hr2]
          exact hr
        · cases hr
      · simp only [fck, show ((3 : Nat) == 4) = false from rfl, Bool.false_or, Bool.and_eq_true, decide_eq_true_eq, beq_iff_eq] at hck
        obtain ⟨⟨⟨hcl, hd⟩, hl⟩, ht⟩ := hck
        have hr2 := fcl3 hcl q.2.2.2.1 len st
        rw [mcalG_lk hl, mnatG_lk hl] at hr
        split at hr
        · next M' d' as rest hc =>
          split at hr
          · cases hr
          · next q' hq' =>
            split at hr
            · cases hr
            · next r1 hr1 =>
              have hlen := mcal_len hc
              have hpc := fto_cal hc ht
              obtain ⟨y, hy, hy0⟩ := fpc_of (hok M' q' hq').2
              have f1 := fx_sound hok hr1 hy
              rw [hy0] at f1
              have f2 := go hpc hr
              rw [hlen] at f2
              unfold mx
              simp only [hq, hd, hr2, hc, hq', f1, Option.bind_some, f2]
        · next hc =>
          split at hr
          · next u hu =>
            have hpc := fto_nat hu ht
            have h1 := (mnat_pc hu).1
            unfold mx
            simp only [hq, hd, hr2, hc, hu]
            rw [h1]
            exact go hpc hr
          · cases hr
      · cases hr
