/-! RUNS, GOAL FIRST: P d M pc ml st h Q says that method M, now at pc, comes to its end with Q; d: frames that may stand above -/
theorem mx_fuel : ∀ {n d M pc : Nat} {ml : List (Option MV)} {st : List MV} {h : List MC} {r : Option MV × List MC}, mx n d M pc ml st h = some r → mx (n + 1) d M pc ml st h = some r
  | 0, _, _, _, _, _, _, _, hr => by simp [mx] at hr
  | n + 1, d, M, pc, ml, st, h, r, hr => by
    unfold mx at hr
    unfold mx
    split at hr
    · cases hr
    · next q hq =>
      (try rw [hq])
      (try simp only)
      split at hr
      · cases hr
      · next ig len hd =>
        (try rw [hd])
        (try simp only)
        split at hr
        · next r2 h2 => (try rw [h2]); exact hr
        · next h2 =>
          (try rw [h2])
          (try simp only)
          split at hr
          · next M' d' as rest hc =>
            (try rw [hc])
            (try simp only)
            split at hr
            · cases hr
            · next q' hq' =>
              (try rw [hq'])
              (try simp only)
              obtain ⟨r1, g1, g2⟩ := Option.bind_eq_some_iff.mp hr
              exact Option.bind_eq_some_iff.mpr ⟨r1, mx_fuel g1, mx_fuel g2⟩
          · next hc =>
            (try rw [hc])
            (try simp only)
            split at hr
            · next u hu => (try rw [hu]); exact mx_fuel hr
            · next hu =>
              (try rw [hu])
              (try simp only)
              split at hr
              · next u hv => (try rw [hv]); exact mx_fuel hr
              · cases hr
theorem mx_more {n d M pc : Nat} {ml : List (Option MV)} {st : List MV} {h : List MC} {r : Option MV × List MC} (k : Nat) (hr : mx n d M pc ml st h = some r) : mx (n + k) d M pc ml st h = some r := by
  induction k with
  | zero => exact hr
  | succ k ih => exact mx_fuel ih
def P (d M pc : Nat) (ml : List (Option MV)) (st : List MV) (h : List MC) (Q : Option MV → List MC → Prop) : Prop := ∃ n r hE, mx n d M pc ml st h = some (r, hE) ∧ Q r hE
/-- one step, goal first -/
def PX (q : MM) (d M pc : Nat) (ml : List (Option MV)) (st : List MV) (h : List MC) (Q : Option MV → List MC → Prop) (ig : Instr) (len : Nat) : Prop := match mret q.2.2.2.1 ig len st with
  | some r => Q r h
  | none => match mcal q.2.2.2.2.1 d ig len st h with
    | some (M', d', as, rest) => match mmt[M']? with
      | none => False
      | some q' => P d' M' 0 (as.map some ++ List.replicate (q'.2.2.1 - as.length) none) [] h fun r h' => P d M (pc + 3) ml (r.toList ++ rest) h' Q
    | none => match mnat q.2.2.2.2.1 d ig len pc ml st h with
      | some u => P d M u.1 u.2.1 u.2.2.1 u.2.2.2 Q
      | none => match mps q.2.2.2.2.1 (q.1.name == "<init>") ig len pc ml st h with
        | some u => P d M u.1 u.2.1 u.2.2.1 u.2.2.2 Q
        | none => False
theorem P_of {q : MM} {d M pc : Nat} {ml : List (Option MV)} {st : List MV} {h : List MC} {Q : Option MV → List MC → Prop} {ig : Instr} {len : Nat} (hq : mmt[M]? = some q) (hd : decode q.2.1 pc = .ok (ig, len)) (k : PX q d M pc ml st h Q ig len) : P d M pc ml st h Q := by
  unfold PX at k
  split at k
  · next r hr => exact ⟨1, r, h, by unfold mx; simp only [hq, hd, hr], k⟩
  · next hr =>
    split at k
    · next M' d' as rest hc =>
      split at k
      · exact k.elim
      · next q' hq' =>
        obtain ⟨n1, r1, h1, g1, n2, r2, h2, g2, k2⟩ := k
        refine ⟨n1 + n2 + 1, r2, h2, ?_, k2⟩
        have f1 := mx_more n2 g1
        have f2 := mx_more n1 g2
        rw [Nat.add_comm n2 n1] at f2
        unfold mx
        simp only [hq, hd, hr, hc, hq', f1, f2, Option.bind_some]
    · next hc =>
      split at k
      · next u hu =>
        obtain ⟨n1, r1, h1, g1, k1⟩ := k
        exact ⟨n1 + 1, r1, h1, by unfold mx; simp only [hq, hd, hr, hc, hu, g1], k1⟩
      · next hu =>
        split at k
        · next u hv =>
          obtain ⟨n1, r1, h1, g1, k1⟩ := k
          exact ⟨n1 + 1, r1, h1, by unfold mx; simp only [hq, hd, hr, hc, hu, hv, g1], k1⟩
        · exact k.elim
theorem P_mono {d M pc : Nat} {ml : List (Option MV)} {st : List MV} {h : List MC} {Q Q' : Option MV → List MC → Prop} (k : P d M pc ml st h Q) (hq : ∀ r h', Q r h' → Q' r h') : P d M pc ml st h Q' := by
  obtain ⟨n, r, hE, h1, h2⟩ := k
  exact ⟨n, r, hE, h1, hq r hE h2⟩
section XL
variable {q : MM} {d M pc : Nat} {ml : List (Option MV)} {st : List MV} {h : List MC} {Q : Option MV → List MC → Prop}
theorem X_null : PX q d M pc ml st h Q .aconst_null 1 = P d M (pc + 1) ml (.inr none :: st) h Q := rfl
theorem X_iconst {i : Int} : PX q d M pc ml st h Q (.iconst i) 1 = P d M (pc + 1) ml (.inl (Int32.ofInt i) :: st) h Q := rfl
theorem X_bipush {i : Int} : PX q d M pc ml st h Q (.bipush i) 2 = P d M (pc + 2) ml (.inl (Int8.ofInt i).toInt32 :: st) h Q := rfl
theorem X_sipush {i : Int} : PX q d M pc ml st h Q (.sipush i) 3 = P d M (pc + 3) ml (.inl (Int16.ofInt i).toInt32 :: st) h Q := rfl
theorem X_iload {k : Nat} {x : Int32} (hx : mint (mld ml k) = some x) : PX q d M pc ml st h Q (.iload k) 2 = P d M (pc + 2) ml (.inl x :: st) h Q := by simp [PX, mret, mcal, mcalG, mnat, mnatG, mps, mpsG, k_aconst_null, k_iconst, k_bipush, k_sipush, k_ldc, k_iload, k_iload_n, k_aload, k_aload_n, k_istore, k_istore_n, k_astore, k_astore_n, k_iinc, k_iadd, k_isub, k_imul, k_iand, k_ior, k_ishl, k_ishr, k_dup, k_pop, k_goto, k_ifCond, k_if_icmp, k_ifnull, k_ifnonnull, k_getfield, k_putfield, k_iaload, k_baload, k_aaload, k_iastore, k_bastore, k_aastore, k_arraylength, k_new, k_newarray, k_anewarray, k_multianewarray, hx]
theorem X_iload_n {k : Fin 4} {x : Int32} (hx : mint (mld ml k.val) = some x) : PX q d M pc ml st h Q (.iload_n k) 1 = P d M (pc + 1) ml (.inl x :: st) h Q := by simp [PX, mret, mcal, mcalG, mnat, mnatG, mps, mpsG, k_aconst_null, k_iconst, k_bipush, k_sipush, k_ldc, k_iload, k_iload_n, k_aload, k_aload_n, k_istore, k_istore_n, k_astore, k_astore_n, k_iinc, k_iadd, k_isub, k_imul, k_iand, k_ior, k_ishl, k_ishr, k_dup, k_pop, k_goto, k_ifCond, k_if_icmp, k_ifnull, k_ifnonnull, k_getfield, k_putfield, k_iaload, k_baload, k_aaload, k_iastore, k_bastore, k_aastore, k_arraylength, k_new, k_newarray, k_anewarray, k_multianewarray, hx]
theorem X_aload {k : Nat} {x : Option Nat} (hx : mref (mld ml k) = some x) : PX q d M pc ml st h Q (.aload k) 2 = P d M (pc + 2) ml (.inr x :: st) h Q := by simp [PX, mret, mcal, mcalG, mnat, mnatG, mps, mpsG, k_aconst_null, k_iconst, k_bipush, k_sipush, k_ldc, k_iload, k_iload_n, k_aload, k_aload_n, k_istore, k_istore_n, k_astore, k_astore_n, k_iinc, k_iadd, k_isub, k_imul, k_iand, k_ior, k_ishl, k_ishr, k_dup, k_pop, k_goto, k_ifCond, k_if_icmp, k_ifnull, k_ifnonnull, k_getfield, k_putfield, k_iaload, k_baload, k_aaload, k_iastore, k_bastore, k_aastore, k_arraylength, k_new, k_newarray, k_anewarray, k_multianewarray, hx]
theorem X_aload_n {k : Fin 4} {x : Option Nat} (hx : mref (mld ml k.val) = some x) : PX q d M pc ml st h Q (.aload_n k) 1 = P d M (pc + 1) ml (.inr x :: st) h Q := by simp [PX, mret, mcal, mcalG, mnat, mnatG, mps, mpsG, k_aconst_null, k_iconst, k_bipush, k_sipush, k_ldc, k_iload, k_iload_n, k_aload, k_aload_n, k_istore, k_istore_n, k_astore, k_astore_n, k_iinc, k_iadd, k_isub, k_imul, k_iand, k_ior, k_ishl, k_ishr, k_dup, k_pop, k_goto, k_ifCond, k_if_icmp, k_ifnull, k_ifnonnull, k_getfield, k_putfield, k_iaload, k_baload, k_aaload, k_iastore, k_bastore, k_aastore, k_arraylength, k_new, k_newarray, k_anewarray, k_multianewarray, hx]
theorem X_istore {k : Nat} {x : Int32} (hk : k < ml.length) : PX q d M pc ml (.inl x :: st) h Q (.istore k) 2 = P d M (pc + 2) (ml.set k (some (.inl x))) st h Q := by simp [PX, mret, mcal, mcalG, mnat, mnatG, mps, mpsG, k_aconst_null, k_iconst, k_bipush, k_sipush, k_ldc, k_iload, k_iload_n, k_aload, k_aload_n, k_istore, k_istore_n, k_astore, k_astore_n, k_iinc, k_iadd, k_isub, k_imul, k_iand, k_ior, k_ishl, k_ishr, k_dup, k_pop, k_goto, k_ifCond, k_if_icmp, k_ifnull, k_ifnonnull, k_getfield, k_putfield, k_iaload, k_baload, k_aaload, k_iastore, k_bastore, k_aastore, k_arraylength, k_new, k_newarray, k_anewarray, k_multianewarray, hk]
theorem X_istore_n {k : Fin 4} {x : Int32} (hk : k.val < ml.length) : PX q d M pc ml (.inl x :: st) h Q (.istore_n k) 1 = P d M (pc + 1) (ml.set k.val (some (.inl x))) st h Q := by simp [PX, mret, mcal, mcalG, mnat, mnatG, mps, mpsG, k_aconst_null, k_iconst, k_bipush, k_sipush, k_ldc, k_iload, k_iload_n, k_aload, k_aload_n, k_istore, k_istore_n, k_astore, k_astore_n, k_iinc, k_iadd, k_isub, k_imul, k_iand, k_ior, k_ishl, k_ishr, k_dup, k_pop, k_goto, k_ifCond, k_if_icmp, k_ifnull, k_ifnonnull, k_getfield, k_putfield, k_iaload, k_baload, k_aaload, k_iastore, k_bastore, k_aastore, k_arraylength, k_new, k_newarray, k_anewarray, k_multianewarray, hk]
theorem X_astore {k : Nat} {x : Option Nat} (hk : k < ml.length) : PX q d M pc ml (.inr x :: st) h Q (.astore k) 2 = P d M (pc + 2) (ml.set k (some (.inr x))) st h Q := by simp [PX, mret, mcal, mcalG, mnat, mnatG, mps, mpsG, k_aconst_null, k_iconst, k_bipush, k_sipush, k_ldc, k_iload, k_iload_n, k_aload, k_aload_n, k_istore, k_istore_n, k_astore, k_astore_n, k_iinc, k_iadd, k_isub, k_imul, k_iand, k_ior, k_ishl, k_ishr, k_dup, k_pop, k_goto, k_ifCond, k_if_icmp, k_ifnull, k_ifnonnull, k_getfield, k_putfield, k_iaload, k_baload, k_aaload, k_iastore, k_bastore, k_aastore, k_arraylength, k_new, k_newarray, k_anewarray, k_multianewarray, hk]
theorem X_astore_n {k : Fin 4} {x : Option Nat} (hk : k.val < ml.length) : PX q d M pc ml (.inr x :: st) h Q (.astore_n k) 1 = P d M (pc + 1) (ml.set k.val (some (.inr x))) st h Q := by simp [PX, mret, mcal, mcalG, mnat, mnatG, mps, mpsG, k_aconst_null, k_iconst, k_bipush, k_sipush, k_ldc, k_iload, k_iload_n, k_aload, k_aload_n, k_istore, k_istore_n, k_astore, k_astore_n, k_iinc, k_iadd, k_isub, k_imul, k_iand, k_ior, k_ishl, k_ishr, k_dup, k_pop, k_goto, k_ifCond, k_if_icmp, k_ifnull, k_ifnonnull, k_getfield, k_putfield, k_iaload, k_baload, k_aaload, k_iastore, k_bastore, k_aastore, k_arraylength, k_new, k_newarray, k_anewarray, k_multianewarray, hk]
theorem X_iinc {k : Nat} {n : Int} {x : Int32} (hk : k < ml.length) (hx : mint (mld ml k) = some x) : PX q d M pc ml st h Q (.iinc k n) 3 = P d M (pc + 3) (ml.set k (some (.inl (x + Int32.ofInt n)))) st h Q := by simp [PX, mret, mcal, mcalG, mnat, mnatG, mps, mpsG, k_aconst_null, k_iconst, k_bipush, k_sipush, k_ldc, k_iload, k_iload_n, k_aload, k_aload_n, k_istore, k_istore_n, k_astore, k_astore_n, k_iinc, k_iadd, k_isub, k_imul, k_iand, k_ior, k_ishl, k_ishr, k_dup, k_pop, k_goto, k_ifCond, k_if_icmp, k_ifnull, k_ifnonnull, k_getfield, k_putfield, k_iaload, k_baload, k_aaload, k_iastore, k_bastore, k_aastore, k_arraylength, k_new, k_newarray, k_anewarray, k_multianewarray, hk, hx]
theorem X_iadd {x y : Int32} : PX q d M pc ml (.inl y :: .inl x :: st) h Q .iadd 1 = P d M (pc + 1) ml (.inl (x + y) :: st) h Q := rfl
theorem X_isub {x y : Int32} : PX q d M pc ml (.inl y :: .inl x :: st) h Q .isub 1 = P d M (pc + 1) ml (.inl (x - y) :: st) h Q := rfl
theorem X_imul {x y : Int32} : PX q d M pc ml (.inl y :: .inl x :: st) h Q .imul 1 = P d M (pc + 1) ml (.inl (x * y) :: st) h Q := rfl
theorem X_iand {x y : Int32} : PX q d M pc ml (.inl y :: .inl x :: st) h Q .iand 1 = P d M (pc + 1) ml (.inl (x &&& y) :: st) h Q := rfl
theorem X_ior {x y : Int32} : PX q d M pc ml (.inl y :: .inl x :: st) h Q .ior 1 = P d M (pc + 1) ml (.inl (x ||| y) :: st) h Q := rfl
theorem X_ishl {x y : Int32} : PX q d M pc ml (.inl y :: .inl x :: st) h Q .ishl 1 = P d M (pc + 1) ml (.inl (x <<< (y &&& 31)) :: st) h Q := rfl
theorem X_ishr {x y : Int32} : PX q d M pc ml (.inl y :: .inl x :: st) h Q .ishr 1 = P d M (pc + 1) ml (.inl (x >>> (y &&& 31)) :: st) h Q := rfl
theorem X_dup {v : MV} : PX q d M pc ml (v :: st) h Q .dup 1 = P d M (pc + 1) ml (v :: v :: st) h Q := rfl
theorem X_pop {v : MV} : PX q d M pc ml (v :: st) h Q .pop 1 = P d M (pc + 1) ml st h Q := rfl
theorem X_goto {off : Int} {t : Nat} (ht : mjmp pc off = some t) : PX q d M pc ml st h Q (.goto off) 3 = P d M t ml st h Q := by simp [PX, mret, mcal, mcalG, mnat, mnatG, mps, mpsG, k_aconst_null, k_iconst, k_bipush, k_sipush, k_ldc, k_iload, k_iload_n, k_aload, k_aload_n, k_istore, k_istore_n, k_astore, k_astore_n, k_iinc, k_iadd, k_isub, k_imul, k_iand, k_ior, k_ishl, k_ishr, k_dup, k_pop, k_goto, k_ifCond, k_if_icmp, k_ifnull, k_ifnonnull, k_getfield, k_putfield, k_iaload, k_baload, k_aaload, k_iastore, k_bastore, k_aastore, k_arraylength, k_new, k_newarray, k_anewarray, k_multianewarray, ht]
theorem X_if {cnd : Jvm.ClassFile.Cond} {off : Int} {t : Nat} {x : Int32} (ht : mjmp pc off = some t) : PX q d M pc ml (.inl x :: st) h Q (.ifCond cnd off) 3 = P d M (if mcmp cnd x 0 then t else pc + 3) ml st h Q := by simp [PX, mret, mcal, mcalG, mnat, mnatG, mps, mpsG, k_aconst_null, k_iconst, k_bipush, k_sipush, k_ldc, k_iload, k_iload_n, k_aload, k_aload_n, k_istore, k_istore_n, k_astore, k_astore_n, k_iinc, k_iadd, k_isub, k_imul, k_iand, k_ior, k_ishl, k_ishr, k_dup, k_pop, k_goto, k_ifCond, k_if_icmp, k_ifnull, k_ifnonnull, k_getfield, k_putfield, k_iaload, k_baload, k_aaload, k_iastore, k_bastore, k_aastore, k_arraylength, k_new, k_newarray, k_anewarray, k_multianewarray, ht]
theorem X_icmp {cnd : Jvm.ClassFile.Cond} {off : Int} {t : Nat} {x y : Int32} (ht : mjmp pc off = some t) : PX q d M pc ml (.inl y :: .inl x :: st) h Q (.if_icmp cnd off) 3 = P d M (if mcmp cnd x y then t else pc + 3) ml st h Q := by simp [PX, mret, mcal, mcalG, mnat, mnatG, mps, mpsG, k_aconst_null, k_iconst, k_bipush, k_sipush, k_ldc, k_iload, k_iload_n, k_aload, k_aload_n, k_istore, k_istore_n, k_astore, k_astore_n, k_iinc, k_iadd, k_isub, k_imul, k_iand, k_ior, k_ishl, k_ishr, k_dup, k_pop, k_goto, k_ifCond, k_if_icmp, k_ifnull, k_ifnonnull, k_getfield, k_putfield, k_iaload, k_baload, k_aaload, k_iastore, k_bastore, k_aastore, k_arraylength, k_new, k_newarray, k_anewarray, k_multianewarray, ht]
theorem X_iret {x : Int32} {ty : FieldType} (hr : q.2.2.2.1 = some ty) (hf : mfit ty (.inl x) = true) : PX q d M pc ml [.inl x] h Q .ireturn 1 = Q (some (.inl x)) h := by simp [PX, mret, hr, hf]
theorem X_aret {x : Option Nat} {ty : FieldType} (hr : q.2.2.2.1 = some ty) (hf : mfit ty (.inr x) = true) : PX q d M pc ml [.inr x] h Q .areturn 1 = Q (some (.inr x)) h := by simp [PX, mret, hr, hf]
theorem X_vret (hr : q.2.2.2.1 = none) : PX q d M pc ml [] h Q .return_ 1 = Q none h := by simp [PX, mret, hr]
end XL
