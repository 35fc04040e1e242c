/-! CALLS AND WHOLE RUNS OF THE SMALL MACHINE -/
abbrev MM : Type := MethodName × ByteArray × Nat × Option FieldType × Nat × Nat
def mret (ret : Option FieldType) (ig : Instr) (len : Nat) (st : List MV) : Option (Option MV) := match ig with
  | .ireturn => match st, ret with
    | [.inl v], some ty => if len = 1 ∧ mfit ty (.inl v) = true then some (some (.inl v)) else none
    | _, _ => none
  | .areturn => match st, ret with
    | [.inr v], some ty => if len = 1 ∧ mfit ty (.inr v) = true then some (some (.inr v)) else none
    | _, _ => none
  | .return_ => match st, ret with
    | [], none => if len = 1 then some none else none
    | _, _ => none
  | _ => none
/-- a call of a method with code: the method, how many frames it may have above it, what it is given, what stays on the stack -/
def mcalG (lM : Nat → Option (Nat × Nat)) (d : Nat) (ig : Instr) (len : Nat) (st : List MV) (h : List MC) : Option (Nat × Nat × List MV × List MV) := match ig with
  | .invokevirtual i => match lM i, d with
    | some (0, M'), d' + 1 => match mmt[M']? with
      | some q => match st.drop q.2.2.2.2.2 with
        | .inr (some b) :: rest => match h[b]? with
          | some (t, _) => if len = 3 ∧ t = 10 + q.2.2.2.2.1 ∧ q.2.2.2.2.1 < 12 ∧ rest.length ≤ 8 ∧ 1 + q.2.2.2.2.2 ≤ q.2.2.1 ∧ q.2.2.1 ≤ 22 then some (M', d', .inr (some b) :: (st.take q.2.2.2.2.2).reverse, rest) else none
          | none => none
        | _ => none
      | none => none
    | _, _ => none
  | .invokestatic i => match lM i, d with
    | some (kd, M'), d' + 1 => match mmt[M']? with
      | some q => if len = 3 ∧ (kd = 1 ∨ kd = 5) ∧ q.2.2.2.2.2 ≤ st.length ∧ (st.drop q.2.2.2.2.2).length ≤ 8 ∧ q.2.2.2.2.2 ≤ q.2.2.1 ∧ q.2.2.1 ≤ 22 then some (M', d', (st.take q.2.2.2.2.2).reverse, st.drop q.2.2.2.2.2) else none
      | none => none
    | _, _ => none
  | .invokespecial i => match lM i, d with
    | some (kd, M'), d' + 1 => match mmt[M']? with
      | some q => match st.drop q.2.2.2.2.2 with
        | .inr (some b) :: rest => if len = 3 ∧ (kd = 2 ∨ kd = 6) ∧ rest.length ≤ 8 ∧ 1 + q.2.2.2.2.2 ≤ q.2.2.1 ∧ q.2.2.1 ≤ 22 ∧ q.2.2.2.1 = none then some (M', d', .inr (some b) :: (st.take q.2.2.2.2.2).reverse, rest) else none
        | _ => none
      | none => none
    | _, _ => none
  | _ => none
def mcal (own d : Nat) (ig : Instr) (len : Nat) (st : List MV) (h : List MC) : Option (Nat × Nat × List MV × List MV) := mcalG (mk2 mlM own) d ig len st h
/-- Object's constructor, arraycopy, min, clone -/
def mnatG (lM : Nat → Option (Nat × Nat)) (lA : Nat → Option Nat) (d : Nat) (ig : Instr) (len pc : Nat) (ml : List (Option MV)) (st : List MV) (h : List MC) : Option MS := match ig with
  | .invokespecial i => match lM i, st with
    | some (3, _), .inr (some _) :: rest => if len = 3 ∧ 0 < d ∧ rest.length ≤ 8 then some (pc + 3, ml, rest, h) else none
    | _, _ => none
  | .invokestatic i => match lM i, st with
    | some (4, _), .inl n :: .inl dp :: .inr (some b) :: .inl sp :: .inr (some a) :: rest => match h[a]?, h[b]? with
      | some (0, us), some (0, vs) => if len = 3 ∧ 0 < d ∧ rest.length ≤ 8 ∧ ¬ sp < 0 ∧ ¬ dp < 0 ∧ ¬ n < 0 ∧ sp.toNatClampNeg + n.toNatClampNeg ≤ us.length ∧ dp.toNatClampNeg + n.toNatClampNeg ≤ vs.length then
          some (pc + 3, ml, rest, h.set b (0, vs.take dp.toNatClampNeg ++ ((us.drop sp.toNatClampNeg).take n.toNatClampNeg ++ vs.drop (dp.toNatClampNeg + n.toNatClampNeg)))) else none
      | _, _ => none
    | some (7, _), .inl y :: .inl x :: rest => if len = 3 ∧ 0 < d ∧ rest.length ≤ 8 then some (pc + 3, ml, .inl (if y < x then y else x) :: rest, h) else none
    | _, _ => none
  | .invokevirtual i => match lM i, st with
    | some (8, _), .inr (some a) :: rest => match h[a]? with
      | some (0, vs) => if len = 3 ∧ 0 < d ∧ rest.length ≤ 8 then some (pc + 3, ml, .inr (some h.length) :: rest, h ++ [(0, vs)]) else none
      | _ => none
    | _, _ => none
  | .checkcast i => match lA i, st with
    | some 2, .inr (some a) :: rest => match h[a]? with
      | some (0, _) => if len = 3 then some (pc + 3, ml, .inr (some a) :: rest, h) else none
      | _ => none
    | _, _ => none
  | _ => none
def mnat (own d : Nat) (ig : Instr) (len pc : Nat) (ml : List (Option MV)) (st : List MV) (h : List MC) : Option MS := mnatG (mk2 mlM own) (mk2 mlA own) d ig len pc ml st h
/-- a whole run of method M from pc on, to its answer; d: how many frames may stand above -/
def mx : Nat → Nat → Nat → Nat → List (Option MV) → List MV → List MC → Option (Option MV × List MC)
  | 0, _, _, _, _, _, _ => none
  | n + 1, d, M, pc, ml, st, h => match mmt[M]? with
    | none => none
    | some q => match decode q.2.1 pc with
      | .error _ => none
      | .ok (ig, len) => match mret q.2.2.2.1 ig len st with
        | some r => some (r, h)
        | none => match mcal q.2.2.2.2.1 d ig len st h with
          | some (M', d', as, rest) => match mmt[M']? with
            | none => none
            | some q' => (mx n d' M' 0 (as.map some ++ List.replicate (q'.2.2.1 - as.length) none) [] h).bind fun r => mx n d M (pc + 3) ml (r.1.toList ++ rest) r.2
          | none => match mnat q.2.2.2.2.1 d ig len pc ml st h with
            | some u => mx n d M u.1 u.2.1 u.2.2.1 u.2.2.2
            | none => match mps q.2.2.2.2.1 (q.1.name == "<init>") ig len pc ml st h with
              | some u => mx n d M u.1 u.2.1 u.2.2.1 u.2.2.2
              | none => none
theorem mnat_mono {own d : Nat} {ig : Instr} {len pc : Nat} {ml : List (Option MV)} {st : List MV} {h : List MC} {q : MS} (hps : mnat own d ig len pc ml st h = some q) : hle h q.2.2.2 := by
  unfold mnat mnatG at hps
  split at hps
  all_goals (repeat' (split at hps))
  all_goals (first | (cases hps; done) | skip)
  all_goals (first
    | (cases hps; exact hle_rf _)
    | (cases hps; exact hle_app _ _)
    | (cases hps; exact hle_set (by assumption) (by simp only [List.length_append, List.length_take, List.length_drop]; omega)))
theorem mx_mono : ∀ {n d M pc : Nat} {ml : List (Option MV)} {st : List MV} {h : List MC} {r : Option MV × List MC}, mx n d M pc ml st h = some r → hle h r.2
  | 0, _, _, _, _, _, _, _, hr => by simp [mx] at hr
  | n + 1, d, M, pc, ml, st, h, r, hr => by
    unfold mx at hr
    split at hr
    · cases hr
    · split at hr
      · cases hr
      · split at hr
        · cases hr; exact hle_rf _
        · split at hr
          · split at hr
            · cases hr
            · obtain ⟨r1, h1, h2⟩ := Option.bind_eq_some_iff.mp hr
              exact hle_tr (mx_mono h1) (mx_mono h2)
          · split at hr
            · next u hu => exact hle_tr (mnat_mono hu) (mx_mono hr)
            · split at hr
              · next u hu => exact hle_tr (mps_mono hu) (mx_mono hr)
              · cases hr
