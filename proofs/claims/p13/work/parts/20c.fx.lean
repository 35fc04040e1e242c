/-! THE FAST FORM: the same runs over the decoded and linked rows -/
def fget (M j : Nat) : Option FI := (((ftt[M / 12]?).bind (·[M % 12]?)).bind (·[j / 16]?)).bind (·[j % 16]?)
/-- the link of an instruction, as the tables have it -/
def flk (own : Nat) (ig : Instr) (a b : Nat) : Bool := match ig with
  | .getfield i => mk2 mlF own i == some (a, b)
  | .putfield i => mk2 mlF own i == some (a, b)
  | .new i => mk2 mlN own i == some a
  | .anewarray i => mk2 mlA own i == some a
  | .checkcast i => mk2 mlA own i == some a
  | .multianewarray i _ => mk2 mlA own i == some a
  | .ldc i => mk2 mlC own i == some (Int32.ofNat a)
  | .invokevirtual i => mk2 mlM own i == some (a, b)
  | .invokestatic i => mk2 mlM own i == some (a, b)
  | .invokespecial i => mk2 mlM own i == some (a, b)
  | _ => true
def fpc (M j : Nat) : Option Nat := (fget M j).map (·.1)
/-- the rows that an instruction goes on to -/
def fto (M : Nat) (ig : Instr) (pc len nj tj : Nat) : Bool := match ig with
  | .goto off => fpc M tj == mjmp pc off && (mjmp pc off).isSome
  | .ifCond _ off => fpc M tj == mjmp pc off && (mjmp pc off).isSome && fpc M nj == some (pc + 3)
  | .if_icmp _ off => fpc M tj == mjmp pc off && (mjmp pc off).isSome && fpc M nj == some (pc + 3)
  | .ifnull off => fpc M tj == mjmp pc off && (mjmp pc off).isSome && fpc M nj == some (pc + 3)
  | .ifnonnull off => fpc M tj == mjmp pc off && (mjmp pc off).isSome && fpc M nj == some (pc + 3)
  | .ireturn => true
  | .areturn => true
  | .return_ => true
  | .athrow => true
  | _ => fpc M nj == some (pc + len)
/-- the class of an instruction: 0 plain, 1 jumps, 2 returns, 3 calls, 4 not come to -/
def fcl : Instr → Nat
  | .goto _ => 1
  | .ifCond _ _ => 1
  | .if_icmp _ _ => 1
  | .ifnull _ => 1
  | .ifnonnull _ => 1
  | .ireturn => 2
  | .areturn => 2
  | .return_ => 2
  | .invokevirtual _ => 3
  | .invokestatic _ => 3
  | .invokespecial _ => 3
  | .checkcast _ => 3
  | .athrow => 4
  | _ => 0
def fck (M : Nat) (q : MM) (x : FI) : Bool := x.2.2.2.2.2.2.2 == 4 || fcl x.2.1 == x.2.2.2.2.2.2.2 && decide (decode q.2.1 x.1 = .ok (x.2.1, x.2.2.1)) && flk q.2.2.2.2.1 x.2.1 x.2.2.2.2.2.1 x.2.2.2.2.2.2.1 && fto M x.2.1 x.1 x.2.2.1 x.2.2.2.1 x.2.2.2.2.1
/-- a method's rows hold -/
def Fok (M : Nat) : Prop := ∀ q, mmt[M]? = some q → (∀ j x, fget M j = some x → fck M q x = true) ∧ fpc M 0 = some 0
def fcm (M : Nat) : Bool := match mmt[M]?, (ftt[M / 12]?).bind (·[M % 12]?) with
  | some q, some l => l.all (fun r => r.all (fck M q)) && fpc M 0 == some 0
  | _, _ => false
theorem Fok_of {M : Nat} (h : fcm M = true) : Fok M := by
  intro q hq
  unfold fcm at h
  rw [hq] at h
  split at h
  · next q2 l h1 h2 =>
    cases h1
    simp only [Bool.and_eq_true, beq_iff_eq] at h
    refine ⟨fun j x hx => ?_, h.2⟩
    unfold fget at hx
    rw [h2] at hx
    simp only [Option.bind_some] at hx
    obtain ⟨r, hr, hr2⟩ := Option.bind_eq_some_iff.mp hx
    exact List.all_eq_true.mp (List.all_eq_true.mp h.1 r (List.mem_of_getElem? hr)) x (List.mem_of_getElem? hr2)
  · cases h
theorem mpsG_lk {own : Nat} {ini : Bool} {ig : Instr} {len pc a b : Nat} {ml : List (Option MV)} {st : List MV} {h : List MC} (hl : flk own ig a b = true) : mpsG (fun _ => some (a, b)) (fun _ => some a) (fun _ => some a) (fun _ => some (Int32.ofNat a)) own ini ig len pc ml st h = mps own ini ig len pc ml st h := by
  cases ig <;> first | rfl | (simp only [flk, beq_iff_eq] at hl; simp only [mps, mpsG, k_aconst_null, k_iconst, k_bipush, k_sipush, k_ldc, k_iload, k_iload_n, k_aload, k_aload_n, k_istore, k_istore_n, k_astore, k_astore_n, k_iinc, k_iadd, k_isub, k_imul, k_iand, k_ior, k_ishl, k_ishr, k_dup, k_pop, k_goto, k_ifCond, k_if_icmp, k_ifnull, k_ifnonnull, k_getfield, k_putfield, k_iaload, k_baload, k_aaload, k_iastore, k_bastore, k_aastore, k_arraylength, k_new, k_newarray, k_anewarray, k_multianewarray, hl])
theorem mcalG_lk {own d : Nat} {ig : Instr} {len a b : Nat} {st : List MV} {h : List MC} (hl : flk own ig a b = true) : mcalG (fun _ => some (a, b)) d ig len st h = mcal own d ig len st h := by
  cases ig <;> first | rfl | (simp only [flk, beq_iff_eq] at hl; simp only [mcal, mcalG, hl])
theorem mnatG_lk {own d : Nat} {ig : Instr} {len pc a b : Nat} {ml : List (Option MV)} {st : List MV} {h : List MC} (hl : flk own ig a b = true) : mnatG (fun _ => some (a, b)) (fun _ => some a) d ig len pc ml st h = mnat own d ig len pc ml st h := by
  cases ig <;> first | rfl | (simp only [flk, beq_iff_eq] at hl; simp only [mnat, mnatG, hl])
/-- an instruction that jumps -/
def fjp : Instr → Bool
  | .goto _ => true
  | .ifCond _ _ => true
  | .if_icmp _ _ => true
  | .ifnull _ => true
  | .ifnonnull _ => true
  | _ => false
theorem map_pc {α : Type} {x : Option α} {f : α → MS} {q : MS} {k : Nat} (hx : x.map f = some q) (hf : ∀ y, (f y).1 = k) : q.1 = k := by
  obtain ⟨y, -, rfl⟩ := Option.map_eq_some_iff.mp hx
  exact hf y
set_option maxHeartbeats 4000000 in
theorem mps_pc {own : Nat} {ini : Bool} {ig : Instr} {len pc : Nat} {ml : List (Option MV)} {st : List MV} {h : List MC} {q : MS} (hj : fjp ig = false) (hps : mps own ini ig len pc ml st h = some q) : q.1 = pc + len := by
  cases ig
  all_goals (first | (simp [fjp] at hj; done) | skip)
  all_goals (simp only [mps, mpsG, k_aconst_null, k_iconst, k_bipush, k_sipush, k_ldc, k_iload, k_iload_n, k_aload, k_aload_n, k_istore, k_istore_n, k_astore, k_astore_n, k_iinc, k_iadd, k_isub, k_imul, k_iand, k_ior, k_ishl, k_ishr, k_dup, k_pop, k_goto, k_ifCond, k_if_icmp, k_ifnull, k_ifnonnull, k_getfield, k_putfield, k_iaload, k_baload, k_aaload, k_iastore, k_bastore, k_aastore, k_arraylength, k_new, k_newarray, k_anewarray, k_multianewarray] at hps)
  all_goals (first | (cases hps; done) | skip)
  all_goals (repeat' (split at hps))
  all_goals (first | (cases hps; done) | skip)
  all_goals (first
    | (cases hps; simp only; omega)
    | exact map_pc hps (fun _ => by simp only; omega))
theorem mnat_pc {own d : Nat} {ig : Instr} {len pc : Nat} {ml : List (Option MV)} {st : List MV} {h : List MC} {q : MS} (hps : mnat own d ig len pc ml st h = some q) : q.1 = pc + len ∧ len = 3 := by
  unfold mnat mnatG at hps
  split at hps
  all_goals (repeat' (split at hps))
  all_goals (first | (cases hps; done) | skip)
  all_goals (cases hps; simp only; omega)
theorem mcal_len {own d : Nat} {ig : Instr} {len : Nat} {st : List MV} {h : List MC} {q : Nat × Nat × List MV × List MV} (hc : mcal own d ig len st h = some q) : len = 3 := by
  unfold mcal mcalG at hc
  split at hc
  all_goals (repeat' (split at hc))
  all_goals (first | (cases hc; done) | skip)
  all_goals (omega)
def fx : Nat → Nat → Nat → Nat → List (Option MV) → List MV → List MC → Option (Option MV × List MC)
  | 0, _, _, _, _, _, _ => none
  | n + 1, d, M, j, ml, st, h => match fget M j with
    | none => none
    | some (pc, ig, len, nj, tj, a, b, cl) => match mmt[M]? with
      | none => none
      | some q => match cl with
        | 0 => match mpsG (fun _ => some (a, b)) (fun _ => some a) (fun _ => some a) (fun _ => some (Int32.ofNat a)) q.2.2.2.2.1 (q.1.name == "<init>") ig len pc ml st h with
          | some u => fx n d M nj u.2.1 u.2.2.1 u.2.2.2
          | none => none
        | 1 => match ig with
          | .goto _ => if len = 3 then fx n d M tj ml st h else none
          | .ifCond c _ => match st with
            | .inl x :: st => if len = 3 then (match mcmp c x 0 with
              | true => fx n d M tj ml st h
              | false => fx n d M nj ml st h) else none
            | _ => none
          | .if_icmp c _ => match st with
            | .inl y :: .inl x :: st => if len = 3 then (match mcmp c x y with
              | true => fx n d M tj ml st h
              | false => fx n d M nj ml st h) else none
            | _ => none
          | .ifnull _ => match st with
            | .inr none :: st => if len = 3 then fx n d M tj ml st h else none
            | .inr (some _) :: st => if len = 3 then fx n d M nj ml st h else none
            | _ => none
          | .ifnonnull _ => match st with
            | .inr none :: st => if len = 3 then fx n d M nj ml st h else none
            | .inr (some _) :: st => if len = 3 then fx n d M tj ml st h else none
            | _ => none
          | _ => none
        | 2 => match mret q.2.2.2.1 ig len st with
          | some r => some (r, h)
          | none => none
        | 3 => match mcalG (fun _ => some (a, b)) d ig len st h with
            | some (M', d', as, rest) => match mmt[M']? with
              | none => none
              | some q' => match fx n d' M' 0 (as.map some ++ List.replicate (q'.2.2.1 - as.length) none) [] h with
                | none => none
                | some r => fx n d M nj ml (r.1.toList ++ rest) r.2
            | none => match mnatG (fun _ => some (a, b)) (fun _ => some a) d ig len pc ml st h with
              | some u => fx n d M nj u.2.1 u.2.2.1 u.2.2.2
              | none => none
        | _ => none
theorem fcl0 {ig : Instr} (h : fcl ig = 0) : fjp ig = false ∧ (∀ ret len st, mret ret ig len st = none) ∧ (∀ own d len st h, mcal own d ig len st h = none) ∧ ∀ own d len pc ml st h, mnat own d ig len pc ml st h = none := by
  cases ig <;> first | (simp [fcl] at h; done) | exact ⟨rfl, fun _ _ _ => rfl, fun _ _ _ _ _ => rfl, fun _ _ _ _ _ _ _ => rfl⟩
theorem fcl3 {ig : Instr} (h : fcl ig = 3) : ∀ ret len st, mret ret ig len st = none := by
  cases ig <;> first | (simp [fcl] at h; done) | exact fun _ _ _ => rfl
