/-! THE SMALL MACHINE: ints and references to numbered cells; a cell is a kind and its contents (0 int[], 1 boolean[], 2 int[][], 3 int[][][], 4 boolean[][], 10 + k an object of class k) -/
abbrev MV : Type := Int32 ⊕ Option Nat
abbrev MC : Type := Nat × List MV
abbrev MS : Type := Nat × List (Option MV) × List MV × List MC
def mk2 {β : Type} (l : List (Nat × Nat × β)) (o i : Nat) : Option β := (l.find? fun e => e.1 == o && e.2.1 == i).map (·.2.2)
/-- what a field or a place of a type may hold -/
def mfit (ty : FieldType) (v : MV) : Bool := match ty, v with
  | .int, .inl _ => true
  | .boolean, .inl x => x == 0 || x == 1
  | .object _, .inr _ => true
  | .array _, .inr _ => true
  | _, _ => false
/-- what a new field or place holds -/
def mdef (ty : FieldType) : MV := match ty with
  | .object _ => .inr none
  | .array _ => .inr none
  | _ => .inl 0
def mjmp (pc : Nat) (off : Int) : Option Nat := if 0 ≤ (pc : Int) + off then some ((pc : Int) + off).toNat else none
def mcmp (c : Jvm.ClassFile.Cond) (x y : Int32) : Bool := match c with
  | .eq => x == y
  | .ne => !(x == y)
  | .lt => decide (x < y)
  | .ge => decide (y ≤ x)
  | .gt => decide (y < x)
  | .le => decide (x ≤ y)
/-- the kind of what a place of an array of references holds -/
def melt : Nat → Nat
  | 2 => 0
  | 3 => 2
  | 4 => 1
  | _ => 99
/-- the place of an index within -/
def mix (i : Int32) (n : Nat) : Option Nat := if i < 0 then none else if i.toNatClampNeg < n then some i.toNatClampNeg else none
def mslots : List MC → Nat
  | [] => 0
  | c :: h => c.2.length + mslots h
def mld (ml : List (Option MV)) (k : Nat) : Option MV := match ml[k]? with
  | some (some v) => some v
  | _ => none
def mint (v : Option MV) : Option Int32 := match v with
  | some (.inl x) => some x
  | _ => none
def mref (v : Option MV) : Option (Option Nat) := match v with
  | some (.inr x) => some x
  | _ => none
/-! one instruction that neither calls nor returns -/
/-- new boolean[N][K], from the cell n0 on -/
def mgrid (n0 N K : Nat) : List MC := (4, (List.range N).map fun i => .inr (some (n0 + 1 + i))) :: List.replicate N (1, List.replicate K (.inl 0))
def k_multianewarray (i : Nat) (dm : Nat) (lA : Nat → Option Nat) (len : Nat) (pc : Nat) (ml : List (Option MV)) (st : List MV) (h : List MC) : Option MS := match st, lA i with
    | .inl k :: .inl n :: st, some 4 => if len = 4 ∧ dm = 2 ∧ ¬ n < 0 ∧ ¬ k < 0 ∧ n.toNatClampNeg ≤ 1000 ∧ k.toNatClampNeg ≤ 1000 then some (pc + 4, ml, .inr (some h.length) :: st, h ++ mgrid h.length n.toNatClampNeg k.toNatClampNeg) else none
    | _, _ => none
def k_aconst_null (len : Nat) (pc : Nat) (ml : List (Option MV)) (st : List MV) (h : List MC) : Option MS := if len = 1 then some (pc + 1, ml, .inr none :: st, h) else none
def k_iconst (i : Int) (len : Nat) (pc : Nat) (ml : List (Option MV)) (st : List MV) (h : List MC) : Option MS := if len = 1 then some (pc + 1, ml, .inl (Int32.ofInt i) :: st, h) else none
def k_bipush (i : Int) (len : Nat) (pc : Nat) (ml : List (Option MV)) (st : List MV) (h : List MC) : Option MS := if len = 2 then some (pc + 2, ml, .inl (Int8.ofInt i).toInt32 :: st, h) else none
def k_sipush (i : Int) (len : Nat) (pc : Nat) (ml : List (Option MV)) (st : List MV) (h : List MC) : Option MS := if len = 3 then some (pc + 3, ml, .inl (Int16.ofInt i).toInt32 :: st, h) else none
def k_ldc (i : Nat) (lC : Nat → Option Int32) (len : Nat) (pc : Nat) (ml : List (Option MV)) (st : List MV) (h : List MC) : Option MS := if len = 2 then (lC i).map fun v => (pc + 2, ml, .inl v :: st, h) else none
def k_iload (k : Nat) (len : Nat) (pc : Nat) (ml : List (Option MV)) (st : List MV) (h : List MC) : Option MS := if len = 2 then (mint (mld ml k)).map fun x => (pc + 2, ml, .inl x :: st, h) else none
def k_iload_n (k : Fin 4) (len : Nat) (pc : Nat) (ml : List (Option MV)) (st : List MV) (h : List MC) : Option MS := if len = 1 then (mint (mld ml k.val)).map fun x => (pc + 1, ml, .inl x :: st, h) else none
def k_aload (k : Nat) (len : Nat) (pc : Nat) (ml : List (Option MV)) (st : List MV) (h : List MC) : Option MS := if len = 2 then (mref (mld ml k)).map fun x => (pc + 2, ml, .inr x :: st, h) else none
def k_aload_n (k : Fin 4) (len : Nat) (pc : Nat) (ml : List (Option MV)) (st : List MV) (h : List MC) : Option MS := if len = 1 then (mref (mld ml k.val)).map fun x => (pc + 1, ml, .inr x :: st, h) else none
def k_istore (k : Nat) (len : Nat) (pc : Nat) (ml : List (Option MV)) (st : List MV) (h : List MC) : Option MS := match st with
    | .inl x :: st => if len = 2 ∧ k < ml.length then some (pc + 2, ml.set k (some (.inl x)), st, h) else none
    | _ => none
def k_istore_n (k : Fin 4) (len : Nat) (pc : Nat) (ml : List (Option MV)) (st : List MV) (h : List MC) : Option MS := match st with
    | .inl x :: st => if len = 1 ∧ k.val < ml.length then some (pc + 1, ml.set k.val (some (.inl x)), st, h) else none
    | _ => none
def k_astore (k : Nat) (len : Nat) (pc : Nat) (ml : List (Option MV)) (st : List MV) (h : List MC) : Option MS := match st with
    | .inr x :: st => if len = 2 ∧ k < ml.length then some (pc + 2, ml.set k (some (.inr x)), st, h) else none
    | _ => none
def k_astore_n (k : Fin 4) (len : Nat) (pc : Nat) (ml : List (Option MV)) (st : List MV) (h : List MC) : Option MS := match st with
    | .inr x :: st => if len = 1 ∧ k.val < ml.length then some (pc + 1, ml.set k.val (some (.inr x)), st, h) else none
    | _ => none
def k_iinc (k : Nat) (n : Int) (len : Nat) (pc : Nat) (ml : List (Option MV)) (st : List MV) (h : List MC) : Option MS := if len = 3 ∧ k < ml.length then (mint (mld ml k)).map fun x => (pc + 3, ml.set k (some (.inl (x + Int32.ofInt n))), st, h) else none
def k_iadd (len : Nat) (pc : Nat) (ml : List (Option MV)) (st : List MV) (h : List MC) : Option MS := match st with
    | .inl y :: .inl x :: st => if len = 1 then some (pc + 1, ml, .inl (x + y) :: st, h) else none
    | _ => none
def k_isub (len : Nat) (pc : Nat) (ml : List (Option MV)) (st : List MV) (h : List MC) : Option MS := match st with
    | .inl y :: .inl x :: st => if len = 1 then some (pc + 1, ml, .inl (x - y) :: st, h) else none
    | _ => none
def k_imul (len : Nat) (pc : Nat) (ml : List (Option MV)) (st : List MV) (h : List MC) : Option MS := match st with
    | .inl y :: .inl x :: st => if len = 1 then some (pc + 1, ml, .inl (x * y) :: st, h) else none
    | _ => none
def k_iand (len : Nat) (pc : Nat) (ml : List (Option MV)) (st : List MV) (h : List MC) : Option MS := match st with
    | .inl y :: .inl x :: st => if len = 1 then some (pc + 1, ml, .inl (x &&& y) :: st, h) else none
    | _ => none
def k_ior (len : Nat) (pc : Nat) (ml : List (Option MV)) (st : List MV) (h : List MC) : Option MS := match st with
    | .inl y :: .inl x :: st => if len = 1 then some (pc + 1, ml, .inl (x ||| y) :: st, h) else none
    | _ => none
def k_ishl (len : Nat) (pc : Nat) (ml : List (Option MV)) (st : List MV) (h : List MC) : Option MS := match st with
    | .inl y :: .inl x :: st => if len = 1 then some (pc + 1, ml, .inl (x <<< (y &&& 31)) :: st, h) else none
    | _ => none
def k_ishr (len : Nat) (pc : Nat) (ml : List (Option MV)) (st : List MV) (h : List MC) : Option MS := match st with
    | .inl y :: .inl x :: st => if len = 1 then some (pc + 1, ml, .inl (x >>> (y &&& 31)) :: st, h) else none
    | _ => none
def k_dup (len : Nat) (pc : Nat) (ml : List (Option MV)) (st : List MV) (h : List MC) : Option MS := match st with
    | v :: st => if len = 1 then some (pc + 1, ml, v :: v :: st, h) else none
    | _ => none
def k_pop (len : Nat) (pc : Nat) (ml : List (Option MV)) (st : List MV) (h : List MC) : Option MS := match st with
    | _ :: st => if len = 1 then some (pc + 1, ml, st, h) else none
    | _ => none
def k_goto (off : Int) (len : Nat) (pc : Nat) (ml : List (Option MV)) (st : List MV) (h : List MC) : Option MS := if len = 3 then (mjmp pc off).map fun t => (t, ml, st, h) else none
def k_ifCond (cnd : Jvm.ClassFile.Cond) (off : Int) (len : Nat) (pc : Nat) (ml : List (Option MV)) (st : List MV) (h : List MC) : Option MS := match st with
    | .inl x :: st => if len = 3 then (mjmp pc off).map fun t => (if mcmp cnd x 0 then t else pc + 3, ml, st, h) else none
    | _ => none
def k_if_icmp (cnd : Jvm.ClassFile.Cond) (off : Int) (len : Nat) (pc : Nat) (ml : List (Option MV)) (st : List MV) (h : List MC) : Option MS := match st with
    | .inl y :: .inl x :: st => if len = 3 then (mjmp pc off).map fun t => (if mcmp cnd x y then t else pc + 3, ml, st, h) else none
    | _ => none
def k_ifnull (off : Int) (len : Nat) (pc : Nat) (ml : List (Option MV)) (st : List MV) (h : List MC) : Option MS := match st with
    | .inr none :: st => if len = 3 then (mjmp pc off).map fun t => (t, ml, st, h) else none
    | .inr (some _) :: st => if len = 3 then some (pc + 3, ml, st, h) else none
    | _ => none
def k_ifnonnull (off : Int) (len : Nat) (pc : Nat) (ml : List (Option MV)) (st : List MV) (h : List MC) : Option MS := match st with
    | .inr (some _) :: st => if len = 3 then (mjmp pc off).map fun t => (t, ml, st, h) else none
    | .inr none :: st => if len = 3 then some (pc + 3, ml, st, h) else none
    | _ => none
def k_getfield (i : Nat) (lF : Nat → Option (Nat × Nat)) (len : Nat) (pc : Nat) (ml : List (Option MV)) (st : List MV) (h : List MC) : Option MS := match st with
    | .inr (some a) :: st => match lF i, h[a]? with
      | some (ci, k), some (t, vs) => if len = 3 ∧ t = 10 + ci then (vs[k]?).map fun v => (pc + 3, ml, v :: st, h) else none
      | _, _ => none
    | _ => none
def k_putfield (i : Nat) (lF : Nat → Option (Nat × Nat)) (own : Nat) (ini : Bool) (len : Nat) (pc : Nat) (ml : List (Option MV)) (st : List MV) (h : List MC) : Option MS := match st with
    | v :: .inr (some a) :: st => match lF i, h[a]? with
      | some (ci, k), some (t, vs) => match mcl[ci]?, (mty.getD ci [])[k]? with
        | some q, some ty => if len = 3 ∧ t = 10 + ci ∧ k < vs.length ∧ k < q.2.2 ∧ mfit ty v = true ∧ ((q.2.1 k).2.2.2 = true → ini = true ∧ own = ci) then some (pc + 3, ml, st, h.set a (t, vs.set k v)) else none
        | _, _ => none
      | _, _ => none
    | _ => none
def k_iaload (len : Nat) (pc : Nat) (ml : List (Option MV)) (st : List MV) (h : List MC) : Option MS := match st with
    | .inl i :: .inr (some a) :: st => match h[a]? with
      | some (0, vs) => if len = 1 then (mint ((mix i vs.length).bind fun j => vs[j]?)).map fun x => (pc + 1, ml, .inl x :: st, h) else none
      | _ => none
    | _ => none
def k_baload (len : Nat) (pc : Nat) (ml : List (Option MV)) (st : List MV) (h : List MC) : Option MS := match st with
    | .inl i :: .inr (some a) :: st => match h[a]? with
      | some (1, vs) => if len = 1 then (mint ((mix i vs.length).bind fun j => vs[j]?)).map fun x => (pc + 1, ml, .inl x :: st, h) else none
      | _ => none
    | _ => none
def k_aaload (len : Nat) (pc : Nat) (ml : List (Option MV)) (st : List MV) (h : List MC) : Option MS := match st with
    | .inl i :: .inr (some a) :: st => match h[a]? with
      | some (t, vs) => if len = 1 ∧ (t = 2 ∨ t = 3 ∨ t = 4) then (mref ((mix i vs.length).bind fun j => vs[j]?)).map fun x => (pc + 1, ml, .inr x :: st, h) else none
      | _ => none
    | _ => none
def k_iastore (len : Nat) (pc : Nat) (ml : List (Option MV)) (st : List MV) (h : List MC) : Option MS := match st with
    | .inl x :: .inl i :: .inr (some a) :: st => match h[a]? with
      | some (0, vs) => if len = 1 then (mix i vs.length).map fun j => (pc + 1, ml, st, h.set a (0, vs.set j (.inl x))) else none
      | _ => none
    | _ => none
def k_bastore (len : Nat) (pc : Nat) (ml : List (Option MV)) (st : List MV) (h : List MC) : Option MS := match st with
    | .inl x :: .inl i :: .inr (some a) :: st => match h[a]? with
      | some (1, vs) => if len = 1 ∧ (x = 0 ∨ x = 1) then (mix i vs.length).map fun j => (pc + 1, ml, st, h.set a (1, vs.set j (.inl x))) else none
      | _ => none
    | _ => none
def k_aastore (len : Nat) (pc : Nat) (ml : List (Option MV)) (st : List MV) (h : List MC) : Option MS := match st with
    | .inr (some b) :: .inl i :: .inr (some a) :: st => match h[a]?, h[b]? with
      | some (t, vs), some (u, _) => if len = 1 ∧ (t = 2 ∨ t = 3 ∨ t = 4) ∧ u = melt t then (mix i vs.length).map fun j => (pc + 1, ml, st, h.set a (t, vs.set j (.inr (some b)))) else none
      | _, _ => none
    | .inr none :: .inl i :: .inr (some a) :: st => match h[a]? with
      | some (t, vs) => if len = 1 ∧ (t = 2 ∨ t = 3 ∨ t = 4) then (mix i vs.length).map fun j => (pc + 1, ml, st, h.set a (t, vs.set j (.inr none))) else none
      | _ => none
    | _ => none
def k_arraylength (len : Nat) (pc : Nat) (ml : List (Option MV)) (st : List MV) (h : List MC) : Option MS := match st with
    | .inr (some a) :: st => match h[a]? with
      | some (t, vs) => if len = 1 ∧ t < 5 then some (pc + 1, ml, .inl (Int32.ofNat vs.length) :: st, h) else none
      | _ => none
    | _ => none
def k_new (i : Nat) (lN : Nat → Option Nat) (len : Nat) (pc : Nat) (ml : List (Option MV)) (st : List MV) (h : List MC) : Option MS := match lN i with
    | some ci => if len = 3 then some (pc + 3, ml, .inr (some h.length) :: st, h ++ [(10 + ci, (mty.getD ci []).map mdef)]) else none
    | _ => none
def k_newarray (ty : ArrayType) (len : Nat) (pc : Nat) (ml : List (Option MV)) (st : List MV) (h : List MC) : Option MS := match st with
    | .inl n :: st => if len = 2 ∧ ¬ n < 0 ∧ n.toNatClampNeg ≤ 100000 then (match ty with
      | .int => some (pc + 2, ml, .inr (some h.length) :: st, h ++ [(0, List.replicate n.toNatClampNeg (.inl 0))])
      | .boolean => some (pc + 2, ml, .inr (some h.length) :: st, h ++ [(1, List.replicate n.toNatClampNeg (.inl 0))])
      | _ => none) else none
    | _ => none
def k_anewarray (i : Nat) (lA : Nat → Option Nat) (len : Nat) (pc : Nat) (ml : List (Option MV)) (st : List MV) (h : List MC) : Option MS := match st, lA i with
    | .inl n :: st, some t => if len = 3 ∧ ¬ n < 0 ∧ n.toNatClampNeg ≤ 100000 ∧ (t = 2 ∨ t = 3) then some (pc + 3, ml, .inr (some h.length) :: st, h ++ [(t, List.replicate n.toNatClampNeg (.inr none))]) else none
    | _, _ => none
def mpsG (lF : Nat → Option (Nat × Nat)) (lN lA : Nat → Option Nat) (lC : Nat → Option Int32) (own : Nat) (ini : Bool) (ig : Instr) (len pc : Nat) (ml : List (Option MV)) (st : List MV) (h : List MC) : Option MS :=
  match ig with
  | .aconst_null => k_aconst_null len pc ml st h
  | .iconst i => k_iconst i len pc ml st h
  | .bipush i => k_bipush i len pc ml st h
  | .sipush i => k_sipush i len pc ml st h
  | .ldc i => k_ldc i lC len pc ml st h
  | .iload k => k_iload k len pc ml st h
  | .iload_n k => k_iload_n k len pc ml st h
  | .aload k => k_aload k len pc ml st h
  | .aload_n k => k_aload_n k len pc ml st h
  | .istore k => k_istore k len pc ml st h
  | .istore_n k => k_istore_n k len pc ml st h
  | .astore k => k_astore k len pc ml st h
  | .astore_n k => k_astore_n k len pc ml st h
  | .iinc k n => k_iinc k n len pc ml st h
  | .iadd => k_iadd len pc ml st h
  | .isub => k_isub len pc ml st h
  | .imul => k_imul len pc ml st h
  | .iand => k_iand len pc ml st h
  | .ior => k_ior len pc ml st h
  | .ishl => k_ishl len pc ml st h
  | .ishr => k_ishr len pc ml st h
  | .dup => k_dup len pc ml st h
  | .pop => k_pop len pc ml st h
  | .goto off => k_goto off len pc ml st h
  | .ifCond cnd off => k_ifCond cnd off len pc ml st h
  | .if_icmp cnd off => k_if_icmp cnd off len pc ml st h
  | .ifnull off => k_ifnull off len pc ml st h
  | .ifnonnull off => k_ifnonnull off len pc ml st h
  | .getfield i => k_getfield i lF len pc ml st h
  | .putfield i => k_putfield i lF own ini len pc ml st h
  | .iaload => k_iaload len pc ml st h
  | .baload => k_baload len pc ml st h
  | .aaload => k_aaload len pc ml st h
  | .iastore => k_iastore len pc ml st h
  | .bastore => k_bastore len pc ml st h
  | .aastore => k_aastore len pc ml st h
  | .arraylength => k_arraylength len pc ml st h
  | .new i => k_new i lN len pc ml st h
  | .newarray ty => k_newarray ty len pc ml st h
  | .anewarray i => k_anewarray i lA len pc ml st h
  | .multianewarray i dm => k_multianewarray i dm lA len pc ml st h
  | _ => none
def mps (own : Nat) (ini : Bool) (ig : Instr) (len pc : Nat) (ml : List (Option MV)) (st : List MV) (h : List MC) : Option MS := mpsG (mk2 mlF own) (mk2 mlN own) (mk2 mlA own) (mk2 mlC own) own ini ig len pc ml st h
