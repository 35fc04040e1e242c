/-! A SECOND QUICK FORM: the rows as functions that go on by themselves, places of lists by the recursor -/
noncomputable def nthK {α : Type} (f : α → Option MS) (l : List α) : Nat → Option MS := @List.rec α (fun _ => Nat → Option MS) (fun _ => none) (fun a _ ih i => @Nat.rec (fun _ => Option MS) (f a) (fun k _ => ih k) i) l
theorem nthK_some {α : Type} {f : α → Option MS} : ∀ {l : List α} {i : Nat} {u : MS}, nthK f l i = some u → ∃ a, l[i]? = some a ∧ f a = some u
  | [], _, _, h => by cases h
  | a :: _, 0, _, h => ⟨a, rfl, h⟩
  | _ :: t, i + 1, u, h => by
    obtain ⟨x, h1, h2⟩ := nthK_some (l := t) (i := i) h
    exact ⟨x, by simpa using h1, h2⟩
noncomputable def setR {α : Type} (v : α) (l : List α) : Nat → List α := @List.rec α (fun _ => Nat → List α) (fun _ => []) (fun a t ih i => @Nat.rec (fun _ => List α) (v :: t) (fun k _ => a :: ih k) i) l
theorem setR_eq {α : Type} (v : α) : ∀ (l : List α) (i : Nat), setR v l i = l.set i v
  | [], _ => rfl
  | _ :: _, 0 => rfl
  | a :: t, i + 1 => by
    show a :: setR v t i = _
    rw [setR_eq v t i]
    rfl
noncomputable def appR {α : Type} (v : α) (l : List α) : List α := @List.rec α (fun _ => List α) [v] (fun a _ ih => a :: ih) l
theorem appR_eq {α : Type} (v : α) : ∀ (l : List α), appR v l = l ++ [v]
  | [] => rfl
  | a :: t => by
    show a :: appR v t = _
    rw [appR_eq v t]
    rfl
/-- ints by their bits -/
def nb (x : Int32) : Nat := x.toBitVec.toNat
def nbs (x : Int32) : Nat := (nb x + 2147483648) % 4294967296
theorem nb_lt (x : Int32) : nb x < 4294967296 := x.toBitVec.isLt
theorem nb_int (x : Int32) : x.toInt = if nb x < 2147483648 then (nb x : Int) else (nb x : Int) - 4294967296 := by
  show x.toBitVec.toInt = _
  rw [BitVec.toInt_eq_toNat_cond]
  have := nb_lt x
  unfold nb at *
  split <;> split <;> omega
theorem nbs_lt (x y : Int32) : x < y ↔ nbs x < nbs y := by
  rw [Int32.lt_iff_toInt_lt, nb_int, nb_int]
  have := nb_lt x
  have := nb_lt y
  unfold nbs
  split <;> split <;> omega
theorem nb_eq (x y : Int32) : x = y ↔ nb x = nb y := by
  constructor
  · intro h; rw [h]
  · intro h
    rw [← Int32.toInt_inj, nb_int, nb_int, h]
theorem nb_ix {i : Int32} (h : nb i < 2147483648) : ¬ i < 0 ∧ i.toNatClampNeg = nb i := by
  have h1 := nb_int i
  rw [if_pos h] at h1
  refine ⟨fun h2 => ?_, ?_⟩
  · rw [Int32.lt_iff_toInt_lt, h1] at h2
    have : (0 : Int32).toInt = 0 := by decide
    omega
  · show i.toInt.toNat = nb i
    rw [h1]
    simp
def mcq (c : Jvm.ClassFile.Cond) (x y : Int32) : Bool := match c with
  | .eq => Nat.beq (nb x) (nb y)
  | .ne => not (Nat.beq (nb x) (nb y))
  | .lt => Nat.blt (nbs x) (nbs y)
  | .ge => not (Nat.blt (nbs x) (nbs y))
  | .gt => Nat.blt (nbs y) (nbs x)
  | .le => not (Nat.blt (nbs y) (nbs x))
theorem blt_iff (a b : Nat) : Nat.blt a b = decide (a < b) := by
  unfold Nat.blt
  rw [Bool.eq_iff_iff]
  simp [Nat.ble_eq]
  omega
theorem mcq_eq (c : Jvm.ClassFile.Cond) (x y : Int32) : mcmp c x y = mcq c x y := by
  have hb : (x == y) = Nat.beq (nb x) (nb y) := by
    rw [Bool.eq_iff_iff, beq_iff_eq, nb_eq, Nat.beq_eq]
  have hle : ∀ a b : Int32, decide (a ≤ b) = not (Nat.blt (nbs b) (nbs a)) := fun a b => by
    rw [blt_iff, Bool.eq_iff_iff]
    simp only [decide_eq_true_eq, Bool.not_eq_true', decide_eq_false_iff_not]
    rw [← nbs_lt]
    exact Int32.not_lt.symm
  cases c <;> simp only [mcmp, mcq]
  · exact hb
  · rw [hb]
  · rw [blt_iff, Bool.eq_iff_iff]; simp [nbs_lt]
  · exact hle y x
  · rw [blt_iff, Bool.eq_iff_iff]; simp [nbs_lt]
  · exact hle x y
abbrev K1 : Type := Nat → List (Option MV) → List MV → List MC → Option MS
abbrev KC : Type := Nat → Nat → List MV → List MV → Nat → List (Option MV) → List MC → Option MS
abbrev KR : Type := Option MV → List MC → Option MS
abbrev Cl2 : Type := K1 → KC → KR → Nat → List (Option MV) → List MV → List MC → Option MS
/-- a row, by what it does -/
def gen (q : MM) (x : FI) : Cl2 := fun kk kc kr d ml st h => match act q x d ml st h with
  | some (.inl (j, ml2, st2, h2)) => kk j ml2 st2 h2
  | some (.inr (.inl r)) => kr r h
  | some (.inr (.inr (M', d', as, rest, nj))) => kc M' d' as rest nj ml h
  | none => none
def Cok (f : Cl2) (q : MM) (x : FI) : Prop := ∀ (kk : K1) (kc : KC) (kr : KR) (d : Nat) (ml : List (Option MV)) (st : List MV) (h : List MC) (u : MS), f kk kc kr d ml st h = some u → gen q x kk kc kr d ml st h = some u
theorem ok_gen {q : MM} {x : FI} : Cok (gen q x) q x := fun _ _ _ _ _ _ _ _ h => h
/-- the value on the stack -/
noncomputable def popI (f : Int32 → List MV → Option MS) (st : List MV) : Option MS := @List.rec MV (fun _ => Option MS) none (fun v t _ => @Sum.rec Int32 (Option Nat) (fun _ => Option MS) (fun x => f x t) (fun _ => none) v) st
noncomputable def popR (f : Nat → List MV → Option MS) (st : List MV) : Option MS := @List.rec MV (fun _ => Option MS) none (fun v t _ => @Sum.rec Int32 (Option Nat) (fun _ => Option MS) (fun _ => none) (fun o => @Option.rec Nat (fun _ => Option MS) none (fun a => f a t) o) v) st
theorem popI_some {f : Int32 → List MV → Option MS} {st : List MV} {u : MS} (h : popI f st = some u) : ∃ x t, st = .inl x :: t ∧ f x t = some u := by
  match st, h with
  | .inl x :: t, h => exact ⟨x, t, rfl, h⟩
  | .inr _ :: _, h => cases h
  | [], h => cases h
theorem popR_some {f : Nat → List MV → Option MS} {st : List MV} {u : MS} (h : popR f st = some u) : ∃ a t, st = .inr (some a) :: t ∧ f a t = some u := by
  match st, h with
  | .inr (some a) :: t, h => exact ⟨a, t, rfl, h⟩
  | .inr none :: _, h => cases h
  | .inl _ :: _, h => cases h
  | [], h => cases h
noncomputable def onB (b : Bool) (r : Option MS) : Option MS := @Bool.rec (fun _ => Option MS) none r b
theorem onB_some {b : Bool} {r : Option MS} {u : MS} (h : onB b r = some u) : b = true ∧ r = some u := by
  cases b
  · cases h
  · exact ⟨rfl, h⟩
noncomputable def isI (f : Option MS) (v : MV) : Option MS := @Sum.rec Int32 (Option Nat) (fun _ => Option MS) (fun _ => f) (fun _ => none) v
noncomputable def isR (f : Option MS) (v : MV) : Option MS := @Sum.rec Int32 (Option Nat) (fun _ => Option MS) (fun _ => none) (fun _ => f) v
theorem isI_some {f : Option MS} {v : MV} {u : MS} (h : isI f v = some u) : ∃ x, v = .inl x ∧ f = some u := by
  match v, h with
  | .inl x, h => exact ⟨x, rfl, h⟩
  | .inr _, h => cases h
theorem isR_some {f : Option MS} {v : MV} {u : MS} (h : isR f v = some u) : ∃ x, v = .inr x ∧ f = some u := by
  match v, h with
  | .inr x, h => exact ⟨x, rfl, h⟩
  | .inl _, h => cases h
noncomputable def onO (f : MV → Option MS) (o : Option MV) : Option MS := @Option.rec MV (fun _ => Option MS) none f o
theorem onO_some {f : MV → Option MS} {o : Option MV} {u : MS} (h : onO f o = some u) : ∃ v, o = some v ∧ f v = some u := by
  match o, h with
  | some v, h => exact ⟨v, rfl, h⟩
  | none, h => cases h
section QC
variable {q : MM} {pc len nj tj a b : Nat}
noncomputable def q_ild (k nj : Nat) : Cl2 := fun kk _ _ _ ml st h => nthK (onO fun v => isI (kk nj ml (v :: st) h) v) ml k
noncomputable def q_ald (k nj : Nat) : Cl2 := fun kk _ _ _ ml st h => nthK (onO fun v => isR (kk nj ml (v :: st) h) v) ml k
theorem ild_some {kk : K1} {k : Nat} {ml : List (Option MV)} {st : List MV} {h : List MC} {u : MS} (hu : nthK (onO fun v => isI (kk nj ml (v :: st) h) v) ml k = some u) : ∃ x, mint (mld ml k) = some x ∧ kk nj ml (.inl x :: st) h = some u := by
  obtain ⟨o, h1, h2⟩ := nthK_some hu
  obtain ⟨v, rfl, h3⟩ := onO_some h2
  obtain ⟨x, rfl, h4⟩ := isI_some h3
  exact ⟨x, by simp [mld, h1, mint], h4⟩
theorem ald_some {kk : K1} {k : Nat} {ml : List (Option MV)} {st : List MV} {h : List MC} {u : MS} (hu : nthK (onO fun v => isR (kk nj ml (v :: st) h) v) ml k = some u) : ∃ x, mref (mld ml k) = some x ∧ kk nj ml (.inr x :: st) h = some u := by
  obtain ⟨o, h1, h2⟩ := nthK_some hu
  obtain ⟨v, rfl, h3⟩ := onO_some h2
  obtain ⟨x, rfl, h4⟩ := isR_some h3
  exact ⟨x, by simp [mld, h1, mref], h4⟩
theorem ok_iload {k : Nat} : Cok (q_ild k nj) q (pc, .iload k, 2, nj, tj, a, b, 0) := by
  intro kk kc kr d ml st h u hu
  obtain ⟨x, h1, h2⟩ := ild_some hu
  simp [gen, act, mpsG, k_iload, h1, h2]
theorem ok_iload_n {k : Fin 4} : Cok (q_ild k.val nj) q (pc, .iload_n k, 1, nj, tj, a, b, 0) := by
  intro kk kc kr d ml st h u hu
  obtain ⟨x, h1, h2⟩ := ild_some hu
  simp [gen, act, mpsG, k_iload_n, h1, h2]
theorem ok_aload {k : Nat} : Cok (q_ald k nj) q (pc, .aload k, 2, nj, tj, a, b, 0) := by
  intro kk kc kr d ml st h u hu
  obtain ⟨x, h1, h2⟩ := ald_some hu
  simp [gen, act, mpsG, k_aload, h1, h2]
theorem ok_aload_n {k : Fin 4} : Cok (q_ald k.val nj) q (pc, .aload_n k, 1, nj, tj, a, b, 0) := by
  intro kk kc kr d ml st h u hu
  obtain ⟨x, h1, h2⟩ := ald_some hu
  simp [gen, act, mpsG, k_aload_n, h1, h2]
noncomputable def q_ist (k nj : Nat) : Cl2 := fun kk _ _ _ ml st h => popI (fun x t => nthK (fun _ => kk nj (setR (some (.inl x)) ml k) t h) ml k) st
theorem ist_some {kk : K1} {k : Nat} {ml : List (Option MV)} {st : List MV} {h : List MC} {u : MS} (hu : popI (fun x t => nthK (fun _ => kk nj (setR (some (.inl x)) ml k) t h) ml k) st = some u) : ∃ x t, st = .inl x :: t ∧ k < ml.length ∧ kk nj (ml.set k (some (.inl x))) t h = some u := by
  obtain ⟨x, t, rfl, h1⟩ := popI_some hu
  obtain ⟨o, h2, h3⟩ := nthK_some h1
  rw [setR_eq] at h3
  exact ⟨x, t, rfl, (List.getElem?_eq_some_iff.mp h2).1, h3⟩
theorem ok_istore {k : Nat} : Cok (q_ist k nj) q (pc, .istore k, 2, nj, tj, a, b, 0) := by
  intro kk kc kr d ml st h u hu
  obtain ⟨x, t, rfl, h1, h2⟩ := ist_some hu
  simp [gen, act, mpsG, k_istore, h1, h2]
theorem ok_istore_n {k : Fin 4} : Cok (q_ist k.val nj) q (pc, .istore_n k, 1, nj, tj, a, b, 0) := by
  intro kk kc kr d ml st h u hu
  obtain ⟨x, t, rfl, h1, h2⟩ := ist_some hu
  simp [gen, act, mpsG, k_istore_n, h1, h2]
def q_con (v : Int32) (nj : Nat) : Cl2 := fun kk _ _ _ ml st h => kk nj ml (.inl v :: st) h
theorem ok_iconst {i : Int} : Cok (q_con (Int32.ofInt i) nj) q (pc, .iconst i, 1, nj, tj, a, b, 0) := by
  intro kk kc kr d ml st h u hu
  simp only [q_con] at hu
  simp [gen, act, mpsG, k_iconst, hu]
theorem ok_bipush {i : Int} : Cok (q_con (Int8.ofInt i).toInt32 nj) q (pc, .bipush i, 2, nj, tj, a, b, 0) := by
  intro kk kc kr d ml st h u hu
  simp only [q_con] at hu
  simp [gen, act, mpsG, k_bipush, hu]
noncomputable def q_inc (k : Nat) (n : Int32) (nj : Nat) : Cl2 := fun kk _ _ _ ml st h => nthK (onO fun v => @Sum.rec Int32 (Option Nat) (fun _ => Option MS) (fun x => kk nj (setR (some (.inl (x + n))) ml k) st h) (fun _ => none) v) ml k
theorem ok_iinc {k : Nat} {n : Int} : Cok (q_inc k (Int32.ofInt n) nj) q (pc, .iinc k n, 3, nj, tj, a, b, 0) := by
  intro kk kc kr d ml st h u hu
  obtain ⟨o, h1, h2⟩ := nthK_some hu
  obtain ⟨v, rfl, h3⟩ := onO_some h2
  match v, h1, h3 with
  | .inl x, h1, h3 =>
    have h3 : kk nj (setR (some (.inl (x + Int32.ofInt n))) ml k) st h = some u := h3
    rw [setR_eq] at h3
    have hlt := (List.getElem?_eq_some_iff.mp h1).1
    have hm : mint (mld ml k) = some x := by unfold mld; rw [h1]; rfl
    simp [gen, act, mpsG, k_iinc, hlt, hm, h3]
  | .inr _, _, h3 => cases h3
noncomputable def q_ar (f : Int32 → Int32 → Int32) (nj : Nat) : Cl2 := fun kk _ _ _ ml st h => popI (fun y t => popI (fun x t => kk nj ml (.inl (f x y) :: t) h) t) st
theorem ok_iadd : Cok (q_ar (fun x y => x + y) nj) q (pc, .iadd, 1, nj, tj, a, b, 0) := by
  intro kk kc kr d ml st h u hu
  obtain ⟨y, t, rfl, h1⟩ := popI_some hu
  obtain ⟨x, t, rfl, h2⟩ := popI_some h1
  simp [gen, act, mpsG, k_iadd, h2]
theorem ok_isub : Cok (q_ar (fun x y => x - y) nj) q (pc, .isub, 1, nj, tj, a, b, 0) := by
  intro kk kc kr d ml st h u hu
  obtain ⟨y, t, rfl, h1⟩ := popI_some hu
  obtain ⟨x, t, rfl, h2⟩ := popI_some h1
  simp [gen, act, mpsG, k_isub, h2]
theorem ok_imul : Cok (q_ar (fun x y => x * y) nj) q (pc, .imul, 1, nj, tj, a, b, 0) := by
  intro kk kc kr d ml st h u hu
  obtain ⟨y, t, rfl, h1⟩ := popI_some hu
  obtain ⟨x, t, rfl, h2⟩ := popI_some h1
  simp [gen, act, mpsG, k_imul, h2]
def q_go (tj : Nat) : Cl2 := fun kk _ _ _ ml st h => kk tj ml st h
theorem ok_goto {off : Int} : Cok (q_go tj) q (pc, .goto off, 3, nj, tj, a, b, 1) := by
  intro kk kc kr d ml st h u hu
  simp only [q_go] at hu
  simp [gen, act, hu]
noncomputable def q_if (c : Jvm.ClassFile.Cond) (nj tj : Nat) : Cl2 := fun kk _ _ _ ml st h => popI (fun x t => @Bool.rec (fun _ => Option MS) (kk nj ml t h) (kk tj ml t h) (mcq c x 0)) st
noncomputable def q_ic (c : Jvm.ClassFile.Cond) (nj tj : Nat) : Cl2 := fun kk _ _ _ ml st h => popI (fun y t => popI (fun x t => @Bool.rec (fun _ => Option MS) (kk nj ml t h) (kk tj ml t h) (mcq c x y)) t) st
theorem ok_ifCond {c : Jvm.ClassFile.Cond} {off : Int} : Cok (q_if c nj tj) q (pc, .ifCond c off, 3, nj, tj, a, b, 1) := by
  intro kk kc kr d ml st h u hu
  obtain ⟨x, t, rfl, h1⟩ := popI_some hu
  simp only [gen, act, mcq_eq, if_true]
  cases hc : mcq c x 0 <;> simp only [hc] at h1 ⊢ <;> exact h1
theorem ok_if_icmp {c : Jvm.ClassFile.Cond} {off : Int} : Cok (q_ic c nj tj) q (pc, .if_icmp c off, 3, nj, tj, a, b, 1) := by
  intro kk kc kr d ml st h u hu
  obtain ⟨y, t, rfl, h1⟩ := popI_some hu
  obtain ⟨x, t, rfl, h2⟩ := popI_some h1
  simp only [gen, act, mcq_eq, if_true]
  cases hc : mcq c x y <;> simp only [hc] at h2 ⊢ <;> exact h2
noncomputable def q_gf (ci k nj : Nat) : Cl2 := fun kk _ _ _ ml st h => popR (fun r t => nthK (fun c => onB (Nat.beq c.1 (10 + ci)) (nthK (fun v => kk nj ml (v :: t) h) c.2 k)) h r) st
theorem ok_getfield {i : Nat} : Cok (q_gf a b nj) q (pc, .getfield i, 3, nj, tj, a, b, 0) := by
  intro kk kc kr d ml st h u hu
  obtain ⟨r, t, rfl, h1⟩ := popR_some hu
  obtain ⟨⟨tg, vs⟩, h2, h3⟩ := nthK_some h1
  obtain ⟨h4, h5⟩ := onB_some h3
  obtain ⟨v, h6, h7⟩ := nthK_some h5
  have h4 : tg = 10 + a := Nat.eq_of_beq_eq_true h4
  subst h4
  simp only at h6
  simp [gen, act, mpsG, k_getfield, h2, h6, h7]
noncomputable def q_ld (tg nj : Nat) : Cl2 := fun kk _ _ _ ml st h => popI (fun i t => popR (fun r t => nthK (fun c => onB (Nat.beq c.1 tg) (onB (Nat.blt (nb i) 2147483648) (nthK (fun v => isI (kk nj ml (v :: t) h) v) c.2 (nb i)))) h r) t) st
theorem ld_some {kk : K1} {tg : Nat} {ml : List (Option MV)} {st : List MV} {h : List MC} {u : MS} (hu : q_ld tg nj kk (fun _ _ _ _ _ _ _ => none) (fun _ _ => none) 0 ml st h = some u) : ∃ i r t vs x, st = .inl i :: .inr (some r) :: t ∧ h[r]? = some (tg, vs) ∧ mint ((mix i vs.length).bind fun j => vs[j]?) = some x ∧ kk nj ml (.inl x :: t) h = some u := by
  obtain ⟨i, t, rfl, h1⟩ := popI_some hu
  obtain ⟨r, t, rfl, h2⟩ := popR_some h1
  obtain ⟨⟨tg2, vs⟩, h3, h4⟩ := nthK_some h2
  obtain ⟨h5, h6⟩ := onB_some h4
  obtain ⟨h7, h8⟩ := onB_some h6
  obtain ⟨v, h9, h10⟩ := nthK_some h8
  obtain ⟨x, rfl, h11⟩ := isI_some h10
  have h5 : tg2 = tg := Nat.eq_of_beq_eq_true h5
  subst h5
  rw [blt_iff, decide_eq_true_eq] at h7
  obtain ⟨g1, g2⟩ := nb_ix h7
  have hlt := (List.getElem?_eq_some_iff.mp h9).1
  refine ⟨i, r, t, vs, x, rfl, h3, ?_, h11⟩
  simp only at h9 hlt
  have hm : mix i vs.length = some (nb i) := by simp [mix, g1, g2, hlt]
  rw [hm]
  show mint (vs[nb i]?) = some x
  rw [h9]
  rfl
theorem ok_iaload : Cok (q_ld 0 nj) q (pc, .iaload, 1, nj, tj, a, b, 0) := by
  intro kk kc kr d ml st h u hu
  obtain ⟨i, r, t, vs, x, rfl, h1, h2, h3⟩ := ld_some hu
  simp [gen, act, mpsG, k_iaload, h1, h2, h3]
theorem ok_baload : Cok (q_ld 1 nj) q (pc, .baload, 1, nj, tj, a, b, 0) := by
  intro kk kc kr d ml st h u hu
  obtain ⟨i, r, t, vs, x, rfl, h1, h2, h3⟩ := ld_some hu
  simp [gen, act, mpsG, k_baload, h1, h2, h3]
def tg3 (t : Nat) : Bool := Nat.beq t 2 || (Nat.beq t 3 || Nat.beq t 4)
noncomputable def q_aal (nj : Nat) : Cl2 := fun kk _ _ _ ml st h => popI (fun i t => popR (fun r t => nthK (fun c => onB (tg3 c.1) (onB (Nat.blt (nb i) 2147483648) (nthK (fun v => isR (kk nj ml (v :: t) h) v) c.2 (nb i)))) h r) t) st
theorem ok_aaload : Cok (q_aal nj) q (pc, .aaload, 1, nj, tj, a, b, 0) := by
  intro kk kc kr d ml st h u hu
  obtain ⟨i, t, rfl, h1⟩ := popI_some hu
  obtain ⟨r, t, rfl, h2⟩ := popR_some h1
  obtain ⟨⟨tg, vs⟩, h3, h4⟩ := nthK_some h2
  obtain ⟨h5, h6⟩ := onB_some h4
  obtain ⟨h7, h8⟩ := onB_some h6
  obtain ⟨v, h9, h10⟩ := nthK_some h8
  obtain ⟨x, rfl, h11⟩ := isR_some h10
  have h5 : tg = 2 ∨ tg = 3 ∨ tg = 4 := by
    simp only [tg3, Bool.or_eq_true, Nat.beq_eq] at h5
    exact h5
  rw [blt_iff, decide_eq_true_eq] at h7
  obtain ⟨g1, g2⟩ := nb_ix h7
  have hlt := (List.getElem?_eq_some_iff.mp h9).1
  simp only at h9 hlt
  have hm : mix i vs.length = some (nb i) := by simp [mix, g1, g2, hlt]
  have hv : mref ((mix i vs.length).bind fun j => vs[j]?) = some x := by
    rw [hm]
    show mref (vs[nb i]?) = some x
    rw [h9]
    rfl
  simp [gen, act, mpsG, k_aaload, h3, h5, hv, h11]
noncomputable def q_ias (nj : Nat) : Cl2 := fun kk _ _ _ ml st h => popI (fun x t => popI (fun i t => popR (fun r t => nthK (fun c => onB (Nat.beq c.1 0) (onB (Nat.blt (nb i) 2147483648) (nthK (fun _ => kk nj ml t (setR (0, setR (.inl x) c.2 (nb i)) h r)) c.2 (nb i)))) h r) t) t) st
theorem ok_iastore : Cok (q_ias nj) q (pc, .iastore, 1, nj, tj, a, b, 0) := by
  intro kk kc kr d ml st h u hu
  obtain ⟨x, t, rfl, h0⟩ := popI_some hu
  obtain ⟨i, t, rfl, h1⟩ := popI_some h0
  obtain ⟨r, t, rfl, h2⟩ := popR_some h1
  obtain ⟨⟨tg, vs⟩, h3, h4⟩ := nthK_some h2
  obtain ⟨h5, h6⟩ := onB_some h4
  obtain ⟨h7, h8⟩ := onB_some h6
  obtain ⟨v, h9, h10⟩ := nthK_some h8
  have h5 : tg = 0 := Nat.eq_of_beq_eq_true h5
  subst h5
  rw [blt_iff, decide_eq_true_eq] at h7
  obtain ⟨g1, g2⟩ := nb_ix h7
  have hlt := (List.getElem?_eq_some_iff.mp h9).1
  simp only [setR_eq] at h9 hlt h10
  simp [gen, act, mpsG, k_iastore, h3, mix, g1, g2, hlt, h10]
noncomputable def q_bas (nj : Nat) : Cl2 := fun kk _ _ _ ml st h => popI (fun x t => popI (fun i t => popR (fun r t => nthK (fun c => onB (Nat.beq c.1 1) (onB (Nat.ble (nb x) 1) (onB (Nat.blt (nb i) 2147483648) (nthK (fun _ => kk nj ml t (setR (1, setR (.inl x) c.2 (nb i)) h r)) c.2 (nb i))))) h r) t) t) st
theorem ok_bastore : Cok (q_bas nj) q (pc, .bastore, 1, nj, tj, a, b, 0) := by
  intro kk kc kr d ml st h u hu
  obtain ⟨x, t, rfl, h0⟩ := popI_some hu
  obtain ⟨i, t, rfl, h1⟩ := popI_some h0
  obtain ⟨r, t, rfl, h2⟩ := popR_some h1
  obtain ⟨⟨tg, vs⟩, h3, h4⟩ := nthK_some h2
  obtain ⟨h5, h5b⟩ := onB_some h4
  obtain ⟨hx, h6⟩ := onB_some h5b
  obtain ⟨h7, h8⟩ := onB_some h6
  obtain ⟨v, h9, h10⟩ := nthK_some h8
  have h5 : tg = 1 := Nat.eq_of_beq_eq_true h5
  subst h5
  have hx : x = 0 ∨ x = 1 := by
    have h01 := Nat.le_of_ble_eq_true hx
    have e0 : nb 0 = 0 := by decide
    have e1 : nb 1 = 1 := by decide
    rcases (show nb x = 0 ∨ nb x = 1 by omega) with e | e
    · exact Or.inl ((nb_eq x 0).mpr (by rw [e, e0]))
    · exact Or.inr ((nb_eq x 1).mpr (by rw [e, e1]))
  rw [blt_iff, decide_eq_true_eq] at h7
  obtain ⟨g1, g2⟩ := nb_ix h7
  have hlt := (List.getElem?_eq_some_iff.mp h9).1
  simp only [setR_eq] at h9 hlt h10
  simp [gen, act, mpsG, k_bastore, h3, hx, mix, g1, g2, hlt, h10]
noncomputable def q_al (nj : Nat) : Cl2 := fun kk _ _ _ ml st h => popR (fun r t => nthK (fun c => onB (Nat.blt c.1 5) (kk nj ml (.inl (Int32.ofNat c.2.length) :: t) h)) h r) st
theorem ok_arraylength : Cok (q_al nj) q (pc, .arraylength, 1, nj, tj, a, b, 0) := by
  intro kk kc kr d ml st h u hu
  obtain ⟨r, t, rfl, h1⟩ := popR_some hu
  obtain ⟨⟨tg, vs⟩, h2, h3⟩ := nthK_some h1
  obtain ⟨h4, h5⟩ := onB_some h3
  rw [blt_iff, decide_eq_true_eq] at h4
  simp only at h4 h5
  simp [gen, act, mpsG, k_arraylength, h2, h4, h5]
noncomputable def q_nia (nj : Nat) : Cl2 := fun kk _ _ _ ml st h => popI (fun n t => onB (Nat.ble (nb n) 100000) (kk nj ml (.inr (some h.length) :: t) (appR (0, List.replicate (nb n) (.inl 0)) h))) st
theorem ok_newint : Cok (q_nia nj) q (pc, .newarray .int, 2, nj, tj, a, b, 0) := by
  intro kk kc kr d ml st h u hu
  obtain ⟨n, t, rfl, h1⟩ := popI_some hu
  obtain ⟨h2, h3⟩ := onB_some h1
  have h2 := Nat.le_of_ble_eq_true h2
  obtain ⟨g1, g2⟩ := nb_ix (i := n) (by omega)
  rw [appR_eq] at h3
  simp [gen, act, mpsG, k_newarray, g1, g2, h2, h3]
end QC
