/-! A QUICK FORM OF THE SMALL MACHINE FOR THE KERNEL: each row is a function that goes on by itself; places of lists by the recursor; of the heap only its front and its newest cells are looked at, what lies between is never unfolded -/
noncomputable def nthG {α ρ : Type} (f : α → Option ρ) (l : List α) : Nat → Option ρ := @List.rec α (fun _ => Nat → Option ρ) (fun _ => none) (fun a _ ih i => @Nat.rec (fun _ => Option ρ) (f a) (fun k _ => ih k) i) l
theorem nthG_some {α ρ : Type} {f : α → Option ρ} : ∀ {l : List α} {i : Nat} {u : ρ}, nthG f l i = some u → ∃ a, l[i]? = some a ∧ f a = some u
  | [], _, _, h => by cases h
  | a :: _, 0, _, h => ⟨a, rfl, h⟩
  | _ :: t, i + 1, u, h => by
    obtain ⟨x, h1, h2⟩ := nthG_some (l := t) (i := i) h
    exact ⟨x, by simpa using h1, h2⟩
noncomputable def setR {α : Type} (v : α) (l : List α) : Nat → List α := @List.rec α (fun _ => Nat → List α) (fun _ => []) (fun a t ih i => @Nat.rec (fun _ => List α) (v :: t) (fun k _ => a :: ih k) i) l
theorem setR_eq {α : Type} (v : α) : ∀ (l : List α) (i : Nat), setR v l i = l.set i v
  | [], _ => rfl
  | _ :: _, 0 => rfl
  | a :: t, i + 1 => by
    show a :: setR v t i = _
    rw [setR_eq v t i]
    rfl
noncomputable def appR {α : Type} (v : α) (l : List α) : List α := @List.rec α (fun _ => List α) [v] (fun a _ ih => a :: ih) l
theorem appR_eq {α : Type} (v : α) : ∀ (l : List α), appR v l = l ++ [v]
  | [] => rfl
  | a :: t => by
    show a :: appR v t = _
    rw [appR_eq v t]
    rfl
/-- ints by their bits -/
def nb (x : Int32) : Nat := x.toBitVec.toNat
def nbs (x : Int32) : Nat := (nb x + 2147483648) % 4294967296
theorem nb_lt (x : Int32) : nb x < 4294967296 := x.toBitVec.isLt
theorem nb_int (x : Int32) : x.toInt = if nb x < 2147483648 then (nb x : Int) else (nb x : Int) - 4294967296 := by
  show x.toBitVec.toInt = _
  rw [BitVec.toInt_eq_toNat_cond]
  have := nb_lt x
  unfold nb at *
  split <;> split <;> omega
theorem nbs_lt (x y : Int32) : x < y ↔ nbs x < nbs y := by
  rw [Int32.lt_iff_toInt_lt, nb_int, nb_int]
  have := nb_lt x
  have := nb_lt y
  unfold nbs
  split <;> split <;> omega
theorem nb_eq (x y : Int32) : x = y ↔ nb x = nb y := by
  constructor
  · intro h; rw [h]
  · intro h
    rw [← Int32.toInt_inj, nb_int, nb_int, h]
theorem nb_ix {i : Int32} (h : nb i < 2147483648) : ¬ i < 0 ∧ i.toNatClampNeg = nb i := by
  have h1 := nb_int i
  rw [if_pos h] at h1
  refine ⟨fun h2 => ?_, ?_⟩
  · rw [Int32.lt_iff_toInt_lt, h1] at h2
    have : (0 : Int32).toInt = 0 := by decide
    omega
  · show i.toInt.toNat = nb i
    rw [h1]
    simp
def mcq (c : Jvm.ClassFile.Cond) (x y : Int32) : Bool := match c with
  | .eq => Nat.beq (nb x) (nb y)
  | .ne => not (Nat.beq (nb x) (nb y))
  | .lt => Nat.blt (nbs x) (nbs y)
  | .ge => not (Nat.blt (nbs x) (nbs y))
  | .gt => Nat.blt (nbs y) (nbs x)
  | .le => not (Nat.blt (nbs y) (nbs x))
theorem blt_iff (a b : Nat) : Nat.blt a b = decide (a < b) := by
  unfold Nat.blt
  rw [Bool.eq_iff_iff]
  simp [Nat.ble_eq]
  omega
theorem mcq_eq (c : Jvm.ClassFile.Cond) (x y : Int32) : mcmp c x y = mcq c x y := by
  have hb : (x == y) = Nat.beq (nb x) (nb y) := by
    rw [Bool.eq_iff_iff, beq_iff_eq, nb_eq, Nat.beq_eq]
  have hle : ∀ a b : Int32, decide (a ≤ b) = not (Nat.blt (nbs b) (nbs a)) := fun a b => by
    rw [blt_iff, Bool.eq_iff_iff]
    simp only [decide_eq_true_eq, Bool.not_eq_true', decide_eq_false_iff_not]
    rw [← nbs_lt]
    exact Int32.not_lt.symm
  cases c <;> simp only [mcmp, mcq]
  · exact hb
  · rw [hb]
  · rw [blt_iff, Bool.eq_iff_iff]; simp [nbs_lt]
  · exact hle y x
  · rw [blt_iff, Bool.eq_iff_iff]; simp [nbs_lt]
  · exact hle x y
/-- the heap: its front, a table, its newest cells; w: where they end and begin, what lies between -/
abbrev HH : Type := List MC × List MC × List MC
abbrev W3 : Type := Nat × Nat × Nat × Nat × List MC × List MC
def ab (w : W3) (hh : HH) : List MC := hh.1 ++ (w.2.2.2.2.1 ++ (hh.2.1 ++ (w.2.2.2.2.2 ++ hh.2.2)))
def Vw (w : W3) (hh : HH) : Prop := hh.1.length = w.1 ∧ w.1 + w.2.2.2.2.1.length = w.2.1 ∧ w.2.1 + hh.2.1.length = w.2.2.1 ∧ w.2.2.1 + w.2.2.2.2.2.length = w.2.2.2.1
abbrev M3 : Type := Nat × List (Option MV) × List MV × HH
noncomputable def iB {α : Type} (b : Bool) (x y : α) : α := @Bool.rec (fun _ => α) y x b
theorem iB_t {α : Type} {b : Bool} {x y : α} (h : b = true) : iB b x y = x := by subst h; rfl
theorem iB_f {α : Type} {b : Bool} {x y : α} (h : b = false) : iB b x y = y := by subst h; rfl
noncomputable def hnth (w : W3) (f : MC → Option M3) (hh : HH) (i : Nat) : Option M3 := iB (Nat.blt i w.1) (nthG f hh.1 i) (iB (Nat.blt i w.2.1) none (iB (Nat.blt i w.2.2.1) (nthG f hh.2.1 (i - w.2.1)) (iB (Nat.blt i w.2.2.2.1) none (nthG f hh.2.2 (i - w.2.2.2.1)))))
noncomputable def hset (w : W3) (c : MC) (hh : HH) (i : Nat) : HH := iB (Nat.blt i w.1) (setR c hh.1 i, hh.2) (iB (Nat.blt i w.2.2.1) (hh.1, setR c hh.2.1 (i - w.2.1), hh.2.2) (hh.1, hh.2.1, setR c hh.2.2 (i - w.2.2.2.1)))
def hin (w : W3) (i : Nat) : Prop := i < w.1 ∨ (w.2.1 ≤ i ∧ i < w.2.2.1) ∨ w.2.2.2.1 ≤ i
theorem blt_t {a b : Nat} (h : a < b) : Nat.blt a b = true := by rw [blt_iff]; exact decide_eq_true h
theorem blt_f {a b : Nat} (h : ¬ a < b) : Nat.blt a b = false := by rw [blt_iff]; exact decide_eq_false h
theorem hnth_some {w : W3} {f : MC → Option M3} {hh : HH} {i : Nat} {u : M3} (v : Vw w hh) (h : hnth w f hh i = some u) : ∃ c, (ab w hh)[i]? = some c ∧ f c = some u ∧ hin w i := by
  obtain ⟨v1, v2, v3, v4⟩ := v
  unfold hnth at h
  by_cases h1 : i < w.1
  · rw [iB_t (blt_t h1)] at h
    obtain ⟨c, h2, h3⟩ := nthG_some h
    refine ⟨c, ?_, h3, Or.inl h1⟩
    unfold ab
    rw [List.getElem?_append_left (by omega)]
    exact h2
  · rw [iB_f (blt_f h1)] at h
    by_cases h4 : i < w.2.1
    · rw [iB_t (blt_t h4)] at h; cases h
    · rw [iB_f (blt_f h4)] at h
      by_cases h5 : i < w.2.2.1
      · rw [iB_t (blt_t h5)] at h
        obtain ⟨c, h2, h3⟩ := nthG_some h
        refine ⟨c, ?_, h3, Or.inr (Or.inl ⟨by omega, h5⟩)⟩
        unfold ab
        rw [List.getElem?_append_right (by omega), List.getElem?_append_right (by omega), List.getElem?_append_left (by omega), show i - hh.1.length - w.2.2.2.2.1.length = i - w.2.1 by omega]
        exact h2
      · rw [iB_f (blt_f h5)] at h
        by_cases h6 : i < w.2.2.2.1
        · rw [iB_t (blt_t h6)] at h; cases h
        · rw [iB_f (blt_f h6)] at h
          obtain ⟨c, h2, h3⟩ := nthG_some h
          refine ⟨c, ?_, h3, Or.inr (Or.inr (by omega))⟩
          unfold ab
          rw [List.getElem?_append_right (by omega), List.getElem?_append_right (by omega), List.getElem?_append_right (by omega), List.getElem?_append_right (by omega), show i - hh.1.length - w.2.2.2.2.1.length - hh.2.1.length - w.2.2.2.2.2.length = i - w.2.2.2.1 by omega]
          exact h2
theorem hset_ab {w : W3} {hh : HH} {c : MC} {i : Nat} (v : Vw w hh) (hi : hin w i) : ab w (hset w c hh i) = (ab w hh).set i c ∧ Vw w (hset w c hh i) := by
  obtain ⟨v1, v2, v3, v4⟩ := v
  unfold hset
  by_cases h1 : i < w.1
  · rw [iB_t (blt_t h1)]
    refine ⟨?_, ?_, v2, v3, v4⟩
    · simp only [ab]
      rw [setR_eq, List.set_append_left _ _ (by omega)]
    · simp only [setR_eq, List.length_set, v1]
  · rw [iB_f (blt_f h1)]
    by_cases h5 : i < w.2.2.1
    · have hi2 : w.2.1 ≤ i := by
        rcases hi with h | h | h
        · exact absurd h h1
        · exact h.1
        · omega
      rw [iB_t (blt_t h5)]
      refine ⟨?_, v1, v2, ?_, v4⟩
      · simp only [ab]
        rw [setR_eq, List.set_append_right _ _ (by omega), List.set_append_right _ _ (by omega), List.set_append_left _ _ (by omega), show i - hh.1.length - w.2.2.2.2.1.length = i - w.2.1 by omega]
      · simp only [setR_eq, List.length_set, v3]
    · have hi2 : w.2.2.2.1 ≤ i := by
        rcases hi with h | h | h
        · exact absurd h h1
        · omega
        · exact h
      rw [iB_f (blt_f h5)]
      refine ⟨?_, v1, v2, v3, v4⟩
      simp only [ab]
      rw [setR_eq, List.set_append_right _ _ (by omega), List.set_append_right _ _ (by omega), List.set_append_right _ _ (by omega), List.set_append_right _ _ (by omega), show i - hh.1.length - w.2.2.2.2.1.length - hh.2.1.length - w.2.2.2.2.2.length = i - w.2.2.2.1 by omega]
theorem happ_ab {w : W3} {hh : HH} (v : Vw w hh) (l : List MC) : ab w (hh.1, hh.2.1, hh.2.2 ++ l) = ab w hh ++ l ∧ Vw w (hh.1, hh.2.1, hh.2.2 ++ l) := by
  refine ⟨?_, v⟩
  simp [ab, List.append_assoc]
noncomputable def hlen (w : W3) (hh : HH) : Nat := w.2.2.2.1 + hh.2.2.length
theorem hlen_ab {w : W3} {hh : HH} (v : Vw w hh) : hlen w hh = (ab w hh).length := by
  obtain ⟨v1, v2, v3, v4⟩ := v
  simp only [hlen, ab, List.length_append]
  omega
abbrev K3 : Type := Nat → List (Option MV) → List MV → HH → Option M3
abbrev KC3 : Type := Nat → Nat → List MV → List MV → Nat → List (Option MV) → HH → Option M3
abbrev KR3 : Type := Option MV → HH → Option M3
abbrev Cl3 : Type := K3 → KC3 → KR3 → Nat → List (Option MV) → List MV → HH → Option M3
def Cok (w : W3) (f : Cl3) (q : MM) (x : FI) : Prop := ∀ (kk : K3) (kc : KC3) (kr : KR3) (d : Nat) (ml : List (Option MV)) (st : List MV) (hh : HH) (u : M3), Vw w hh → f kk kc kr d ml st hh = some u →
  (∃ j ml2 st2 hh2, act q x d ml st (ab w hh) = some (.inl (j, ml2, st2, ab w hh2)) ∧ Vw w hh2 ∧ kk j ml2 st2 hh2 = some u) ∨ (∃ r, act q x d ml st (ab w hh) = some (.inr (.inl r)) ∧ kr r hh = some u) ∨ (∃ M' d' as rest nj, act q x d ml st (ab w hh) = some (.inr (.inr (M', d', as, rest, nj))) ∧ kc M' d' as rest nj ml hh = some u)
/-- the value on the stack -/
noncomputable def popI (f : Int32 → List MV → Option M3) (st : List MV) : Option M3 := @List.rec MV (fun _ => Option M3) none (fun v t _ => @Sum.rec Int32 (Option Nat) (fun _ => Option M3) (fun x => f x t) (fun _ => none) v) st
noncomputable def popR (f : Nat → List MV → Option M3) (st : List MV) : Option M3 := @List.rec MV (fun _ => Option M3) none (fun v t _ => @Sum.rec Int32 (Option Nat) (fun _ => Option M3) (fun _ => none) (fun o => @Option.rec Nat (fun _ => Option M3) none (fun a => f a t) o) v) st
theorem popI_some {f : Int32 → List MV → Option M3} {st : List MV} {u : M3} (h : popI f st = some u) : ∃ x t, st = .inl x :: t ∧ f x t = some u := by
  match st, h with
  | .inl x :: t, h => exact ⟨x, t, rfl, h⟩
  | .inr _ :: _, h => cases h
  | [], h => cases h
theorem popR_some {f : Nat → List MV → Option M3} {st : List MV} {u : M3} (h : popR f st = some u) : ∃ a t, st = .inr (some a) :: t ∧ f a t = some u := by
  match st, h with
  | .inr (some a) :: t, h => exact ⟨a, t, rfl, h⟩
  | .inr none :: _, h => cases h
  | .inl _ :: _, h => cases h
  | [], h => cases h
noncomputable def onB (b : Bool) (r : Option M3) : Option M3 := @Bool.rec (fun _ => Option M3) none r b
theorem onB_some {b : Bool} {r : Option M3} {u : M3} (h : onB b r = some u) : b = true ∧ r = some u := by
  cases b
  · cases h
  · exact ⟨rfl, h⟩
noncomputable def isI (f : Option M3) (v : MV) : Option M3 := @Sum.rec Int32 (Option Nat) (fun _ => Option M3) (fun _ => f) (fun _ => none) v
noncomputable def isR (f : Option M3) (v : MV) : Option M3 := @Sum.rec Int32 (Option Nat) (fun _ => Option M3) (fun _ => none) (fun _ => f) v
theorem isI_some {f : Option M3} {v : MV} {u : M3} (h : isI f v = some u) : ∃ x, v = .inl x ∧ f = some u := by
  match v, h with
  | .inl x, h => exact ⟨x, rfl, h⟩
  | .inr _, h => cases h
theorem isR_some {f : Option M3} {v : MV} {u : M3} (h : isR f v = some u) : ∃ x, v = .inr x ∧ f = some u := by
  match v, h with
  | .inr x, h => exact ⟨x, rfl, h⟩
  | .inl _, h => cases h
noncomputable def onO (f : MV → Option M3) (o : Option MV) : Option M3 := @Option.rec MV (fun _ => Option M3) none f o
theorem onO_some {f : MV → Option M3} {o : Option MV} {u : M3} (h : onO f o = some u) : ∃ v, o = some v ∧ f v = some u := by
  match o, h with
  | some v, h => exact ⟨v, rfl, h⟩
  | none, h => cases h
section QC
variable {w : W3} {q : MM} {pc len nj tj a b : Nat}
noncomputable def q_ild (k nj : Nat) : Cl3 := fun kk _ _ _ ml st hh => nthG (onO fun v => isI (kk nj ml (v :: st) hh) v) ml k
noncomputable def q_ald (k nj : Nat) : Cl3 := fun kk _ _ _ ml st hh => nthG (onO fun v => isR (kk nj ml (v :: st) hh) v) ml k
theorem ild_some {kk : K3} {k : Nat} {ml : List (Option MV)} {st : List MV} {hh : HH} {u : M3} (hu : nthG (onO fun v => isI (kk nj ml (v :: st) hh) v) ml k = some u) : ∃ x, mint (mld ml k) = some x ∧ kk nj ml (.inl x :: st) hh = some u := by
  obtain ⟨o, h1, h2⟩ := nthG_some hu
  obtain ⟨v, rfl, h3⟩ := onO_some h2
  obtain ⟨x, rfl, h4⟩ := isI_some h3
  exact ⟨x, by simp [mld, h1, mint], h4⟩
theorem ald_some {kk : K3} {k : Nat} {ml : List (Option MV)} {st : List MV} {hh : HH} {u : M3} (hu : nthG (onO fun v => isR (kk nj ml (v :: st) hh) v) ml k = some u) : ∃ x, mref (mld ml k) = some x ∧ kk nj ml (.inr x :: st) hh = some u := by
  obtain ⟨o, h1, h2⟩ := nthG_some hu
  obtain ⟨v, rfl, h3⟩ := onO_some h2
  obtain ⟨x, rfl, h4⟩ := isR_some h3
  exact ⟨x, by simp [mld, h1, mref], h4⟩
theorem ok_iload {k : Nat} : Cok w (q_ild k nj) q (pc, .iload k, 2, nj, tj, a, b, 0) := by
  intro kk kc kr d ml st hh u hv hu
  obtain ⟨x, h1, h2⟩ := ild_some hu
  exact Or.inl ⟨nj, _, _, hh, by simp [act, mpsG, k_iload, h1], hv, h2⟩
theorem ok_iload_n {k : Fin 4} : Cok w (q_ild k.val nj) q (pc, .iload_n k, 1, nj, tj, a, b, 0) := by
  intro kk kc kr d ml st hh u hv hu
  obtain ⟨x, h1, h2⟩ := ild_some hu
  exact Or.inl ⟨nj, _, _, hh, by simp [act, mpsG, k_iload_n, h1], hv, h2⟩
theorem ok_aload {k : Nat} : Cok w (q_ald k nj) q (pc, .aload k, 2, nj, tj, a, b, 0) := by
  intro kk kc kr d ml st hh u hv hu
  obtain ⟨x, h1, h2⟩ := ald_some hu
  exact Or.inl ⟨nj, _, _, hh, by simp [act, mpsG, k_aload, h1], hv, h2⟩
theorem ok_aload_n {k : Fin 4} : Cok w (q_ald k.val nj) q (pc, .aload_n k, 1, nj, tj, a, b, 0) := by
  intro kk kc kr d ml st hh u hv hu
  obtain ⟨x, h1, h2⟩ := ald_some hu
  exact Or.inl ⟨nj, _, _, hh, by simp [act, mpsG, k_aload_n, h1], hv, h2⟩
noncomputable def q_ist (k nj : Nat) : Cl3 := fun kk _ _ _ ml st hh => popI (fun x t => nthG (fun _ => kk nj (setR (some (.inl x)) ml k) t hh) ml k) st
theorem ist_some {kk : K3} {k : Nat} {ml : List (Option MV)} {st : List MV} {hh : HH} {u : M3} (hu : popI (fun x t => nthG (fun _ => kk nj (setR (some (.inl x)) ml k) t hh) ml k) st = some u) : ∃ x t, st = .inl x :: t ∧ k < ml.length ∧ kk nj (ml.set k (some (.inl x))) t hh = some u := by
  obtain ⟨x, t, rfl, h1⟩ := popI_some hu
  obtain ⟨o, h2, h3⟩ := nthG_some h1
  rw [setR_eq] at h3
  exact ⟨x, t, rfl, (List.getElem?_eq_some_iff.mp h2).1, h3⟩
theorem ok_istore {k : Nat} : Cok w (q_ist k nj) q (pc, .istore k, 2, nj, tj, a, b, 0) := by
  intro kk kc kr d ml st hh u hv hu
  obtain ⟨x, t, rfl, h1, h2⟩ := ist_some hu
  exact Or.inl ⟨nj, _, _, hh, by simp [act, mpsG, k_istore, h1], hv, h2⟩
theorem ok_istore_n {k : Fin 4} : Cok w (q_ist k.val nj) q (pc, .istore_n k, 1, nj, tj, a, b, 0) := by
  intro kk kc kr d ml st hh u hv hu
  obtain ⟨x, t, rfl, h1, h2⟩ := ist_some hu
  exact Or.inl ⟨nj, _, _, hh, by simp [act, mpsG, k_istore_n, h1], hv, h2⟩
noncomputable def q_ast (k nj : Nat) : Cl3 := fun kk _ _ _ ml st hh => @List.rec MV (fun _ => Option M3) none (fun v t _ => isR (nthG (fun _ => kk nj (setR (some v) ml k) t hh) ml k) v) st
theorem ast_some {kk : K3} {k : Nat} {ml : List (Option MV)} {st : List MV} {hh : HH} {u : M3} (hu : q_ast k nj kk (fun _ _ _ _ _ _ _ => none) (fun _ _ => none) 0 ml st hh = some u) : ∃ x t, st = .inr x :: t ∧ k < ml.length ∧ kk nj (ml.set k (some (.inr x))) t hh = some u := by
  match st, hu with
  | v :: t, hu =>
    have hu : isR (nthG (fun _ => kk nj (setR (some v) ml k) t hh) ml k) v = some u := hu
    obtain ⟨x, rfl, h1⟩ := isR_some hu
    obtain ⟨o, h2, h3⟩ := nthG_some h1
    rw [setR_eq] at h3
    exact ⟨x, t, rfl, (List.getElem?_eq_some_iff.mp h2).1, h3⟩
  | [], hu => cases hu
theorem ok_astore {k : Nat} : Cok w (q_ast k nj) q (pc, .astore k, 2, nj, tj, a, b, 0) := by
  intro kk kc kr d ml st hh u hv hu
  obtain ⟨x, t, rfl, h1, h2⟩ := ast_some hu
  exact Or.inl ⟨nj, _, _, hh, by simp [act, mpsG, k_astore, h1], hv, h2⟩
theorem ok_astore_n {k : Fin 4} : Cok w (q_ast k.val nj) q (pc, .astore_n k, 1, nj, tj, a, b, 0) := by
  intro kk kc kr d ml st hh u hv hu
  obtain ⟨x, t, rfl, h1, h2⟩ := ast_some hu
  exact Or.inl ⟨nj, _, _, hh, by simp [act, mpsG, k_astore_n, h1], hv, h2⟩
def q_con (v : Int32) (nj : Nat) : Cl3 := fun kk _ _ _ ml st hh => kk nj ml (.inl v :: st) hh
theorem ok_iconst {i : Int} : Cok w (q_con (Int32.ofInt i) nj) q (pc, .iconst i, 1, nj, tj, a, b, 0) := fun kk kc kr d ml st hh u hv hu => Or.inl ⟨nj, _, _, hh, by simp [act, mpsG, k_iconst], hv, hu⟩
theorem ok_bipush {i : Int} : Cok w (q_con (Int8.ofInt i).toInt32 nj) q (pc, .bipush i, 2, nj, tj, a, b, 0) := fun kk kc kr d ml st hh u hv hu => Or.inl ⟨nj, _, _, hh, by simp [act, mpsG, k_bipush], hv, hu⟩
noncomputable def q_inc (k : Nat) (n : Int32) (nj : Nat) : Cl3 := fun kk _ _ _ ml st hh => nthG (onO fun v => @Sum.rec Int32 (Option Nat) (fun _ => Option M3) (fun x => kk nj (setR (some (.inl (x + n))) ml k) st hh) (fun _ => none) v) ml k
theorem ok_iinc {k : Nat} {n : Int} : Cok w (q_inc k (Int32.ofInt n) nj) q (pc, .iinc k n, 3, nj, tj, a, b, 0) := by
  intro kk kc kr d ml st hh u hv hu
  obtain ⟨o, h1, h2⟩ := nthG_some hu
  obtain ⟨v, rfl, h3⟩ := onO_some h2
  match v, h1, h3 with
  | .inl x, h1, h3 =>
    have h3 : kk nj (setR (some (.inl (x + Int32.ofInt n))) ml k) st hh = some u := h3
    rw [setR_eq] at h3
    have hlt := (List.getElem?_eq_some_iff.mp h1).1
    have hm : mint (mld ml k) = some x := by unfold mld; rw [h1]; rfl
    exact Or.inl ⟨nj, _, _, hh, by simp [act, mpsG, k_iinc, hlt, hm], hv, h3⟩
  | .inr _, _, h3 => cases h3
noncomputable def q_ar (f : Int32 → Int32 → Int32) (nj : Nat) : Cl3 := fun kk _ _ _ ml st hh => popI (fun y t => popI (fun x t => kk nj ml (.inl (f x y) :: t) hh) t) st
theorem ok_iadd : Cok w (q_ar (fun x y => x + y) nj) q (pc, .iadd, 1, nj, tj, a, b, 0) := by
  intro kk kc kr d ml st hh u hv hu
  obtain ⟨y, t, rfl, h1⟩ := popI_some hu
  obtain ⟨x, t, rfl, h2⟩ := popI_some h1
  exact Or.inl ⟨nj, _, _, hh, by simp [act, mpsG, k_iadd], hv, h2⟩
theorem ok_isub : Cok w (q_ar (fun x y => x - y) nj) q (pc, .isub, 1, nj, tj, a, b, 0) := by
  intro kk kc kr d ml st hh u hv hu
  obtain ⟨y, t, rfl, h1⟩ := popI_some hu
  obtain ⟨x, t, rfl, h2⟩ := popI_some h1
  exact Or.inl ⟨nj, _, _, hh, by simp [act, mpsG, k_isub], hv, h2⟩
theorem ok_imul : Cok w (q_ar (fun x y => x * y) nj) q (pc, .imul, 1, nj, tj, a, b, 0) := by
  intro kk kc kr d ml st hh u hv hu
  obtain ⟨y, t, rfl, h1⟩ := popI_some hu
  obtain ⟨x, t, rfl, h2⟩ := popI_some h1
  exact Or.inl ⟨nj, _, _, hh, by simp [act, mpsG, k_imul], hv, h2⟩
def q_go (tj : Nat) : Cl3 := fun kk _ _ _ ml st hh => kk tj ml st hh
theorem ok_goto {off : Int} : Cok w (q_go tj) q (pc, .goto off, 3, nj, tj, a, b, 1) := fun kk kc kr d ml st hh u hv hu => Or.inl ⟨tj, _, _, hh, by simp [act], hv, hu⟩
noncomputable def q_if (c : Jvm.ClassFile.Cond) (nj tj : Nat) : Cl3 := fun kk _ _ _ ml st hh => popI (fun x t => @Bool.rec (fun _ => Option M3) (kk nj ml t hh) (kk tj ml t hh) (mcq c x 0)) st
noncomputable def q_ic (c : Jvm.ClassFile.Cond) (nj tj : Nat) : Cl3 := fun kk _ _ _ ml st hh => popI (fun y t => popI (fun x t => @Bool.rec (fun _ => Option M3) (kk nj ml t hh) (kk tj ml t hh) (mcq c x y)) t) st
theorem ok_ifCond {c : Jvm.ClassFile.Cond} {off : Int} : Cok w (q_if c nj tj) q (pc, .ifCond c off, 3, nj, tj, a, b, 1) := by
  intro kk kc kr d ml st hh u hv hu
  obtain ⟨x, t, rfl, h1⟩ := popI_some hu
  cases hc : mcq c x 0 <;> simp only [hc] at h1
  · exact Or.inl ⟨nj, ml, t, hh, by simp [act, mcq_eq, hc], hv, h1⟩
  · exact Or.inl ⟨tj, ml, t, hh, by simp [act, mcq_eq, hc], hv, h1⟩
theorem ok_if_icmp {c : Jvm.ClassFile.Cond} {off : Int} : Cok w (q_ic c nj tj) q (pc, .if_icmp c off, 3, nj, tj, a, b, 1) := by
  intro kk kc kr d ml st hh u hv hu
  obtain ⟨y, t, rfl, h1⟩ := popI_some hu
  obtain ⟨x, t, rfl, h2⟩ := popI_some h1
  cases hc : mcq c x y <;> simp only [hc] at h2
  · exact Or.inl ⟨nj, ml, t, hh, by simp [act, mcq_eq, hc], hv, h2⟩
  · exact Or.inl ⟨tj, ml, t, hh, by simp [act, mcq_eq, hc], hv, h2⟩
noncomputable def q_gf (w : W3) (ci k nj : Nat) : Cl3 := fun kk _ _ _ ml st hh => popR (fun r t => hnth w (fun c => onB (Nat.beq c.1 (10 + ci)) (nthG (fun v => kk nj ml (v :: t) hh) c.2 k)) hh r) st
theorem ok_getfield {i : Nat} : Cok w (q_gf w a b nj) q (pc, .getfield i, 3, nj, tj, a, b, 0) := by
  intro kk kc kr d ml st hh u hv hu
  obtain ⟨r, t, rfl, h1⟩ := popR_some hu
  obtain ⟨⟨tg, vs⟩, h2, h3, -⟩ := hnth_some hv h1
  obtain ⟨h4, h5⟩ := onB_some h3
  obtain ⟨v, h6, h7⟩ := nthG_some h5
  have h4 : tg = 10 + a := Nat.eq_of_beq_eq_true h4
  subst h4
  simp only at h6
  exact Or.inl ⟨nj, _, _, hh, by simp [act, mpsG, k_getfield, h2, h6], hv, h7⟩
noncomputable def q_ld (w : W3) (tg nj : Nat) : Cl3 := fun kk _ _ _ ml st hh => popI (fun i t => popR (fun r t => hnth w (fun c => onB (Nat.beq c.1 tg) (onB (Nat.blt (nb i) 2147483648) (nthG (fun v => isI (kk nj ml (v :: t) hh) v) c.2 (nb i)))) hh r) t) st
theorem ld_some {kk : K3} {tg : Nat} {ml : List (Option MV)} {st : List MV} {hh : HH} {u : M3} (hv : Vw w hh) (hu : q_ld w tg nj kk (fun _ _ _ _ _ _ _ => none) (fun _ _ => none) 0 ml st hh = some u) : ∃ i r t vs x, st = .inl i :: .inr (some r) :: t ∧ (ab w hh)[r]? = some (tg, vs) ∧ mint ((mix i vs.length).bind fun j => vs[j]?) = some x ∧ kk nj ml (.inl x :: t) hh = some u := by
  obtain ⟨i, t, rfl, h1⟩ := popI_some hu
  obtain ⟨r, t, rfl, h2⟩ := popR_some h1
  obtain ⟨⟨tg2, vs⟩, h3, h4, -⟩ := hnth_some hv h2
  obtain ⟨h5, h6⟩ := onB_some h4
  obtain ⟨h7, h8⟩ := onB_some h6
  obtain ⟨v, h9, h10⟩ := nthG_some h8
  obtain ⟨x, rfl, h11⟩ := isI_some h10
  have h5 : tg2 = tg := Nat.eq_of_beq_eq_true h5
  subst h5
  rw [blt_iff, decide_eq_true_eq] at h7
  obtain ⟨g1, g2⟩ := nb_ix h7
  have hlt := (List.getElem?_eq_some_iff.mp h9).1
  refine ⟨i, r, t, vs, x, rfl, h3, ?_, h11⟩
  simp only at h9 hlt
  have hm : mix i vs.length = some (nb i) := by simp [mix, g1, g2, hlt]
  rw [hm]
  show mint (vs[nb i]?) = some x
  rw [h9]
  rfl
theorem ok_iaload : Cok w (q_ld w 0 nj) q (pc, .iaload, 1, nj, tj, a, b, 0) := by
  intro kk kc kr d ml st hh u hv hu
  obtain ⟨i, r, t, vs, x, rfl, h1, h2, h3⟩ := ld_some hv hu
  exact Or.inl ⟨nj, _, _, hh, by simp [act, mpsG, k_iaload, h1, h2], hv, h3⟩
theorem ok_baload : Cok w (q_ld w 1 nj) q (pc, .baload, 1, nj, tj, a, b, 0) := by
  intro kk kc kr d ml st hh u hv hu
  obtain ⟨i, r, t, vs, x, rfl, h1, h2, h3⟩ := ld_some hv hu
  exact Or.inl ⟨nj, _, _, hh, by simp [act, mpsG, k_baload, h1, h2], hv, h3⟩
def tg3 (t : Nat) : Bool := Nat.beq t 2 || (Nat.beq t 3 || Nat.beq t 4)
noncomputable def q_aal (w : W3) (nj : Nat) : Cl3 := fun kk _ _ _ ml st hh => popI (fun i t => popR (fun r t => hnth w (fun c => onB (tg3 c.1) (onB (Nat.blt (nb i) 2147483648) (nthG (fun v => isR (kk nj ml (v :: t) hh) v) c.2 (nb i)))) hh r) t) st
theorem ok_aaload : Cok w (q_aal w nj) q (pc, .aaload, 1, nj, tj, a, b, 0) := by
  intro kk kc kr d ml st hh u hv hu
  obtain ⟨i, t, rfl, h1⟩ := popI_some hu
  obtain ⟨r, t, rfl, h2⟩ := popR_some h1
  obtain ⟨⟨tg, vs⟩, h3, h4, -⟩ := hnth_some hv h2
  obtain ⟨h5, h6⟩ := onB_some h4
  obtain ⟨h7, h8⟩ := onB_some h6
  obtain ⟨v, h9, h10⟩ := nthG_some h8
  obtain ⟨x, rfl, h11⟩ := isR_some h10
  have h5 : tg = 2 ∨ tg = 3 ∨ tg = 4 := by
    simp only [tg3, Bool.or_eq_true, Nat.beq_eq] at h5
    exact h5
  rw [blt_iff, decide_eq_true_eq] at h7
  obtain ⟨g1, g2⟩ := nb_ix h7
  have hlt := (List.getElem?_eq_some_iff.mp h9).1
  simp only at h9 hlt
  have hm : mix i vs.length = some (nb i) := by simp [mix, g1, g2, hlt]
  have hr : mref ((mix i vs.length).bind fun j => vs[j]?) = some x := by
    rw [hm]
    show mref (vs[nb i]?) = some x
    rw [h9]
    rfl
  exact Or.inl ⟨nj, _, _, hh, by simp [act, mpsG, k_aaload, h3, h5, hr], hv, h11⟩
noncomputable def q_ias (w : W3) (nj : Nat) : Cl3 := fun kk _ _ _ ml st hh => popI (fun x t => popI (fun i t => popR (fun r t => hnth w (fun c => onB (Nat.beq c.1 0) (onB (Nat.blt (nb i) 2147483648) (nthG (fun _ => kk nj ml t (hset w (0, setR (.inl x) c.2 (nb i)) hh r)) c.2 (nb i)))) hh r) t) t) st
theorem ok_iastore : Cok w (q_ias w nj) q (pc, .iastore, 1, nj, tj, a, b, 0) := by
  intro kk kc kr d ml st hh u hv hu
  obtain ⟨x, t, rfl, h0⟩ := popI_some hu
  obtain ⟨i, t, rfl, h1⟩ := popI_some h0
  obtain ⟨r, t, rfl, h2⟩ := popR_some h1
  obtain ⟨⟨tg, vs⟩, h3, h4, hr⟩ := hnth_some hv h2
  obtain ⟨h5, h6⟩ := onB_some h4
  obtain ⟨h7, h8⟩ := onB_some h6
  obtain ⟨v, h9, h10⟩ := nthG_some h8
  have h5 : tg = 0 := Nat.eq_of_beq_eq_true h5
  subst h5
  rw [blt_iff, decide_eq_true_eq] at h7
  obtain ⟨g1, g2⟩ := nb_ix h7
  have hlt := (List.getElem?_eq_some_iff.mp h9).1
  obtain ⟨e1, e2⟩ := hset_ab (c := (0, setR (.inl x) vs (nb i))) hv hr
  simp only at hlt
  refine Or.inl ⟨nj, ml, t, _, ?_, e2, h10⟩
  rw [e1]
  simp [act, mpsG, k_iastore, h3, mix, g1, g2, hlt, setR_eq]
noncomputable def q_bas (w : W3) (nj : Nat) : Cl3 := fun kk _ _ _ ml st hh => popI (fun x t => popI (fun i t => popR (fun r t => hnth w (fun c => onB (Nat.beq c.1 1) (onB (Nat.ble (nb x) 1) (onB (Nat.blt (nb i) 2147483648) (nthG (fun _ => kk nj ml t (hset w (1, setR (.inl x) c.2 (nb i)) hh r)) c.2 (nb i))))) hh r) t) t) st
theorem ok_bastore : Cok w (q_bas w nj) q (pc, .bastore, 1, nj, tj, a, b, 0) := by
  intro kk kc kr d ml st hh u hv hu
  obtain ⟨x, t, rfl, h0⟩ := popI_some hu
  obtain ⟨i, t, rfl, h1⟩ := popI_some h0
  obtain ⟨r, t, rfl, h2⟩ := popR_some h1
  obtain ⟨⟨tg, vs⟩, h3, h4, hr⟩ := hnth_some hv h2
  obtain ⟨h5, h5b⟩ := onB_some h4
  obtain ⟨hx, h6⟩ := onB_some h5b
  obtain ⟨h7, h8⟩ := onB_some h6
  obtain ⟨v, h9, h10⟩ := nthG_some h8
  have h5 : tg = 1 := Nat.eq_of_beq_eq_true h5
  subst h5
  have hx : x = 0 ∨ x = 1 := by
    have h01 := Nat.le_of_ble_eq_true hx
    have e0 : nb 0 = 0 := by decide
    have e1 : nb 1 = 1 := by decide
    rcases (show nb x = 0 ∨ nb x = 1 by omega) with e | e
    · exact Or.inl ((nb_eq x 0).mpr (by rw [e, e0]))
    · exact Or.inr ((nb_eq x 1).mpr (by rw [e, e1]))
  rw [blt_iff, decide_eq_true_eq] at h7
  obtain ⟨g1, g2⟩ := nb_ix h7
  have hlt := (List.getElem?_eq_some_iff.mp h9).1
  obtain ⟨e1, e2⟩ := hset_ab (c := (1, setR (.inl x) vs (nb i))) hv hr
  simp only at hlt
  refine Or.inl ⟨nj, ml, t, _, ?_, e2, h10⟩
  rw [e1]
  simp [act, mpsG, k_bastore, h3, hx, mix, g1, g2, hlt, setR_eq]
noncomputable def q_al (w : W3) (nj : Nat) : Cl3 := fun kk _ _ _ ml st hh => popR (fun r t => hnth w (fun c => onB (Nat.blt c.1 5) (kk nj ml (.inl (Int32.ofNat c.2.length) :: t) hh)) hh r) st
theorem ok_arraylength : Cok w (q_al w nj) q (pc, .arraylength, 1, nj, tj, a, b, 0) := by
  intro kk kc kr d ml st hh u hv hu
  obtain ⟨r, t, rfl, h1⟩ := popR_some hu
  obtain ⟨⟨tg, vs⟩, h2, h3, -⟩ := hnth_some hv h1
  obtain ⟨h4, h5⟩ := onB_some h3
  rw [blt_iff, decide_eq_true_eq] at h4
  simp only at h4 h5
  exact Or.inl ⟨nj, _, _, hh, by simp [act, mpsG, k_arraylength, h2, h4], hv, h5⟩
noncomputable def q_nia (w : W3) (nj : Nat) : Cl3 := fun kk _ _ _ ml st hh => popI (fun n t => onB (Nat.ble (nb n) 100000) (kk nj ml (.inr (some (hlen w hh)) :: t) (hh.1, hh.2.1, hh.2.2 ++ [(0, List.replicate (nb n) (.inl 0))]))) st
theorem ok_newint : Cok w (q_nia w nj) q (pc, .newarray .int, 2, nj, tj, a, b, 0) := by
  intro kk kc kr d ml st hh u hv hu
  obtain ⟨n, t, rfl, h1⟩ := popI_some hu
  obtain ⟨h2, h3⟩ := onB_some h1
  have h2 := Nat.le_of_ble_eq_true h2
  obtain ⟨g1, g2⟩ := nb_ix (i := n) (by omega)
  obtain ⟨e1, e2⟩ := happ_ab hv [(0, List.replicate (nb n) (.inl 0))]
  refine Or.inl ⟨nj, ml, _, _, ?_, e2, h3⟩
  rw [e1, hlen_ab hv]
  simp [act, mpsG, k_newarray, g1, g2, h2]
noncomputable def q_mna (w : W3) (nj : Nat) : Cl3 := fun kk _ _ _ ml st hh => popI (fun k t => popI (fun n t => onB (Nat.ble (nb n) 1000) (onB (Nat.ble (nb k) 1000) (kk nj ml (.inr (some (hlen w hh)) :: t) (hh.1, hh.2.1, hh.2.2 ++ mgrid (hlen w hh) (nb n) (nb k))))) t) st
theorem ok_mna {i : Nat} : Cok w (q_mna w nj) q (pc, .multianewarray i 2, 4, nj, tj, 4, b, 0) := by
  intro kk kc kr d ml st hh u hv hu
  obtain ⟨k, t, rfl, h1⟩ := popI_some hu
  obtain ⟨n, t, rfl, h2⟩ := popI_some h1
  obtain ⟨h3, h4⟩ := onB_some h2
  obtain ⟨h5, h6⟩ := onB_some h4
  have h3 := Nat.le_of_ble_eq_true h3
  have h5 := Nat.le_of_ble_eq_true h5
  obtain ⟨g1, g2⟩ := nb_ix (i := n) (by omega)
  obtain ⟨g3, g4⟩ := nb_ix (i := k) (by omega)
  obtain ⟨e1, e2⟩ := happ_ab hv (mgrid (hlen w hh) (nb n) (nb k))
  refine Or.inl ⟨nj, ml, _, _, ?_, e2, h6⟩
  rw [e1, hlen_ab hv]
  simp [act, mpsG, k_multianewarray, g1, g2, g3, g4, h3, h5]
/-- calls, returns: by the row's own words -/
noncomputable def q_ca (w : W3) (ig : Instr) (a b nj : Nat) : Cl3 := fun _ kc _ d ml st hh => match mcalG (fun _ => some (a, b)) d ig 3 st (ab w hh) with
  | some (M', d', as, rest) => kc M' d' as rest nj ml hh
  | none => none
theorem ok_ca {ig : Instr} : Cok w (q_ca w ig a b nj) q (pc, ig, 3, nj, tj, a, b, 3) := by
  intro kk kc kr d ml st hh u hv hu
  unfold q_ca at hu
  split at hu
  · next M' d' as rest hc => exact Or.inr (Or.inr ⟨M', d', as, rest, nj, by simp [act, hc], hu⟩)
  · cases hu
def q_re (ret : Option FieldType) (ig : Instr) : Cl3 := fun _ _ kr _ _ st hh => match mret ret ig 1 st with
  | some r => kr r hh
  | none => none
theorem ok_re {ig : Instr} : Cok w (q_re q.2.2.2.1 ig) q (pc, ig, 1, nj, tj, a, b, 2) := by
  intro kk kc kr d ml st hh u hv hu
  unfold q_re at hu
  split at hu
  · next r hr => exact Or.inr (Or.inl ⟨r, by simp [act, hr], hu⟩)
  · cases hu
/-- a field that is stored into, of an object in the front -/
def q_pf (i a b own : Nat) (ini : Bool) (pc nj : Nat) : Cl3 := fun kk _ _ _ ml st hh => match k_putfield i (fun _ => some (a, b)) own ini 3 pc ml st hh.1 with
  | some (_, ml2, st2, p2) => kk nj ml2 st2 (p2, hh.2)
  | none => none
theorem ok_putfield {i : Nat} : Cok w (q_pf i a b q.2.2.2.2.1 (q.1.name == "<init>") pc nj) q (pc, .putfield i, 3, nj, tj, a, b, 0) := by
  intro kk kc kr d ml st hh u hv hu
  unfold q_pf at hu
  split at hu
  · next p1 ml2 st2 p2 hp =>
    have hpp := hp
    unfold k_putfield at hp
    split at hp
    · next v r st' =>
      split at hp
      · next ci k t vs hF hc =>
        split at hp
        · next qq ty hq1 hq2 =>
          split at hp
          · next hl =>
            cases hp
            cases hF
            have hlt := (List.getElem?_eq_some_iff.mp hc).1
            have hc2 : (ab w hh)[r]? = some (t, vs) := by
              unfold ab
              rw [List.getElem?_append_left hlt]
              exact hc
            refine Or.inl ⟨nj, ml, _, (hh.1.set r (t, vs.set b v), hh.2), ?_, ⟨by rw [← hv.1]; simp, hv.2.1, hv.2.2.1, hv.2.2.2⟩, hu⟩
            have e : ab w (hh.1.set r (t, vs.set b v), hh.2) = (ab w hh).set r (t, vs.set b v) := by
              unfold ab
              rw [List.set_append_left _ _ hlt]
            rw [e]
            have hk : k_putfield i (fun _ => some (a, b)) q.2.2.2.2.1 (q.1.name == "<init>") 3 pc ml (v :: .inr (some r) :: st2) (ab w hh) = some (pc + 3, ml, st2, (ab w hh).set r (t, vs.set b v)) := by
              unfold k_putfield
              simp only [hc2, hq1, hq2]
              exact if_pos ⟨trivial, hl.2⟩
            simp only [act, mpsG, hk]
          · cases hp
        · cases hp
      · cases hp
    · cases hp
  · cases hu
def q_no : Cl3 := fun _ _ _ _ _ _ _ => none
theorem ok_no {x : FI} : Cok w q_no q x := fun _ _ _ _ _ _ _ _ _ hu => by cases hu
end QC
