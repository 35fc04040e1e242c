/-! HOW A CELL OF THE SMALL MACHINE LIES IN THE HEAP: ads are the addresses, by number -/
def vr (ads : List Nat) (v : MV) (x : Value) : Prop := match v with
  | .inl i => x = .int i
  | .inr none => x = .null
  | .inr (some a) => ∃ q : Nat, ads[a]? = some q ∧ x = .ref q
def vrs (ads : List Nat) : List MV → List Value → Prop
  | [], [] => True
  | v :: vs, x :: xs => vr ads v x ∧ vrs ads vs xs
  | [], _ :: _ => False
  | _ :: _, [] => False
theorem vr_mono {ads l : List Nat} {v : MV} {x : Value} (h : vr ads v x) : vr (ads ++ l) v x := by
  match v, h with
  | .inl i, h => exact h
  | .inr none, h => exact h
  | .inr (some a), ⟨q, h1, h2⟩ => exact ⟨q, by rw [List.getElem?_append_left (List.getElem?_eq_some_iff.mp h1).1]; exact h1, h2⟩
theorem vrs_mono {ads l : List Nat} : ∀ {vs : List MV} {xs : List Value}, vrs ads vs xs → vrs (ads ++ l) vs xs
  | [], [], _ => trivial
  | _ :: _, _ :: _, h => ⟨vr_mono h.1, vrs_mono h.2⟩
  | [], _ :: _, h => h.elim
  | _ :: _, [], h => h.elim
theorem vrs_len {ads : List Nat} : ∀ {vs : List MV} {xs : List Value}, vrs ads vs xs → xs.length = vs.length
  | [], [], _ => rfl
  | _ :: _, _ :: _, h => by simp [vrs_len h.2]
  | [], _ :: _, h => h.elim
  | _ :: _, [], h => h.elim
theorem vrs_get {ads : List Nat} : ∀ {vs : List MV} {xs : List Value} {k : Nat} {v : MV}, vrs ads vs xs → vs[k]? = some v → ∃ x, xs[k]? = some x ∧ vr ads v x
  | [], [], _, _, _, h => by simp at h
  | _ :: _, x :: _, 0, _, hr, h => by simp at h; subst h; exact ⟨x, rfl, hr.1⟩
  | _ :: _, _ :: _, k + 1, _, hr, h => by simp at h; simpa using vrs_get hr.2 h
  | [], _ :: _, _, _, h, _ => h.elim
  | _ :: _, [], _, _, h, _ => h.elim
theorem vrs_set {ads : List Nat} : ∀ {vs : List MV} {xs : List Value} {k : Nat} {v : MV} {x : Value}, vrs ads vs xs → vr ads v x → vrs ads (vs.set k v) (xs.set k x)
  | [], [], _, _, _, _, _ => by simp [vrs]
  | _ :: _, _ :: _, 0, _, _, hr, h => ⟨h, hr.2⟩
  | _ :: _, _ :: _, k + 1, _, _, hr, h => ⟨hr.1, vrs_set hr.2 h⟩
  | [], _ :: _, _, _, _, h, _ => h.elim
  | _ :: _, [], _, _, _, h, _ => h.elim
theorem vrs_app {ads : List Nat} : ∀ {vs ws : List MV} {xs ys : List Value}, vrs ads vs xs → vrs ads ws ys → vrs ads (vs ++ ws) (xs ++ ys)
  | [], _, [], _, _, h => h
  | _ :: _, _, _ :: _, _, h, h2 => ⟨h.1, vrs_app h.2 h2⟩
  | [], _, _ :: _, _, h, _ => h.elim
  | _ :: _, _, [], _, h, _ => h.elim
theorem vrs_rev {ads : List Nat} : ∀ {vs : List MV} {xs : List Value}, vrs ads vs xs → vrs ads vs.reverse xs.reverse
  | [], [], _ => trivial
  | _ :: _, _ :: _, h => by simp only [List.reverse_cons]; exact vrs_app (vrs_rev h.2) ⟨h.1, trivial⟩
  | [], _ :: _, h => h.elim
  | _ :: _, [], h => h.elim
theorem vrs_split {ads : List Nat} (k : Nat) {vs : List MV} {xs : List Value} (h : vrs ads vs xs) : vrs ads (vs.take k) (xs.take k) ∧ vrs ads (vs.drop k) (xs.drop k) := by
  induction k generalizing vs xs with
  | zero => exact ⟨by simp [vrs], by simpa using h⟩
  | succ k ih => match vs, xs, h with
    | [], [], _ => exact ⟨by simp [vrs], by simp [vrs]⟩
    | _ :: _, _ :: _, h => exact ⟨⟨h.1, (ih h.2).1⟩, (ih h.2).2⟩
theorem vr_cat {ads : List Nat} {v : MV} {x : Value} (h : vr ads v x) : x.category = 1 := by
  match v, h with
  | .inl i, h => rw [h]; rfl
  | .inr none, h => rw [h]; rfl
  | .inr (some a), ⟨q, _, h2⟩ => rw [h2]; rfl
theorem vrs_cat {ads : List Nat} : ∀ {vs : List MV} {xs : List Value}, vrs ads vs xs → (xs.map fun v => v.category).sum = vs.length
  | [], [], _ => rfl
  | _ :: _, _ :: _, h => by simp [vr_cat h.1, vrs_cat h.2]; omega
  | [], _ :: _, h => h.elim
  | _ :: _, [], h => h.elim
/-- an array of references -/
def ecR (ads : List Nat) (tys : List (ClassId × FieldType)) (ty : FieldType) (vs : List MV) (e : va_E) : Prop :=
  ∃ (cA : ClassId) (f : Nat → Option Nat) (t0 : Nat), e = .inl (cA, vs.length, .inr (.inr (.inr (.inr f)))) ∧ tys[t0]? = some (cA, ty) ∧ ∀ (j : Nat) (v : MV), vs[j]? = some v → vr ads v (va_rf (f j)) ∧ ∃ o, v = .inr o
/-- an array of ints or booleans -/
def ecI (tys : List (ClassId × FieldType)) (ty : FieldType) (vs : List MV) (e : va_E) : Prop :=
  ∃ (cA : ClassId) (f : Nat → Int32) (t0 : Nat), e = .inl (cA, vs.length, .inl f) ∧ tys[t0]? = some (cA, ty) ∧ ∀ (j : Nat) (v : MV), vs[j]? = some v → v = .inl (f j)
def ecO (ads : List Nat) (k : Nat) (vs : List MV) (e : va_E) : Prop := ∃ fs : List Value, e = .inr (k, fs) ∧ vrs ads vs fs
def mtag (t : Nat) : FieldType := if t = 2 then .array .int else if t = 3 then .array (.array .int) else .array .boolean
def ec (ads : List Nat) (tys : List (ClassId × FieldType)) (c : MC) (e : va_E) : Prop :=
  (c.1 = 0 ∧ ecI tys .int c.2 e) ∨ (c.1 = 1 ∧ ecI tys .boolean c.2 e) ∨ ((c.1 = 2 ∨ c.1 = 3 ∨ c.1 = 4) ∧ ecR ads tys (mtag c.1) c.2 e) ∨ (10 ≤ c.1 ∧ ecO ads (c.1 - 10) c.2 e)
theorem ec_mono {ads l : List Nat} {tys ts : List (ClassId × FieldType)} {c : MC} {e : va_E} (h : ec ads tys c e) : ec (ads ++ l) (tys ++ ts) c e := by
  have ap : ∀ {t0 : Nat} {q : ClassId × FieldType}, tys[t0]? = some q → (tys ++ ts)[t0]? = some q := fun h => by rw [List.getElem?_append_left (List.getElem?_eq_some_iff.mp h).1]; exact h
  rcases h with ⟨h0, cA, f, t0, h1, h2, h3⟩ | ⟨h0, cA, f, t0, h1, h2, h3⟩ | ⟨h0, cA, f, t0, h1, h2, h3⟩ | ⟨h0, fs, h1, h2⟩
  · exact Or.inl ⟨h0, cA, f, t0, h1, ap h2, h3⟩
  · exact Or.inr (Or.inl ⟨h0, cA, f, t0, h1, ap h2, h3⟩)
  · exact Or.inr (Or.inr (Or.inl ⟨h0, cA, f, t0, h1, ap h2, fun j v hj => ⟨vr_mono (h3 j v hj).1, (h3 j v hj).2⟩⟩))
  · exact Or.inr (Or.inr (Or.inr ⟨h0, fs, h1, vrs_mono h2⟩))
/-- what is known of an array's class whose places hold arrays -/
def rk (s : State) (cA : ClassId) (ty : FieldType) : Prop := match ty with
  | .array t => ∃ (kA kc : Class) (comp : ClassId), s.vm.classes[cA]? = some kA ∧ kA.kind = .array comp (.array t) ∧ s.vm.findClass (FieldType.array t).toString = some comp ∧ s.vm.classes[comp]? = some kc
  | _ => True
theorem rk_moved {u U : State} (hvm : u.vm.Alike U.vm) {cA : ClassId} {ty : FieldType} (h : rk u cA ty) : rk U cA ty := by
  cases ty with
  | array t =>
    obtain ⟨kA, kc, comp, h1, h2, h3, h4⟩ := h
    obtain ⟨k', hk', he⟩ := hvm.2.2 _ _ h1
    obtain ⟨k2, hk2, -⟩ := hvm.2.2 _ _ h4
    exact ⟨k', k2, comp, hk', by rw [he]; exact h2, by rw [hvm.findClass]; exact h3, hk2⟩
  | _ => trivial
def Wd (D : va_G) (A : Nat → Prop) (s : State) (H : Heap) (ads : List Nat) (h : List MC) : Prop :=
  ∃ (ws : va_W) (tys : List (ClassId × FieldType)), ws.map (·.1) = ads ∧ h.length = ws.length ∧ (∀ (a : Nat) (c : MC) (q : Nat × va_E), h[a]? = some c → ws[a]? = some q → ec ads tys c q.2) ∧ va_P D mcl ws H ∧ va_D A ws ∧ va_K D mcl tys s ∧ ∀ (k : Nat) (q : ClassId × FieldType), tys[k]? = some q → rk s q.1 q.2
theorem Wd_moved {D : va_G} {A : Nat → Prop} {u U : State} {H : Heap} {ads : List Nat} {h : List MC} (hvm : u.vm.Alike U.vm) (w : Wd D A u H ads h) : Wd D A U H ads h := by
  obtain ⟨ws, tys, h1, h2, h3, h4, h5, h6, h7⟩ := w
  exact ⟨ws, tys, h1, h2, h3, h4, h5, va_K.moved hvm h6, fun k q hq => rk_moved hvm (h7 k q hq)⟩
def Lr (ads : List Nat) (ml : List (Option MV)) (ls : Array Slot) (nL : Nat) : Prop :=
  ml.length = nL ∧ ls.size = nL ∧ lv_wf ls ∧ ∀ (i : Nat) (v : MV), ml[i]? = some (some v) → ∃ x, vr ads v x ∧ ls[i]? = some (.val x)
theorem Lr_mono {ads l : List Nat} {ml : List (Option MV)} {ls : Array Slot} {nL : Nat} (h : Lr ads ml ls nL) : Lr (ads ++ l) ml ls nL :=
  ⟨h.1, h.2.1, h.2.2.1, fun i v hv => let ⟨x, h1, h2⟩ := h.2.2.2 i v hv; ⟨x, vr_mono h1, h2⟩⟩
theorem mslots_app (h : List MC) (c : MC) : mslots (h ++ [c]) = mslots h + c.2.length := by
  induction h with
  | nil => simp [mslots]
  | cons x h ih => simp [mslots, ih]; omega
theorem mslots_set {h : List MC} {a : Nat} {c c' : MC} (hc : h[a]? = some c) (hl : c'.2.length = c.2.length) : mslots (h.set a c') = mslots h := by
  induction h generalizing a with
  | nil => simp at hc
  | cons x h ih => cases a with
    | zero => simp at hc; subst hc; simp [mslots, hl]
    | succ a => simp at hc; simp [mslots, ih hc]
theorem mix_of {i : Int32} {n j : Nat} (h : mix i n = some j) : vp_in i n ∧ j = i.toNatClampNeg ∧ j < n := by
  unfold mix at h
  split at h
  · cases h
  · split at h
    · next h1 h2 => cases h; exact ⟨fun q => q.elim h1 (fun z => absurd h2 (Nat.not_lt.mpr z)), rfl, h2⟩
    · cases h
theorem mjmp_of {pc t : Nat} {off : Int} (h : mjmp pc off = some t) : (pc : Int) + off = (t : Int) := by
  unfold mjmp at h
  split at h
  · next h1 => cases h; omega
  · cases h
/-- a cell is stored into -/
theorem wd_set {D : va_G} {A : Nat → Prop} {s : State} {H1 : Heap} {ads : List Nat} {h : List MC} {ws : va_W} {tys : List (ClassId × FieldType)} {a q : Nat} {e e' : va_E} {c' : MC} (h1 : ws.map (·.1) = ads) (h2 : h.length = ws.length) (h3 : ∀ (a : Nat) (c : MC) (q : Nat × va_E), h[a]? = some c → ws[a]? = some q → ec ads tys c q.2) (h6 : va_K D mcl tys s) (h7 : ∀ (k : Nat) (q : ClassId × FieldType), tys[k]? = some q → rk s q.1 q.2)
    (ha : ws[a]? = some (q, e)) (he : ec ads tys c' e') (hP : va_P D mcl (ws.set a (q, e')) H1) (hD : va_D A (ws.set a (q, e'))) : Wd D A s H1 ads (h.set a c') := by
  refine ⟨ws.set a (q, e'), tys, ?_, by simp [h2], ?_, hP, hD, h6, h7⟩
  · rw [← h1, List.map_set]
    apply List.ext_getElem?
    intro i
    by_cases hi : a = i
    · subst hi
      have hlt : a < ws.length := (List.getElem?_eq_some_iff.mp ha).1
      simp [List.getElem?_set, hlt, ha]
      exact (List.getElem?_eq_some_iff.mp ha).2 ▸ rfl
    · simp [List.getElem?_set, hi]
  · intro b c2 q2 hb hw
    by_cases hi : a = b
    · subst hi
      have hlt : a < ws.length := (List.getElem?_eq_some_iff.mp ha).1
      have hlt2 : a < h.length := by omega
      simp [List.getElem?_set, hlt, hlt2] at hb hw
      subst hb; subst hw
      exact he
    · simp [List.getElem?_set, hi] at hb hw
      exact h3 b c2 q2 hb hw
/-- a cell comes -/
theorem wd_push {D : va_G} {A : Nat → Prop} {s : State} {H1 : Heap} {ads : List Nat} {h : List MC} {ws : va_W} {tys ts : List (ClassId × FieldType)} {q : Nat} {e' : va_E} {c' : MC} (h1 : ws.map (·.1) = ads) (h2 : h.length = ws.length) (h3 : ∀ (a : Nat) (c : MC) (q : Nat × va_E), h[a]? = some c → ws[a]? = some q → ec ads tys c q.2)
    (h6 : va_K D mcl (tys ++ ts) s) (h7 : ∀ (k : Nat) (q : ClassId × FieldType), (tys ++ ts)[k]? = some q → rk s q.1 q.2) (he : ec (ads ++ [q]) (tys ++ ts) c' e') (hP : va_P D mcl (ws ++ [(q, e')]) H1) (hD : va_D A (ws ++ [(q, e')])) : Wd D A s H1 (ads ++ [q]) (h ++ [c']) := by
  refine ⟨ws ++ [(q, e')], tys ++ ts, by simp [h1], by simp [h2], ?_, hP, hD, h6, h7⟩
  intro b c2 q2 hb hw
  by_cases hi : b < ws.length
  · rw [List.getElem?_append_left (by omega)] at hb
    rw [List.getElem?_append_left hi] at hw
    exact ec_mono (h3 b c2 q2 hb hw)
  · have hb2 : b = ws.length := by
      have := (List.getElem?_eq_some_iff.mp hw).1
      simp at this
      omega
    subst hb2
    rw [← h2] at hb
    simp at hb
    simp at hw
    subst hb; subst hw
    exact he
theorem wd_cell {ads : List Nat} {h : List MC} {ws : va_W} {a q : Nat} {c : MC} (h1 : ws.map (·.1) = ads) (h2 : h.length = ws.length) (hq : ads[a]? = some q) (hc : h[a]? = some c) : ∃ e, ws[a]? = some (q, e) := by
  have hlt : a < ws.length := by rw [← h2]; exact (List.getElem?_eq_some_iff.mp hc).1
  refine ⟨(ws[a]).2, ?_⟩
  rw [← h1] at hq
  simp [hlt] at hq
  rw [List.getElem?_eq_getElem hlt, ← hq]
theorem ec_int {ads : List Nat} {tys : List (ClassId × FieldType)} {vs : List MV} {e : va_E} (h : ec ads tys (0, vs) e) : ecI tys .int vs e := by
  rcases h with h | h | h | h
  · exact h.2
  · exact absurd h.1 (by simp)
  · exact absurd h.1 (by simp)
  · exact absurd h.1 (by simp)
theorem ec_bool {ads : List Nat} {tys : List (ClassId × FieldType)} {vs : List MV} {e : va_E} (h : ec ads tys (1, vs) e) : ecI tys .boolean vs e := by
  rcases h with h | h | h | h
  · exact absurd h.1 (by simp)
  · exact h.2
  · exact absurd h.1 (by simp)
  · exact absurd h.1 (by simp)
theorem ec_ref {ads : List Nat} {tys : List (ClassId × FieldType)} {t : Nat} {vs : List MV} {e : va_E} (ht : t = 2 ∨ t = 3 ∨ t = 4) (h : ec ads tys (t, vs) e) : ecR ads tys (mtag t) vs e := by
  rcases h with h | h | h | h
  · have := h.1; simp only at this; omega
  · have := h.1; simp only at this; omega
  · exact h.2
  · have := h.1; simp only at this; omega
theorem ec_obj {ads : List Nat} {tys : List (ClassId × FieldType)} {k : Nat} {vs : List MV} {e : va_E} (h : ec ads tys (10 + k, vs) e) : ecO ads k vs e := by
  rcases h with h | h | h | h
  · have := h.1; simp only at this; omega
  · have := h.1; simp only at this; omega
  · have := h.1; simp only at this; omega
  · have h2 := h.2; simp only [Nat.add_sub_cancel_left] at h2; exact h2
