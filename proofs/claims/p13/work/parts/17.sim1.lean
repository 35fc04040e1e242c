/-! A STEP OF THE SMALL MACHINE IS A STEP OF THE MACHINE: instructions that neither call nor return -/
def Xf (s : State) : Prop := (∀ t : FieldType, (t = .int ∨ t = .array .int ∨ t = .boolean) → (Cond.arrayOver (.array t)).before #[] s = true) ∧ ∀ (own i kd M : Nat) (q : MethodName × ByteArray × Nat × Option FieldType × Nat × Nat), mk2 mlM own i = some (kd, M) → (kd = 5 ∨ kd = 6) → mmt[M]? = some q → va_Nw (.methodLinkNest (mon own) i q.1 "EquationDesk") s
def Xc (s : State) : Prop := va_Nw (.castable "[I" "java/lang/Cloneable") s
theorem xo_moved {t : FieldType} {u U : State} (hvm : u.vm.Alike U.vm) (h : (Cond.arrayOver (.array t)).before #[] u = true) : (Cond.arrayOver (.array t)).before #[] U = true := by
  obtain ⟨comp, c, k, h1, h2, h3, h4, h5⟩ := arrayOverA_spec h
  obtain ⟨k', hk', he⟩ := hvm.2.2 _ _ h3
  have hi : (U.vm.classes.findIdx? fun (x : Class) => match x.kind with | .array component _ => component == comp | _ => false) = some c := by
    rw [hvm.findIdx?_eq _ (fun _ => rfl)]
    exact h2
  have hkind : k'.kind = .array comp (.array t) := by rw [he]; exact h4
  have f1 : U.vm.findClass (FieldType.array t).toString = some comp := by rw [hvm.findClass]; exact h1
  have f2 : U.vm.findClass ("[" ++ (FieldType.array t).toString) = some c := by rw [hvm.findClass]; exact h5
  unfold Cond.before Cond.holds
  simp only [Cond.value]
  rw [f1, Option.bind_some]
  refine (congrArg (fun o : Option Nat => (o.bind (fun c => (U.vm.classes[c]?).map fun (k : Class) => match k.kind with | .array _ ty => decide (ty = FieldType.array t) && decide (U.vm.findClass ("[" ++ (FieldType.array t).toString) = some c) | _ => false) == some true)) hi).trans ?_
  simp [hk', hkind, f2]
theorem Xf_warm {s U : State} (hW : s.WarmedH U.vm) (h : Xf s) : Xf U := ⟨fun t ht => xo_moved hW.alike (h.1 t ht), fun own i kd M q h1 h2 h3 => va_Nw.warmM hW (h.2 own i kd M q h1 h2 h3)⟩
theorem Xf_same {u U : State} (he : u.vm = U.vm) (h : Xf u) : Xf U := ⟨fun t ht => xo_moved (he ▸ Vm.Alike.refl u.vm) (h.1 t ht), fun own i kd M q h1 h2 h3 => va_Nw.same rfl he (h.2 own i kd M q h1 h2 h3)⟩
def lvA (ls : Array Slot) : List (Nat × Value) := (List.range ls.size).filterMap fun (i : Nat) => match (ls[i]? : Option Slot) with
  | some (.val x) => some (i, x)
  | _ => none
theorem lvA_mem {ls : Array Slot} {j : Nat} {x : Value} (h : ls[j]? = some (.val x)) : (j, x) ∈ lvA ls := by
  unfold lvA
  rw [List.mem_filterMap]
  exact ⟨j, List.mem_range.mpr (Array.getElem?_eq_some_iff.mp h).1, by rw [h]⟩
theorem lvA_has {ls : Array Slot} {nL : Nat} (hs : ls.size = nL) (hw : lv_wf ls) : lv_has ls nL (lvA ls) := by
  refine ⟨hs, hw, fun q hq => ?_⟩
  unfold lvA at hq
  obtain ⟨i, -, hi⟩ := List.mem_filterMap.mp hq
  split at hi
  · next x hx => cases hi; exact hx
  · cases hi
theorem Lr_store {ads : List Nat} {ml : List (Option MV)} {ls ls' : Array Slot} {nL k : Nat} {v : MV} {x : Value} (hL : Lr ads ml ls nL) (hv : vr ads v x)
    (h' : lv_has ls' nL ((k, x) :: (lvA ls).filter (fun q => !(q.1 == k) && !(q.1 + 1 == k && q.2.category == 2)))) : Lr ads (ml.set k (some v)) ls' nL := by
  refine ⟨by simp [hL.1], h'.1, h'.2.1, fun i w hw => ?_⟩
  by_cases hi : k = i
  · subst hi
    rw [List.getElem?_set] at hw
    simp only [if_true] at hw
    split at hw
    · cases hw
      exact ⟨x, hv, h'.2.2 (k, x) List.mem_cons_self⟩
    · cases hw
  · rw [List.getElem?_set_ne hi] at hw
    obtain ⟨y, h1, h2⟩ := hL.2.2.2 i w hw
    refine ⟨y, h1, h'.2.2 (i, y) (List.mem_cons_of_mem _ (List.mem_filter.mpr ⟨lvA_mem h2, ?_⟩))⟩
    have hc := vr_cat h1
    simp [hc]
    omega
theorem mint_of {ads : List Nat} {ml : List (Option MV)} {ls : Array Slot} {nL k : Nat} {x : Int32} (hL : Lr ads ml ls nL) (h : mint (mld ml k) = some x) : ls[k]? = some (.val (.int x)) := by
  unfold mint at h
  split at h
  · next y hy =>
    cases h
    unfold mld at hy
    split at hy
    · next v hv =>
      cases hy
      obtain ⟨z, h1, h2⟩ := hL.2.2.2 k _ hv
      rw [h2, show z = Value.int x from h1]
    · cases hy
  · cases h
theorem mref_of {ads : List Nat} {ml : List (Option MV)} {ls : Array Slot} {nL k : Nat} {x : Option Nat} (hL : Lr ads ml ls nL) (h : mref (mld ml k) = some x) : ∃ z, vr ads (.inr x) z ∧ ls[k]? = some (.val z) := by
  unfold mref at h
  split at h
  · next y hy =>
    cases h
    unfold mld at hy
    split at hy
    · next v hv =>
      cases hy
      exact hL.2.2.2 k _ hv
    · cases hy
  · cases h
theorem vr_nr {ads : List Nat} {x : Option Nat} {z : Value} (h : vr ads (.inr x) z) : z = .null ∨ ∃ a : Nat, z = .ref a := by
  match x, h with
  | none, h => exact Or.inl h
  | some a, ⟨q, _, h⟩ => exact Or.inr ⟨q, h⟩
section S1
variable {p : Program} {l : Launch} {e : Env} {R : Room} {s : State} {m : MethodId} {args : Array Value} {below : List Frame} {meth : Method} {c : Code} {H : Heap} {locs : List Loc} {cells slots : Nat} {Q : State → Prop} {cc : ByteArray} {pc : Nat} {ls : Array Slot} {ads : List Nat} {st : List MV} {st0 : List Value}
/-- a reference out of the locals -/
theorem s_ald {k : Nat} {z : Value} {Pk : Prop} (hz : z = .null ∨ ∃ a : Nat, z = .ref a) (h0 : z = .null → Pk) (h1 : ∀ a : Nat, z = .ref a → Pk) : Pk := by
  rcases hz with h | ⟨a, h⟩
  · exact h0 h
  · exact h1 a h
theorem s_if (he : p.tables.exec = Jvm.exec) (hb : c.code = cc) {cnd : Jvm.ClassFile.Cond} {off : Int} {tgt : Nat} {x : Int32} {rest : List Value} (hdg : decode cc pc = .ok (.ifCond cnd off, 3)) (ht : (pc : Int) + off = (tgt : Int))
    (k : W p l e R s m args below meth c H locs cells slots Q (F0 m (if mcmp cnd x 0 then tgt else pc + 3) ls rest)) : W p l e R s m args below meth c H locs cells slots Q (F0 m pc ls (.int x :: rest)) := by
  cases cnd with
  | eq => exact lv_if_eq he hb hdg ht (fun h => by simpa [mcmp, h] using k) (fun h => by simpa [mcmp, h] using k)
  | ne => exact lv_if_ne he hb hdg ht (fun h => by simpa [mcmp, h] using k) (fun h => by simpa [mcmp, h] using k)
  | lt => exact lv_if_lt he hb hdg ht (fun h => by simpa [mcmp, h] using k) (fun h => by simpa [mcmp, h] using k)
  | ge => exact lv_if_ge he hb hdg ht (fun h => by simpa [mcmp, h] using k) (fun h => by simpa [mcmp, h] using k)
  | gt => exact lv_if_gt he hb hdg ht (fun h => by simpa [mcmp, h] using k) (fun h => by simpa [mcmp, h] using k)
  | le => exact lv_if_le he hb hdg ht (fun h => by simpa [mcmp, h] using k) (fun h => by simpa [mcmp, h] using k)
theorem s_icmp (he : p.tables.exec = Jvm.exec) (hb : c.code = cc) {cnd : Jvm.ClassFile.Cond} {off : Int} {tgt : Nat} {x y : Int32} {rest : List Value} (hdg : decode cc pc = .ok (.if_icmp cnd off, 3)) (ht : (pc : Int) + off = (tgt : Int))
    (k : W p l e R s m args below meth c H locs cells slots Q (F0 m (if mcmp cnd x y then tgt else pc + 3) ls rest)) : W p l e R s m args below meth c H locs cells slots Q (F0 m pc ls (.int y :: .int x :: rest)) := by
  cases cnd with
  | eq => exact lv_icmp_eq he hb hdg ht (fun h => by simpa [mcmp, h] using k) (fun h => by simpa [mcmp, h] using k)
  | ne => exact lv_icmp_ne he hb hdg ht (fun h => by simpa [mcmp, h] using k) (fun h => by simpa [mcmp, h] using k)
  | lt => exact lv_icmp_lt he hb hdg ht (fun h => by simpa [mcmp, h] using k) (fun h => by simpa [mcmp, h] using k)
  | ge => exact lv_icmp_ge he hb hdg ht (fun h => by simpa [mcmp, h] using k) (fun h => by simpa [mcmp, h] using k)
  | gt => exact lv_icmp_gt he hb hdg ht (fun h => by simpa [mcmp, h] using k) (fun h => by simpa [mcmp, h] using k)
  | le => exact lv_icmp_le he hb hdg ht (fun h => by simpa [mcmp, h] using k) (fun h => by simpa [mcmp, h] using k)
/-- the stack's uppermost -/
theorem vrs_i {x : Int32} (h : vrs ads (.inl x :: st) st0) : ∃ r, st0 = .int x :: r ∧ vrs ads st r := by
  match st0, h with
  | y :: r, h => exact ⟨r, by rw [show y = Value.int x from h.1], h.2⟩
theorem vrs_r {a : Nat} (h : vrs ads (.inr (some a) :: st) st0) : ∃ q r, st0 = .ref q :: r ∧ ads[a]? = some q ∧ vrs ads st r := by
  match st0, h with
  | y :: r, h =>
    obtain ⟨q, h1, h2⟩ := h.1
    exact ⟨q, r, by rw [h2], h1, h.2⟩
theorem vrs_n (h : vrs ads (.inr none :: st) st0) : ∃ r, st0 = .null :: r ∧ vrs ads st r := by
  match st0, h with
  | y :: r, h => exact ⟨r, by rw [show y = Value.null from h.1], h.2⟩
theorem vrs_v {v : MV} (h : vrs ads (v :: st) st0) : ∃ x r, st0 = x :: r ∧ vr ads v x ∧ vrs ads st r := by
  match st0, h with
  | y :: r, h => exact ⟨y, r, rfl, h.1, h.2⟩
end S1
