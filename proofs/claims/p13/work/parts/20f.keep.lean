/-! OLD CELLS KEEP THEIR LENGTHS: the slots that a run makes are those of its new cells -/
def hkp (h h2 : List MC) : Prop := ∀ (a : Nat) (c : MC), h[a]? = some c → ∃ c', h2[a]? = some c' ∧ c'.2.length = c.2.length
theorem hkp_rf (h : List MC) : hkp h h := fun _ c hc => ⟨c, hc, rfl⟩
theorem hkp_tr {a b c : List MC} (h : hkp a b) (k : hkp b c) : hkp a c := fun i x hx => by
  obtain ⟨y, hy, e1⟩ := h i x hx
  obtain ⟨z, hz, e2⟩ := k i y hy
  exact ⟨z, hz, e2.trans e1⟩
theorem hkp_apps (h g : List MC) : hkp h (h ++ g) := fun i x hx => ⟨x, by rw [List.getElem?_append_left (List.getElem?_eq_some_iff.mp hx).1]; exact hx, rfl⟩
theorem hkp_set {h : List MC} {a : Nat} {c c' : MC} (hc : h[a]? = some c) (hl : c'.2.length = c.2.length) : hkp h (h.set a c') := fun i x hx => by
  by_cases hi : a = i
  · subst hi
    rw [hc] at hx
    cases hx
    exact ⟨c', List.getElem?_set_self (List.getElem?_eq_some_iff.mp hc).1, hl⟩
  · exact ⟨x, by rw [List.getElem?_set_ne hi]; exact hx, rfl⟩
theorem hkp_map {α : Type} {x : Option α} {f : α → MS} {q : MS} {h : List MC} (hx : x.map f = some q) (hf : ∀ y, x = some y → hkp h (f y).2.2.2) : hkp h q.2.2.2 := by
  obtain ⟨y, hy, rfl⟩ := Option.map_eq_some_iff.mp hx
  exact hf y hy
set_option maxHeartbeats 4000000 in
theorem mps_keep {own : Nat} {ini : Bool} {ig : Instr} {len pc : Nat} {ml : List (Option MV)} {st : List MV} {h : List MC} {q : MS} (hps : mps own ini ig len pc ml st h = some q) : hkp h q.2.2.2 := by
  cases ig
  all_goals (simp only [mps, mpsG, k_aconst_null, k_iconst, k_bipush, k_sipush, k_ldc, k_iload, k_iload_n, k_aload, k_aload_n, k_istore, k_istore_n, k_astore, k_astore_n, k_iinc, k_iadd, k_isub, k_imul, k_iand, k_ior, k_ishl, k_ishr, k_dup, k_pop, k_goto, k_ifCond, k_if_icmp, k_ifnull, k_ifnonnull, k_getfield, k_putfield, k_iaload, k_baload, k_aaload, k_iastore, k_bastore, k_aastore, k_arraylength, k_new, k_newarray, k_anewarray, k_multianewarray] at hps)
  all_goals (first | (cases hps; done) | skip)
  all_goals (repeat' (split at hps))
  all_goals (first | (cases hps; done) | skip)
  all_goals (first
    | (cases hps; exact hkp_rf _)
    | (cases hps; exact hkp_apps _ _)
    | exact hkp_map hps (fun _ _ => hkp_rf _)
    | (cases hps; exact hkp_set (by assumption) (by simp))
    | exact hkp_map hps (fun _ _ => hkp_set (by assumption) (by simp)))
theorem mnat_keep {own d : Nat} {ig : Instr} {len pc : Nat} {ml : List (Option MV)} {st : List MV} {h : List MC} {q : MS} (hps : mnat own d ig len pc ml st h = some q) : hkp h q.2.2.2 := by
  unfold mnat mnatG at hps
  split at hps
  all_goals (repeat' (split at hps))
  all_goals (first | (cases hps; done) | skip)
  all_goals (first
    | (cases hps; exact hkp_rf _)
    | (cases hps; exact hkp_apps _ _)
    | (cases hps; exact hkp_set (by assumption) (by simp only [List.length_append, List.length_take, List.length_drop]; omega)))
theorem mx_keep : ∀ {n d M pc : Nat} {ml : List (Option MV)} {st : List MV} {h : List MC} {r : Option MV × List MC}, mx n d M pc ml st h = some r → hkp h r.2
  | 0, _, _, _, _, _, _, _, hr => by simp [mx] at hr
  | n + 1, d, M, pc, ml, st, h, r, hr => by
    unfold mx at hr
    split at hr
    · cases hr
    · split at hr
      · cases hr
      · split at hr
        · cases hr; exact hkp_rf _
        · split at hr
          · split at hr
            · cases hr
            · obtain ⟨r1, h1, h2⟩ := Option.bind_eq_some_iff.mp hr
              exact hkp_tr (mx_keep h1) (mx_keep h2)
          · split at hr
            · next u hu => exact hkp_tr (mnat_keep hu) (mx_keep hr)
            · split at hr
              · next u hu => exact hkp_tr (mps_keep hu) (mx_keep hr)
              · cases hr
theorem mslots_keep : ∀ {h h2 : List MC}, hkp h h2 → mslots h2 = mslots h + mslots (h2.drop h.length)
  | [], h2, _ => by simp [mslots]
  | c :: h, h2, hk => by
    obtain ⟨c', h0, hl⟩ := hk 0 c rfl
    match h2, h0, hk with
    | [], h0, _ => simp at h0
    | x :: t, h0, hk =>
      simp at h0
      subst h0
      have ih := mslots_keep (h := h) (h2 := t) (fun a y hy => by simpa using hk (a + 1) y (by simpa using hy))
      simp only [mslots, List.length_cons, List.drop_succ_cons, ih, hl]
      omega
/-! A PART OF THE WORLD, numbered anew from 0 -/
def shv (k : Nat) : MV → MV
  | .inr (some a) => .inr (some (k + a))
  | .inr none => .inr none
  | .inl i => .inl i
def shc (k : Nat) (c : MC) : MC := (c.1, c.2.map (shv k))
def clv (n : Nat) : MV → Bool
  | .inr (some a) => decide (a < n)
  | .inr none => true
  | .inl _ => true
theorem vr_pick {ads : List Nat} {k n : Nat} {v : MV} {x : Value} (hc : clv n v = true) (h : vr ads (shv k v) x) : vr ((ads.drop k).take n) v x := by
  match v, hc, h with
  | .inl i, _, h => exact h
  | .inr none, _, h => exact h
  | .inr (some a), hc, ⟨q, h1, h2⟩ =>
    have ha : a < n := by simpa [clv] using hc
    exact ⟨q, by rw [List.getElem?_take_of_lt ha, List.getElem?_drop]; exact h1, h2⟩
theorem vrs_pick {ads : List Nat} {k n : Nat} : ∀ {vs : List MV} {xs : List Value}, vs.all (clv n) = true → vrs ads (vs.map (shv k)) xs → vrs ((ads.drop k).take n) vs xs
  | [], [], _, _ => trivial
  | v :: vs, x :: xs, hc, h => by
    simp only [List.all_cons, Bool.and_eq_true] at hc
    exact ⟨vr_pick hc.1 h.1, vrs_pick hc.2 h.2⟩
  | [], _ :: _, _, h => h.elim
  | _ :: _, [], _, h => h.elim
theorem shv_inl {k : Nat} {v : MV} {i : Int32} (h : shv k v = .inl i) : v = .inl i := by
  match v, h with
  | .inl j, h => exact h
  | .inr none, h => cases h
  | .inr (some a), h => cases h
theorem ec_pick {ads : List Nat} {k n : Nat} {tys : List (ClassId × FieldType)} {c : MC} {e : va_E} (hc : c.2.all (clv n) = true) (h : ec ads tys (shc k c) e) : ec ((ads.drop k).take n) tys c e := by
  rcases h with ⟨h0, cA, f, t0, h1, h2, h3⟩ | ⟨h0, cA, f, t0, h1, h2, h3⟩ | ⟨h0, cA, f, t0, h1, h2, h3⟩ | ⟨h0, fs, h1, h2⟩
  · exact Or.inl ⟨h0, cA, f, t0, by simpa [shc] using h1, h2, fun j v hj => shv_inl (h3 j (shv k v) (by simp [shc, hj]))⟩
  · exact Or.inr (Or.inl ⟨h0, cA, f, t0, by simpa [shc] using h1, h2, fun j v hj => shv_inl (h3 j (shv k v) (by simp [shc, hj]))⟩)
  · refine Or.inr (Or.inr (Or.inl ⟨h0, cA, f, t0, by simpa [shc] using h1, h2, fun j v hj => ?_⟩))
    obtain ⟨g1, o, g2⟩ := h3 j (shv k v) (by simp [shc, hj])
    refine ⟨vr_pick (List.all_eq_true.mp hc v (List.mem_of_getElem? hj)) g1, ?_⟩
    match v, g2 with
    | .inl i, g2 => cases g2
    | .inr o2, _ => exact ⟨o2, rfl⟩
  · exact Or.inr (Or.inr (Or.inr ⟨h0, fs, h1, vrs_pick hc h2⟩))
theorem Wd_pick {D : va_G} {A : Nat → Prop} {s : State} {H : Heap} {ads : List Nat} {h g : List MC} {k : Nat} (hW : Wd D A s H ads h) (hs : (h.drop k).take g.length = g.map (shc k)) (hc : g.all (fun c => c.2.all (clv g.length)) = true) : Wd D A s H ((ads.drop k).take g.length) g := by
  obtain ⟨ws, tys, h1, h2, h3, h4, h5, h6, h7⟩ := hW
  have hget : ∀ (a : Nat) (c : MC), g[a]? = some c → h[k + a]? = some (shc k c) := fun a c ha => by
    have hlt := (List.getElem?_eq_some_iff.mp ha).1
    have e := congrArg (fun l => l[a]?) hs
    simp only [List.getElem?_take_of_lt hlt, List.getElem?_drop, List.getElem?_map, ha, Option.map_some] at e
    exact e
  have hlen : g.length ≤ (ws.drop k).length := by
    have e := congrArg List.length hs
    simp only [List.length_take, List.length_drop, List.length_map] at e
    simp only [List.length_drop]
    omega
  have wget : ∀ (a : Nat) (q : Nat × va_E), ((ws.drop k).take g.length)[a]? = some q → ws[k + a]? = some q := fun a q ha => by
    have hlt := (List.getElem?_eq_some_iff.mp ha).1
    simp only [List.length_take] at hlt
    rw [List.getElem?_take_of_lt (by omega), List.getElem?_drop] at ha
    exact ha
  refine ⟨(ws.drop k).take g.length, tys, ?_, ?_, ?_, ?_, ?_, h6, h7⟩
  · rw [← h1, List.map_take, List.map_drop]
  · rw [List.length_take]; omega
  · intro a c q hga hwa
    exact ec_pick (List.all_eq_true.mp hc c (List.mem_of_getElem? hga)) (h3 (k + a) _ q (hget a c hga) (wget a q hwa))
  · intro a q hq
    exact h4 (k + a) q (wget a q hq)
  · exact ⟨fun i j p q hi hj hpq => by have := h5.1 (k + i) (k + j) p q (wget i p hi) (wget j q hj) hpq; omega, fun i q hi => h5.2 (k + i) q (wget i q hi)⟩
