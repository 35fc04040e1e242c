/-! new boolean[n][k] -/
theorem wd_app {D : va_G} {A : Nat → Prop} {s : State} {H1 : Heap} {ads ads' : List Nat} {h h' : List MC} {ws ws' : va_W} {tys ts : List (ClassId × FieldType)} (h1 : ws.map (·.1) = ads) (h2 : h.length = ws.length) (h3 : ∀ (a : Nat) (c : MC) (q : Nat × va_E), h[a]? = some c → ws[a]? = some q → ec ads tys c q.2) (g1 : ws'.map (·.1) = ads') (g2 : h'.length = ws'.length)
    (h6 : va_K D mcl (tys ++ ts) s) (h7 : ∀ (k : Nat) (q : ClassId × FieldType), (tys ++ ts)[k]? = some q → rk s q.1 q.2) (he : ∀ (a : Nat) (c : MC) (q : Nat × va_E), h'[a]? = some c → ws'[a]? = some q → ec (ads ++ ads') (tys ++ ts) c q.2) (hP : va_P D mcl (ws ++ ws') H1) (hD : va_D A (ws ++ ws')) : Wd D A s H1 (ads ++ ads') (h ++ h') := by
  refine ⟨ws ++ ws', tys ++ ts, by simp [h1, g1], by simp [h2, g2], ?_, hP, hD, h6, h7⟩
  intro b c2 q2 hb hw
  by_cases hi : b < ws.length
  · rw [List.getElem?_append_left (by omega)] at hb
    rw [List.getElem?_append_left hi] at hw
    exact ec_mono (h3 b c2 q2 hb hw)
  · rw [List.getElem?_append_right (by omega)] at hb hw
    rw [h2] at hb
    exact he _ c2 q2 hb hw
section S3b
variable {p : Program} {l : Launch} {e : Env} {R : Room} {s : State} {m : MethodId} {args : Array Value} {below : List Frame} {meth : Method} {c : Code} {H : Heap} {locs : List Loc} {cells slots : Nat} {Q : State → Prop} {cc : ByteArray} {pc : Nat} {ls : Array Slot} {ads : List Nat} {rest : List Value} {D : va_G} {A : Nat → Prop} {own : Nat} {h : List MC}
theorem grid_outer (c : ClassId) (N h0 : Nat) : ∀ i : Nat, Jvm.Free.Multi.outerC c N h0 i = arrV c N (fun j => va_rf (if j < i then some (h0 + 1 + j) else none))
  | 0 => by
    show ({ cls := c, slots := Array.replicate N .null, vm := .none } : Cell) = _
    rw [arrV_new]
    refine congrArg (arrV c N) (funext fun j => ?_)
    simp [va_rf]
  | i + 1 => by
    show (Jvm.Free.Multi.outerC c N h0 i).setSlot i (.ref (h0 + 1 + i)) = _
    rw [grid_outer c N h0 i, arrV_store]
    refine congrArg (arrV c N) (funext fun j => ?_)
    by_cases hj : j = i
    · subst hj; simp [updV, va_rf]
    · by_cases h : j < i
      · simp [updV, hj, h, Nat.lt_succ_of_lt h]
      · simp [updV, hj, h, show ¬ j < i + 1 by omega]
set_option maxHeartbeats 4000000 in
theorem s_mna (he : p.tables.exec = Jvm.exec) (hb : c.code = cc) (hown : s.vm.findClass (mon own) = some m.cls) (hts : ∀ w ∈ lw_g, w.before args s = true) (hXf : Xf s) (hA : ∀ q, s.heap.size ≤ q → A q) {n k : Int32} {i : Nat} (hW : Wd D A s H ads h) (hS : va_S A s.heap H locs) (hf : mk2 mlA own i = some 4) (hn : ¬ n < 0) (hk : ¬ k < 0) (hn2 : n.toNatClampNeg ≤ 1000) (hk2 : k.toNatClampNeg ≤ 1000) (hcl : cells + (1 + n.toNatClampNeg) ≤ R.cells) (hsl : slots + (n.toNatClampNeg + n.toNatClampNeg * k.toNatClampNeg) ≤ R.slots) (hdg : decode cc pc = .ok (.multianewarray i 2, 4))
    (kk : ∀ (H1 : Heap) (q : Nat) (ads2 : List Nat), Wd D A s H1 (ads ++ (q :: ads2)) (h ++ mgrid h.length n.toNatClampNeg k.toNatClampNeg) → va_S A s.heap H1 locs → W p l e R s m args below meth c H1 locs (cells + 1 + n.toNatClampNeg) (slots + n.toNatClampNeg + n.toNatClampNeg * k.toNatClampNeg) Q (F0 m (pc + 4) ls (.ref q :: rest))) : W p l e R s m args below meth c H locs cells slots Q (F0 m pc ls (.int k :: .int n :: rest)) := by
  obtain ⟨ws, tys, h1, h2, h3, hP, hD, hK, h7⟩ := hW
  have hover : (Cond.arrayOver (.array .boolean)).before args s = true := hXf.1 _ (Or.inr (Or.inr rfl))
  have hlk : Cond.classLink (mon own) i "[[Z" ∈ lw_g := by
    obtain ⟨pp, hp⟩ := allz_mem okA _ (mk2_mem hf)
    simp only [ckA, if_true] at hp
    exact wat_mem hp
  obtain ⟨cq, cr, kq, z1, z2, z3, z4, z5⟩ := arrayOverA_spec hover
  obtain ⟨kc, hkc, -⟩ := Vm.findClass_spec z1
  intro T hT X
  obtain ⟨vm₁, cA, comp, -, fA, fC, hO, hI, X', step⟩ := X.multianewarray2F he hown (ty := .boolean) (hts _ hlk) hover (hts _ w_az) (g := F0 m pc ls (.int k :: .int n :: rest)) rfl (by rw [hb]; exact hdg) rfl hn hk (by omega) (by show _ * 1 ≤ _; omega) (by omega) rfl rfl hcl hsl
  cases z1.symm.trans fC
  cases z5.symm.trans fA
  generalize hF : Jvm.Free.Multi.fill (T.setVm vm₁) cr cq n.toNatClampNeg k.toNatClampNeg (defaultValue .boolean) n.toNatClampNeg = F at X' step
  have hTh : (T.setVm vm₁).heap = H := hT
  obtain ⟨f1, f2, -, -⟩ := Jvm.Free.Multi.fill_facts (T.setVm vm₁) cr cq n.toNatClampNeg k.toNatClampNeg (defaultValue .boolean) n.toNatClampNeg
  rw [hF, hTh] at f1 f2
  have hold : ∀ x : Nat, x < H.size → F.heap[x]? = H[x]? := fun x hx => by
    have := Jvm.Free.Multi.fill_old (T.setVm vm₁) cr cq n.toNatClampNeg k.toNatClampNeg (defaultValue .boolean) (a := x) (by rw [hTh]; exact hx) n.toNatClampNeg
    rw [hF, hTh] at this
    exact this
  have hrow : ∀ j : Nat, j < n.toNatClampNeg → F.heap[H.size + 1 + j]? = some (vp_cell cq (k.toNatClampNeg, .inl (fun _ => 0))) := fun j hj => by
    have := Jvm.Free.Multi.fill_inner (T.setVm vm₁) cr cq n.toNatClampNeg k.toNatClampNeg (defaultValue .boolean) n.toNatClampNeg j hj
    rw [hF, hTh] at this
    rw [this, vp_cell_i, ← arrV_new]
    rfl
  rw [grid_outer] at f2
  have hal : ads.length = h.length := by rw [← h1, h2]; simp
  have rng : ∀ {β : Type} (f : Nat → β) (j : Nat) (y : β), ((List.range n.toNatClampNeg).map f)[j]? = some y → j < n.toNatClampNeg ∧ y = f j := by
    intro β f j y hy
    rw [List.getElem?_map] at hy
    obtain ⟨x, hx, rfl⟩ := Option.map_eq_some_iff.mp hy
    obtain ⟨hj, hj2⟩ := List.getElem?_eq_some_iff.mp hx
    simp at hj hj2
    subst hj2
    exact ⟨hj, rfl⟩
  obtain ⟨ws', hws'⟩ : ∃ ws' : va_W, ws' = (H.size, .inl (cr, n.toNatClampNeg, .inr (.inr (.inr (.inr (fun j => if j < n.toNatClampNeg then some (H.size + 1 + j) else none)))))) :: (List.range n.toNatClampNeg).map (fun j => ((H.size + 1 + j, .inl (cq, k.toNatClampNeg, .inl (fun _ => 0))) : Nat × va_E)) := ⟨_, rfl⟩
  have hat : ∀ (j : Nat) (x : Nat × va_E), ws'[j]? = some x → x.1 = H.size + j ∧ va_at D mcl x F.heap ∧ (j = 0 ∨ j - 1 < n.toNatClampNeg) := by
    intro j x hx
    rw [hws'] at hx
    cases j with
    | zero => simp at hx; subst hx; exact ⟨rfl, by show F.heap[H.size]? = some (vp_cell _ _); rw [vp_cell_q]; exact f2, Or.inl rfl⟩
    | succ j =>
      simp only [List.getElem?_cons_succ] at hx
      obtain ⟨hj, rfl⟩ := rng _ _ _ hx
      exact ⟨by simp only; omega, hrow j hj, Or.inr (by simpa using hj)⟩
  have hP2 : va_P D mcl (ws ++ ws') F.heap := (hP.kept (fun k9 x hx => hold x.1 ((hP k9 x hx).lt))).app (fun k9 x hx => (hat k9 x hx).2.1)
  have hD2 : va_D A (ws ++ ws') := hD.app ⟨fun i j x y hi hj hxy => by have := (hat i x hi).1; have := (hat j y hj).1; omega, fun k9 x hx => hA _ (by have := (hat k9 x hx).1; have := hS.1; omega)⟩ (fun i j x y hi hj hxy => by have := (hP i x hi).lt; have := (hat j y hj).1; omega)
  have hAr : ArrOfT s cr (.array .boolean) := fun N9 z9 => ⟨(fun q hq => by cases hq), kq, z3, cq, z4⟩
  have hArI : ArrOfT s cq .boolean := fun N9 z9 => by
    obtain ⟨-, k9, hk9, cm9, hkk9⟩ := (hI 0 .null).1
    exact ⟨(fun q hq => by cases hq), k9, hk9, cm9, hkk9⟩
  have t2 : ∀ (k9 : Nat) (x : ClassId × FieldType), (tys ++ [(cr, .array .boolean), (cq, .boolean)])[k9]? = some x → tys[k9]? = some x ∨ x = (cr, .array .boolean) ∨ x = (cq, .boolean) := by
    intro k9 x hx
    rcases List.mem_append.mp (List.mem_of_getElem? hx) with h | h
    · by_cases hl : k9 < tys.length
      · rw [List.getElem?_append_left hl] at hx; exact Or.inl hx
      · rw [List.getElem?_append_right (by omega)] at hx
        have := List.mem_of_getElem? hx
        simp at this
        exact Or.inr this
    · by_cases hl : k9 < tys.length
      · rw [List.getElem?_append_left hl] at hx; exact Or.inl hx
      · simp at h; exact Or.inr h
  have hWd : Wd D A s F.heap (ads ++ (H.size :: (List.range n.toNatClampNeg).map (fun j => H.size + 1 + j))) (h ++ mgrid h.length n.toNatClampNeg k.toNatClampNeg) := by
    refine wd_app (ts := [(cr, .array .boolean), (cq, .boolean)]) h1 h2 h3 (by rw [hws']; simp) (by rw [hws']; simp [mgrid]) ⟨hK.1, fun k9 x hx => ?_⟩ (fun k9 x hx => ?_) (fun a c2 q2 ha hq => ?_) hP2 hD2
    · rcases t2 k9 x hx with h | h | h
      · exact hK.2 k9 x h
      · subst h; exact ⟨hAr, z5⟩
      · subst h; exact ⟨hArI, z1⟩
    · rcases t2 k9 x hx with h | h | h
      · exact h7 k9 x h
      · subst h; exact ⟨kq, kc, cq, z3, z4, z1, hkc⟩
      · subst h; trivial
    · rw [hws'] at hq
      cases a with
      | zero =>
        simp [mgrid] at ha hq
        subst ha; subst hq
        refine Or.inr (Or.inr (Or.inl ⟨Or.inr (Or.inr rfl), cr, fun j => if j < n.toNatClampNeg then some (H.size + 1 + j) else none, tys.length, by simp, by simp [mtag], fun j v hj => ?_⟩))
        obtain ⟨hj1, rfl⟩ := rng _ _ _ hj
        refine ⟨⟨H.size + 1 + j, ?_, by simp [hj1, va_rf]⟩, _, rfl⟩
        rw [← hal, List.getElem?_append_right (by omega), show ads.length + 1 + j - ads.length = j + 1 by omega, List.getElem?_cons_succ]
        simp [hj1]
      | succ a =>
        simp only [mgrid, List.getElem?_cons_succ, List.getElem?_replicate] at ha hq
        split at ha
        · cases ha
          obtain ⟨hj, rfl⟩ := rng _ _ _ hq
          refine Or.inr (Or.inl ⟨rfl, cq, fun _ => 0, tys.length + 1, by simp, by simp, fun j v hv => ?_⟩)
          simp only [List.getElem?_replicate] at hv
          split at hv
          · exact (Option.some.inj hv).symm
          · cases hv
        · cases ha
  obtain ⟨t, a1, b1⟩ := kk F.heap H.size _ hWd ⟨by rw [f1]; have := hS.1; omega, fun x h1 h2 => (hold x (Nat.lt_of_lt_of_le h1 hS.1)).trans (hS.2.1 x h1 h2), hS.2.2⟩ F rfl X'
  refine ⟨t, step t ?_, b1⟩
  have e9 : T.heap.size = H.size := by rw [hT]
  rw [e9]
  exact a1
end S3b
