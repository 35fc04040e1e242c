/-! ARRAYS OF ARRAYS -/
section S3
variable {p : Program} {l : Launch} {e : Env} {R : Room} {s : State} {m : MethodId} {args : Array Value} {below : List Frame} {meth : Method} {c : Code} {H : Heap} {locs : List Loc} {cells slots : Nat} {Q : State → Prop} {cc : ByteArray} {pc : Nat} {ls : Array Slot} {ads : List Nat} {rest : List Value} {D : va_G} {A : Nat → Prop} {own : Nat} {h : List MC}
theorem s_WastN (he : p.tables.exec = Jvm.exec) (hb : c.code = cc) {a : Addr} {cell : Cell} {ty : FieldType} {j : Int32} (hty : ty.isReference = true) (hcell : H[a]? = some cell) (harr : s.isArrayOf cell ty) (hknown : cell.vm ≠ .unknown) (hin : ¬ (j < 0 ∨ cell.slots.size ≤ j.toNatClampNeg)) (hdg : decode cc pc = .ok (.aastore, 1))
    (kk : ∀ H' : Heap, H'[a]? = some (cell.setSlot j.toNatClampNeg .null) → H'.size = H.size → (∀ q, q ≠ a → H'[q]? = H[q]?) → W p l e R s m args below meth c H' (locs ++ [⟨a, j.toNatClampNeg⟩]) cells slots Q (F0 m (pc + 1) ls rest)) :
    W p l e R s m args below meth c H locs cells slots Q (F0 m pc ls (.null :: .int j :: .ref a :: rest)) := by
  intro T hT X
  have hT' : T.heap[a]? = some cell := by rw [hT]; exact hcell
  have hTa := State.isArrayOf_alike X.warmed.alike harr
  have hfit : T.fitsSlot cell.cls cell.vm j.toNatClampNeg .null = true := by
    obtain ⟨hobj, k, hk, comp, hkind⟩ := hTa
    have hf : fits ty .null = true := by cases ty <;> first | rfl | (simp [FieldType.isReference] at hty)
    cases hvm : cell.vm <;> first | exact absurd hvm (hobj _) | simp [State.fitsSlot, State.slotType?, hk, hkind, hf]
  have hlt : a < T.heap.size := (Array.getElem?_eq_some_iff.mp hT').1
  obtain ⟨t', a1, b1⟩ := kk _ (heapAt_setCell_self _ hlt) (by rw [size_setCell, hT]) (fun q hq => by rw [heapAt_setCell_ne _ (Ne.symm hq), hT]) (T.setCell a (cell.setSlot j.toNatClampNeg .null)) rfl (X.stored hT' _ _)
  refine ⟨t', ?_, b1⟩
  have hdg' : decode c.code pc = .ok (.aastore, 1) := by rw [hb]; exact hdg
  jvm_step X.here [he, hdg']
  refine aastore.wp_of_null (c := cell) (t := ty) X.here.top rfl hT' hTa hin hknown (Nat.not_le.mp fun q => hin (Or.inr q)) hfit ?_
  intro acts
  rw [afterInstr_ok]
  exact a1
theorem ecR_upd {tys : List (ClassId × FieldType)} {ty : FieldType} {vs : List MV} {cA : ClassId} {f : Nat → Option Nat} {t0 j : Nat} {o z : Option Nat} (ht : tys[t0]? = some (cA, ty)) (hz : vr ads (.inr o) (va_rf z)) (hf : ∀ (j : Nat) (v : MV), vs[j]? = some v → vr ads v (va_rf (f j)) ∧ ∃ o, v = .inr o) : ecR ads tys ty (vs.set j (.inr o)) (.inl (cA, vs.length, .inr (.inr (.inr (.inr (va_up f j z)))))) := by
  refine ⟨cA, va_up f j z, t0, by simp, ht, fun k v hk => ?_⟩
  by_cases hkj : j = k
  · subst hkj
    rw [List.getElem?_set] at hk
    simp only [if_true] at hk
    split at hk
    · cases hk; exact ⟨by simpa [va_up] using hz, o, rfl⟩
    · cases hk
  · rw [List.getElem?_set_ne hkj] at hk
    obtain ⟨h1, h2⟩ := hf k v hk
    exact ⟨by simpa [va_up, show ¬ k = j from fun q => hkj q.symm] using h1, h2⟩
theorem s_aastN (he : p.tables.exec = Jvm.exec) (hb : c.code = cc) {a q j t : Nat} {i : Int32} {vs : List MV} (hW : Wd D A s H ads h) (hS : va_S A s.heap H locs) (hq : ads[a]? = some q) (hc : h[a]? = some (t, vs)) (htt : t = 2 ∨ t = 3 ∨ t = 4) (hj : mix i vs.length = some j) (hdg : decode cc pc = .ok (.aastore, 1))
    (kk : ∀ (H1 : Heap) (locs1 : List Loc), Wd D A s H1 ads (h.set a (t, vs.set j (.inr none))) → va_S A s.heap H1 locs1 → W p l e R s m args below meth c H1 locs1 cells slots Q (F0 m (pc + 1) ls rest)) : W p l e R s m args below meth c H locs cells slots Q (F0 m pc ls (.null :: .int i :: .ref q :: rest)) := by
  obtain ⟨ws, tys, h1, h2, h3, hP, hD, hK, h7⟩ := hW
  obtain ⟨e0, hwa⟩ := wd_cell h1 h2 hq hc
  obtain ⟨cA, f, t0, hfe, ht, hf⟩ := ec_ref htt (h3 a _ _ hc hwa)
  simp only at hfe
  subst hfe
  obtain ⟨hin, hj2, -⟩ := mix_of hj
  subst hj2
  refine s_WastN (ty := mtag t) he hb (mtag_ref htt) (hP a _ hwa) ((hK.2 t0 _ ht).1 vs.length (fun j => va_rf (f j))) (fun q => by cases q) (by show ¬ (i < 0 ∨ (arrV _ _ _).slots.size ≤ _); rw [arrV_size]; exact hin) hdg fun H1 e1 z oq => ?_
  have hat : va_at D mcl (q, .inl (cA, vs.length, .inr (.inr (.inr (.inr (va_up f i.toNatClampNeg none)))))) H1 := by
    show H1[q]? = some (vp_cell _ _)
    rw [e1, vp_cell_q, vp_cell_q, arrV_store]
    congr 2
    funext k
    by_cases hk : k = i.toNatClampNeg
    · subst hk; simp [updV, va_up, va_rf]
    · simp [updV, va_up, hk]
  exact kk H1 _ (wd_set h1 h2 h3 hK h7 hwa (Or.inr (Or.inr (Or.inl ⟨htt, ecR_upd (z := none) ht (show vr ads (.inr none) (va_rf none) from rfl) hf⟩))) (hP.set hD hwa hat oq) (hD.set hwa)) (hS.put z oq (hD.2 a _ hwa))
/-- the class of a cell that may stand in an array of arrays -/
theorem s_comp {tys : List (ClassId × FieldType)} {t u cA : Nat} {us : List MV} {e0 : va_E} (htt : t = 2 ∨ t = 3 ∨ t = 4) (hu : u = melt t) (hK : va_K D mcl tys s) (h7 : ∀ (k : Nat) (q : ClassId × FieldType), tys[k]? = some q → rk s q.1 q.2) (hec : ec ads tys (u, us) e0) {t0 : Nat} (ht : tys[t0]? = some (cA, mtag t)) :
    ∃ (kA kc : Class) (comp : ClassId) (x : vp_A), s.vm.classes[cA]? = some kA ∧ kA.kind = .array comp (mtag t) ∧ s.vm.classes[comp]? = some kc ∧ e0 = .inl (comp, x) := by
  have h9 := h7 t0 _ ht
  rcases htt with h | h | h
  · subst h; subst hu
    obtain ⟨kA, kc, comp, g1, g2, g3, g4⟩ := h9
    obtain ⟨cB, f, t1, hfe, ht1, -⟩ := ec_int hec
    have hB : s.vm.findClass (FieldType.array .int).toString = some cB := (hK.2 t1 _ ht1).2
    cases g3.symm.trans hB
    exact ⟨kA, kc, _, _, g1, g2, g4, hfe⟩
  · subst h; subst hu
    obtain ⟨kA, kc, comp, g1, g2, g3, g4⟩ := h9
    obtain ⟨cB, f, t1, hfe, ht1, -⟩ := ec_ref (t := 2) (Or.inl rfl) hec
    have hB : s.vm.findClass (FieldType.array (.array .int)).toString = some cB := (hK.2 t1 _ ht1).2
    cases g3.symm.trans hB
    exact ⟨kA, kc, _, _, g1, g2, g4, hfe⟩
  · subst h; subst hu
    obtain ⟨kA, kc, comp, g1, g2, g3, g4⟩ := h9
    obtain ⟨cB, f, t1, hfe, ht1, -⟩ := ec_bool hec
    have hB : s.vm.findClass (FieldType.array .boolean).toString = some cB := (hK.2 t1 _ ht1).2
    cases g3.symm.trans hB
    exact ⟨kA, kc, _, _, g1, g2, g4, hfe⟩
theorem s_aast (he : p.tables.exec = Jvm.exec) (hb : c.code = cc) {a b q qb j t u : Nat} {i : Int32} {vs us : List MV} (hW : Wd D A s H ads h) (hS : va_S A s.heap H locs) (hq : ads[a]? = some q) (hqb : ads[b]? = some qb) (hc : h[a]? = some (t, vs)) (hcb : h[b]? = some (u, us)) (htt : t = 2 ∨ t = 3 ∨ t = 4) (hu : u = melt t) (hj : mix i vs.length = some j) (hdg : decode cc pc = .ok (.aastore, 1))
    (kk : ∀ (H1 : Heap) (locs1 : List Loc), Wd D A s H1 ads (h.set a (t, vs.set j (.inr (some b)))) → va_S A s.heap H1 locs1 → W p l e R s m args below meth c H1 locs1 cells slots Q (F0 m (pc + 1) ls rest)) : W p l e R s m args below meth c H locs cells slots Q (F0 m pc ls (.ref qb :: .int i :: .ref q :: rest)) := by
  obtain ⟨ws, tys, h1, h2, h3, hP, hD, hK, h7⟩ := hW
  obtain ⟨e0, hwa⟩ := wd_cell h1 h2 hq hc
  obtain ⟨eb, hwb⟩ := wd_cell h1 h2 hqb hcb
  obtain ⟨cA, f, t0, hfe, ht, hf⟩ := ec_ref htt (h3 a _ _ hc hwa)
  simp only at hfe
  subst hfe
  obtain ⟨hin, hj2, -⟩ := mix_of hj
  subst hj2
  obtain ⟨kA, kc, comp, xb, k1, k2, k3, k4⟩ := s_comp htt hu hK h7 (h3 b _ _ hcb hwb) ht
  simp only at k4
  subst k4
  have hlt : i.toNatClampNeg < vs.length := Nat.not_le.mp fun q => hin (Or.inr q)
  have h0 : ¬ i < 0 := fun q => hin (Or.inl q)
  have hcv : H[qb]? = some (vp_cell comp xb) := hP b _ hwb
  have hcvm : (vp_cell comp xb).vm = .none := by obtain ⟨n, f | f | f | f | f⟩ := xb <;> rfl
  have hccl : (vp_cell comp xb).cls = comp := by obtain ⟨n, f | f | f | f | f⟩ := xb <;> rfl
  refine W.aast he hb (hP a _ hwa) (fun q h => by cases h) (fun h => by cases h) k1 k2 (mtag_ref htt) k3 ⟨h0, by show _ < (arrV _ _ _).slots.size; rw [arrV_size]; exact hlt⟩ hcv (fun q h => by rw [hcvm] at h; cases h) (by rw [hccl]; exact k3) (by rw [hccl]; exact va_asg _ _) rfl rfl hdg fun H1 e1 z oq => ?_
  have hat : va_at D mcl (q, .inl (cA, vs.length, .inr (.inr (.inr (.inr (va_up f i.toNatClampNeg (some qb))))))) H1 := by
    show H1[q]? = some (vp_cell _ _)
    rw [e1, vp_cell_q, vp_cell_q, arrV_store]
    congr 2
    funext k
    by_cases hk : k = i.toNatClampNeg
    · subst hk; simp [updV, va_up, va_rf]
    · simp [updV, va_up, hk]
  exact kk H1 _ (wd_set h1 h2 h3 hK h7 hwa (Or.inr (Or.inr (Or.inl ⟨htt, ecR_upd ht ⟨qb, hqb, rfl⟩ hf⟩))) (hP.set hD hwa hat oq) (hD.set hwa)) (hS.put z oq (hD.2 a _ hwa))
theorem s_anew (he : p.tables.exec = Jvm.exec) (hb : c.code = cc) (hown : s.vm.findClass (mon own) = some m.cls) (hts : ∀ w ∈ lw_g, w.before args s = true) (hXf : Xf s) (hA : ∀ q, s.heap.size ≤ q → A q) {n : Int32} {i t : Nat} (hW : Wd D A s H ads h) (hS : va_S A s.heap H locs) (hf : mk2 mlA own i = some t) (htt : t = 2 ∨ t = 3) (hn : ¬ n < 0) (hn2 : n.toNatClampNeg ≤ 100000) (hcl : cells + 1 ≤ R.cells) (hsl : slots + n.toNatClampNeg ≤ R.slots) (hdg : decode cc pc = .ok (.anewarray i, 3))
    (kk : ∀ (H1 : Heap) (q : Nat), Wd D A s H1 (ads ++ [q]) (h ++ [(t, List.replicate n.toNatClampNeg (.inr none))]) → va_S A s.heap H1 locs → W p l e R s m args below meth c H1 locs (cells + 1) (slots + n.toNatClampNeg) Q (F0 m (pc + 3) ls (.ref q :: rest))) : W p l e R s m args below meth c H locs cells slots Q (F0 m pc ls (.int n :: rest)) := by
  obtain ⟨ws, tys, h1, h2, h3, hP, hD, hK, h7⟩ := hW
  obtain ⟨ty, hmt, hover, hlk⟩ : ∃ ty : FieldType, mtag t = .array ty ∧ (Cond.arrayOver (.array ty)).before args s = true ∧ Cond.classLink (mon own) i (FieldType.array ty).toString ∈ lw_g := by
    have hl := fa hf htt
    rcases htt with h | h
    · subst h; exact ⟨.int, rfl, hXf.1 _ (Or.inl rfl), hl⟩
    · subst h; exact ⟨.array .int, rfl, hXf.1 _ (Or.inr (Or.inl rfl)), hl⟩
  refine W.anewA he hb hown (hts _ hlk) hover rfl hdg rfl hn (by omega) hcl hsl fun cA kA comp f1 f2 f3 f4 => ?_
  generalize hH1 : H.push ({ cls := cA, slots := Array.replicate n.toNatClampNeg .null, vm := .none } : Cell) = H1
  have z1 : H1.size = H.size + 1 := by rw [← hH1, Array.size_push]
  have e1 : H1[H.size]? = some (arrV cA n.toNatClampNeg (fun _ => .null)) := by rw [← hH1, Array.getElem?_push_size, ← arrV_new]
  have o1 : ∀ q : Nat, q < H.size → H1[q]? = H[q]? := fun q hq => by rw [← hH1, Array.getElem?_push, if_neg (Nat.ne_of_lt hq)]
  have hAr : ArrOfT s cA (.array ty) := fun N z => ⟨(fun k h => by cases h), kA, f2, comp, f3⟩
  obtain ⟨kc, hkc, -⟩ := Vm.findClass_spec f4
  have hk : ∀ (k : Nat) (x : Nat × va_E), ws[k]? = some x → H1[x.1]? = H[x.1]? := fun k x hx => o1 x.1 ((hP k x hx).lt)
  have app1 : ∀ {α : Type} (l : List α) (y : α) (k : Nat) (x : α), (l ++ [y])[k]? = some x → l[k]? = some x ∨ x = y := by
    intro α l y k x hx
    by_cases hl : k < l.length
    · rw [List.getElem?_append_left hl] at hx; exact Or.inl hx
    · have : k = l.length := by have := (List.getElem?_eq_some_iff.mp hx).1; simp at this; omega
      subst this; simp at hx; exact Or.inr hx.symm
  refine kk H1 H.size (wd_push (ts := [(cA, .array ty)]) (e' := .inl (cA, n.toNatClampNeg, .inr (.inr (.inr (.inr (fun _ => none)))))) h1 h2 h3 ⟨hK.1, fun k x hx => ?_⟩ (fun k x hx => ?_) (Or.inr (Or.inr (Or.inl ⟨by simp only; omega, cA, fun _ => none, tys.length, by simp, by simp [hmt], fun j v hj => ?_⟩))) ((hP.kept hk).app (fun k x hx => ?_)) (hD.push hP rfl (hA _ hS.1))) ⟨Nat.le_trans hS.1 (by omega), fun x h1 h2 => (o1 x (Nat.lt_of_lt_of_le h1 hS.1)).trans (hS.2.1 x h1 h2), hS.2.2⟩
  · rcases app1 _ _ _ _ hx with h | h
    · exact hK.2 k x h
    · subst h; exact ⟨hAr, f1⟩
  · rcases app1 _ _ _ _ hx with h | h
    · exact h7 k x h
    · subst h; exact ⟨kA, kc, comp, f2, f3, f4, hkc⟩
  · simp only [List.getElem?_replicate] at hj
    split at hj
    · cases hj; exact ⟨rfl, none, rfl⟩
    · cases hj
  · have hz : k < 1 := (List.getElem?_eq_some_iff.mp hx).1
    rw [show k = 0 by omega] at hx
    cases hx
    show H1[H.size]? = some (vp_cell _ _)
    rw [e1, vp_cell_q]
    rfl
end S3
