/-! RULES AT SYMBOLIC PLACES -/
section FS
variable {d M j : Nat} {ml : List (Option MV)} {st : List MV} {h : List MC} {Q : Option MV → List MC → Prop} {pc len nj tj a b : Nat} {q : MM}
/-- a place of an array whose places all hold the same -/
theorem F_aald_rep {i : Int32} {av n t : Nat} {v : Option Nat} (hx : fget M j = some (pc, .aaload, 1, nj, tj, a, b, 0)) (hq : mmt[M]? = some q) (hc : h[av]? = some (t, List.replicate n (.inr v))) (ht : t = 2 ∨ t = 3 ∨ t = 4) (h0 : ¬ i < 0) (h1 : i.toNatClampNeg < n) (k : PF d M nj ml (.inr v :: st) h Q) : PF d M j ml (.inl i :: .inr (some av) :: st) h Q := by
  refine F_ps (p1 := pc + 1) (ml1 := ml) (st1 := .inr v :: st) (h1 := h) hx hq ?_ k
  simp only [mpsG, k_aaload, hc, ht, and_self, if_true, List.length_replicate, mix, h0, if_false, h1, Option.bind_some, List.getElem?_replicate, mref, Option.map_some]
theorem F_aald_g {i : Int32} {av t : Nat} {vs : List MV} {v : Option Nat} (hx : fget M j = some (pc, .aaload, 1, nj, tj, a, b, 0)) (hq : mmt[M]? = some q) (hc : h[av]? = some (t, vs)) (ht : t = 2 ∨ t = 3 ∨ t = 4) (h0 : ¬ i < 0) (h1 : i.toNatClampNeg < vs.length) (hv : vs[i.toNatClampNeg]? = some (.inr v)) (k : PF d M nj ml (.inr v :: st) h Q) : PF d M j ml (.inl i :: .inr (some av) :: st) h Q := by
  refine F_ps (p1 := pc + 1) (ml1 := ml) (st1 := .inr v :: st) (h1 := h) hx hq ?_ k
  simp only [mpsG, k_aaload, hc, ht, and_self, if_true, mix, h0, if_false, h1, Option.bind_some, hv, mref, Option.map_some]
theorem F_iald_g {i x : Int32} {av : Nat} {vs : List MV} (hx : fget M j = some (pc, .iaload, 1, nj, tj, a, b, 0)) (hq : mmt[M]? = some q) (hc : h[av]? = some (0, vs)) (hv : mint ((mix i vs.length).bind fun j => vs[j]?) = some x) (k : PF d M nj ml (.inl x :: st) h Q) : PF d M j ml (.inl i :: .inr (some av) :: st) h Q := by
  refine F_ps (p1 := pc + 1) (ml1 := ml) (st1 := .inl x :: st) (h1 := h) hx hq ?_ k
  simp only [mpsG, k_iaload, hc, if_true, hv, Option.map_some]
theorem F_alen_g {av t : Nat} {vs : List MV} (hx : fget M j = some (pc, .arraylength, 1, nj, tj, a, b, 0)) (hq : mmt[M]? = some q) (hc : h[av]? = some (t, vs)) (ht : t < 5) (k : PF d M nj ml (.inl (Int32.ofNat vs.length) :: st) h Q) : PF d M j ml (.inr (some av) :: st) h Q := by
  refine F_ps (p1 := pc + 1) (ml1 := ml) (st1 := .inl (Int32.ofNat vs.length) :: st) (h1 := h) hx hq ?_ k
  simp only [mpsG, k_arraylength, hc, ht, and_self, if_true]
theorem F_aast_g {i : Int32} {av bv t u : Nat} {vs us : List MV} (hx : fget M j = some (pc, .aastore, 1, nj, tj, a, b, 0)) (hq : mmt[M]? = some q) (hc : h[av]? = some (t, vs)) (ht : t = 2 ∨ t = 3 ∨ t = 4) (hb : h[bv]? = some (u, us)) (hu : u = melt t) (h0 : ¬ i < 0) (h1 : i.toNatClampNeg < vs.length) (k : PF d M nj ml st (h.set av (t, vs.set i.toNatClampNeg (.inr (some bv)))) Q) : PF d M j ml (.inr (some bv) :: .inl i :: .inr (some av) :: st) h Q := by
  refine F_ps (p1 := pc + 1) (ml1 := ml) (st1 := st) (h1 := h.set av (t, vs.set i.toNatClampNeg (.inr (some bv)))) hx hq ?_ k
  simp only [mpsG, k_aastore, hc, hb, hu, ht, and_self, if_true, mix, h0, if_false, h1, Option.map_some]
theorem F_aald_set {i : Int32} {av t : Nat} {us : List MV} {v : Option Nat} (hx : fget M j = some (pc, .aaload, 1, nj, tj, a, b, 0)) (hq : mmt[M]? = some q) (hc : h[av]? = some (t, us.set i.toNatClampNeg (.inr v))) (ht : t = 2 ∨ t = 3 ∨ t = 4) (h0 : ¬ i < 0) (h1 : i.toNatClampNeg < us.length) (k : PF d M nj ml (.inr v :: st) h Q) : PF d M j ml (.inl i :: .inr (some av) :: st) h Q :=
  F_aald_g hx hq hc ht h0 (by rw [List.length_set]; exact h1) (List.getElem?_set_self h1) k
theorem F_nuN {off : Int} (hx : fget M j = some (pc, .ifnull off, 3, nj, tj, a, b, 1)) (hq : mmt[M]? = some q) (k : PF d M tj ml st h Q) : PF d M j ml (.inr none :: st) h Q := by
  obtain ⟨n, r, hE, h1, h2⟩ := k
  exact ⟨n + 1, r, hE, by unfold fx; simp only [hx, hq, if_true, h1], h2⟩
theorem F_nuS {off : Int} {x : Nat} (hx : fget M j = some (pc, .ifnull off, 3, nj, tj, a, b, 1)) (hq : mmt[M]? = some q) (k : PF d M nj ml st h Q) : PF d M j ml (.inr (some x) :: st) h Q := by
  obtain ⟨n, r, hE, h1, h2⟩ := k
  exact ⟨n + 1, r, hE, by unfold fx; simp only [hx, hq, if_true, h1], h2⟩
theorem F_nnN {off : Int} (hx : fget M j = some (pc, .ifnonnull off, 3, nj, tj, a, b, 1)) (hq : mmt[M]? = some q) (k : PF d M nj ml st h Q) : PF d M j ml (.inr none :: st) h Q := by
  obtain ⟨n, r, hE, h1, h2⟩ := k
  exact ⟨n + 1, r, hE, by unfold fx; simp only [hx, hq, if_true, h1], h2⟩
theorem F_nnS {off : Int} {x : Nat} (hx : fget M j = some (pc, .ifnonnull off, 3, nj, tj, a, b, 1)) (hq : mmt[M]? = some q) (k : PF d M tj ml st h Q) : PF d M j ml (.inr (some x) :: st) h Q := by
  obtain ⟨n, r, hE, h1, h2⟩ := k
  exact ⟨n + 1, r, hE, by unfold fx; simp only [hx, hq, if_true, h1], h2⟩
end FS
/-- the sixteen places of a fresh model -/
def plc : List MV := [.inr (some 10), .inr (some 11), .inr (some 12), .inr (some 13), .inr (some 14), .inr (some 15), .inr (some 16), .inr (some 17), .inr (some 18), .inr (some 19), .inr (some 20), .inr (some 21), .inr (some 22), .inr (some 23), .inr (some 24), .inr (some 25)]
theorem plc_at : ∀ {n : Nat}, n < 16 → plc[n]? = some (.inr (some (10 + n))) := by
  intro n hn
  rcases (show n = 0 ∨ n = 1 ∨ n = 2 ∨ n = 3 ∨ n = 4 ∨ n = 5 ∨ n = 6 ∨ n = 7 ∨ n = 8 ∨ n = 9 ∨ n = 10 ∨ n = 11 ∨ n = 12 ∨ n = 13 ∨ n = 14 ∨ n = 15 by omega) with rfl | rfl | rfl | rfl | rfl | rfl | rfl | rfl | rfl | rfl | rfl | rfl | rfl | rfl | rfl | rfl <;> rfl
theorem plc_get {h : List MC} {n : Nat} (hn : n < 16) (he : (h.drop 10).take 16 = List.replicate 16 (0, [.inl 100])) : h[10 + n]? = some (0, [.inl 100]) := by
  have e := congrArg (fun l => l[n]?) he
  simp only [List.getElem?_take_of_lt hn, List.getElem?_drop, List.getElem?_replicate, hn, if_true] at e
  exact e
