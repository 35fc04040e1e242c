/-! RUNS OF THE SECOND QUICK FORM -/
abbrev RW : Type := List (List Cl2)
abbrev QT2 : Type := Nat → Option (RW × Nat)
abbrev GI2 : Type := Nat → RW → K1
noncomputable def nthC (f : Cl2 → Option MS) (l : List Cl2) : Nat → Option MS := nthK f l
noncomputable def look2 (f : Cl2 → Option MS) (R : RW) (j : Nat) : Option MS := nthK (fun r => nthK f r (j % 16)) R (j / 16)
noncomputable def gcl (tb : QT2) (ih : GI2) (d : Nat) (R : RW) : KC := fun M' d' as rest nj ml h => @Option.rec (RW × Nat) (fun _ => Option MS) none (fun t => @Option.rec MS (fun _ => Option MS) none (fun u => ih d R nj ml (u.2.2.1 ++ rest) u.2.2.2) (ih d' t.1 0 (as.map some ++ List.replicate (t.2 - as.length) none) [] h)) (tb M')
def grt : KR := fun r h => some (0, [], r.toList, h)
noncomputable def gx2 (tb : QT2) (n : Nat) : GI2 := @Nat.rec (fun _ => GI2) (fun _ _ _ _ _ _ => none) (fun _ ih d R j ml st h => look2 (fun f => f (ih d R) (gcl tb ih d R) grt d ml st h) R j) n
theorem gx2_succ (tb : QT2) (n d : Nat) (R : RW) (j : Nat) (ml : List (Option MV)) (st : List MV) (h : List MC) : gx2 tb (n + 1) d R j ml st h = look2 (fun f => f (gx2 tb n d R) (gcl tb (gx2 tb n) d R) grt d ml st h) R j := rfl
def Rok2 (R : RW) (M nl : Nat) : Prop := ∃ q : MM, mmt[M]? = some q ∧ q.2.2.1 = nl ∧ ∀ i k r f, R[i]? = some r → r[k]? = some f → k < 16 → ∃ x, fget M (16 * i + k) = some x ∧ Cok f q x
def Tok2 (tb : QT2) : Prop := ∀ M R nl, tb M = some (R, nl) → Rok2 R M nl
theorem look2_some {f : Cl2 → Option MS} {R : RW} {j M nl : Nat} {u : MS} (hR : Rok2 R M nl) (h : look2 f R j = some u) : ∃ q x g, mmt[M]? = some q ∧ fget M j = some x ∧ Cok g q x ∧ f g = some u := by
  obtain ⟨q, hq, -, hrow⟩ := hR
  obtain ⟨r, h1, h2⟩ := nthK_some h
  obtain ⟨g, h3, h4⟩ := nthK_some h2
  obtain ⟨x, h5, h6⟩ := hrow _ _ _ _ h1 h3 (Nat.mod_lt _ (by decide))
  rw [Nat.div_add_mod] at h5
  exact ⟨q, x, g, hq, h5, h6, h4⟩
theorem gcl_some {tb : QT2} {ih : GI2} {d M' d' nj : Nat} {R : RW} {as rest : List MV} {ml : List (Option MV)} {h : List MC} {u : MS} (hg : gcl tb ih d R M' d' as rest nj ml h = some u) : ∃ R' nl w, tb M' = some (R', nl) ∧ ih d' R' 0 (as.map some ++ List.replicate (nl - as.length) none) [] h = some w ∧ ih d R nj ml (w.2.2.1 ++ rest) w.2.2.2 = some u := by
  unfold gcl at hg
  cases ht : tb M' with
  | none => rw [ht] at hg; cases hg
  | some t =>
    rw [ht] at hg
    simp only at hg
    cases hw : ih d' t.1 0 (as.map some ++ List.replicate (t.2 - as.length) none) [] h with
    | none => rw [hw] at hg; cases hg
    | some w => rw [hw] at hg; exact ⟨t.1, t.2, w, rfl, hw, hg⟩
theorem gx2_PF {tb : QT2} (ht : Tok2 tb) : ∀ {n d M nl j : Nat} {R : RW} {ml : List (Option MV)} {st : List MV} {h : List MC} {u : MS} {Q : Option MV → List MC → Prop}, Rok2 R M nl → gx2 tb n d R j ml st h = some u → (∀ r : Option MV, u.2.2.1 = r.toList → Q r u.2.2.2) → PF d M j ml st h Q
  | 0, _, _, _, _, _, _, _, _, _, _, _, hg, _ => by cases hg
  | n + 1, d, M, nl, j, R, ml, st, h, u, Q, hR, hg, k => by
    rw [gx2_succ] at hg
    obtain ⟨q, x, g, hq, hx, hc, hf⟩ := look2_some hR hg
    have hgen := hc _ _ _ _ _ _ _ _ hf
    unfold gen at hgen
    split at hgen
    · next j2 ml2 st2 h2 ha => exact act_on hx hq ha (gx2_PF ht hR hgen k)
    · next r ha =>
      have e : u = (0, [], r.toList, h) := by cases hgen; rfl
      subst e
      exact act_ret hx hq ha (k r rfl)
    · next M' d' as rest nj ha =>
      obtain ⟨R', nl', w, hT, g1, g2⟩ := gcl_some hgen
      have hR' := ht _ _ _ hT
      obtain ⟨q', hq', hnl', -⟩ := id hR'
      subst hnl'
      exact act_call hx hq ha hq' (gx2_PF ht hR' g1 (fun r hr => by rw [hr] at g2; exact gx2_PF ht hR g2 k))
    · cases hgen
noncomputable def gcp (tb : QT2) (F : Nat) (ih : K1) : KC := fun M' d' as rest nj ml h => @Option.rec (RW × Nat) (fun _ => Option MS) none (fun t => @Option.rec MS (fun _ => Option MS) none (fun u => ih nj ml (u.2.2.1 ++ rest) u.2.2.2) (gx2 tb F d' t.1 0 (as.map some ++ List.replicate (t.2 - as.length) none) [] h)) (tb M')
noncomputable def gxq (tb : QT2) (F d : Nat) (R : RW) (n : Nat) : K1 := @Nat.rec (fun _ => K1) (fun j ml st h => some (j, ml, st, h)) (fun _ ih j ml st h => look2 (fun f => f ih (gcp tb F ih) (fun _ _ => none) d ml st h) R j) n
theorem gxq_succ (tb : QT2) (F n d : Nat) (R : RW) (j : Nat) (ml : List (Option MV)) (st : List MV) (h : List MC) : gxq tb F d R (n + 1) j ml st h = look2 (fun f => f (gxq tb F d R n) (gcp tb F (gxq tb F d R n)) (fun _ _ => none) d ml st h) R j := rfl
theorem gcp_some {tb : QT2} {ih : K1} {F M' d' nj : Nat} {as rest : List MV} {ml : List (Option MV)} {h : List MC} {u : MS} (hg : gcp tb F ih M' d' as rest nj ml h = some u) : ∃ R' nl w, tb M' = some (R', nl) ∧ gx2 tb F d' R' 0 (as.map some ++ List.replicate (nl - as.length) none) [] h = some w ∧ ih nj ml (w.2.2.1 ++ rest) w.2.2.2 = some u := by
  unfold gcp at hg
  cases ht : tb M' with
  | none => rw [ht] at hg; cases hg
  | some t =>
    rw [ht] at hg
    simp only at hg
    cases hw : gx2 tb F d' t.1 0 (as.map some ++ List.replicate (t.2 - as.length) none) [] h with
    | none => rw [hw] at hg; cases hg
    | some w => rw [hw] at hg; exact ⟨t.1, t.2, w, rfl, hw, hg⟩
theorem gxq_PF {tb : QT2} (ht : Tok2 tb) {F d M nl : Nat} {R : RW} (hR : Rok2 R M nl) : ∀ {n j : Nat} {ml : List (Option MV)} {st : List MV} {h : List MC} {u : MS} {Q : Option MV → List MC → Prop}, gxq tb F d R n j ml st h = some u → PF d M u.1 u.2.1 u.2.2.1 u.2.2.2 Q → PF d M j ml st h Q
  | 0, j, ml, st, h, u, Q, hg, k => by
    have e : some (j, ml, st, h) = some u := hg
    cases e
    exact k
  | n + 1, j, ml, st, h, u, Q, hg, k => by
    rw [gxq_succ] at hg
    obtain ⟨q, x, g, hq, hx, hc, hf⟩ := look2_some hR hg
    have hgen := hc _ _ _ _ _ _ _ _ hf
    unfold gen at hgen
    split at hgen
    · next j2 ml2 st2 h2 ha => exact act_on hx hq ha (gxq_PF ht hR hgen k)
    · cases hgen
    · next M' d' as rest nj ha =>
      obtain ⟨R', nl', w, hT, g1, g2⟩ := gcp_some hgen
      have hR' := ht _ _ _ hT
      obtain ⟨q', hq', hnl', -⟩ := id hR'
      subst hnl'
      exact act_call hx hq ha hq' (gx2_PF ht hR' g1 (fun r hr => by rw [hr] at g2; exact gxq_PF ht hR g2 k))
    · cases hgen
theorem qpiece {tb : QT2} (ht : Tok2 tb) {F n d M nl j j2 : Nat} {R : RW} (hR : Rok2 R M nl) {ml ml2 : List (Option MV)} {st st2 : List MV} {h h2 : List MC} {Q : Option MV → List MC → Prop} (e : endsP (gxq tb F d R n j ml st h) j2 ml2 st2 h2 = true) (k : PF d M j2 ml2 st2 h2 Q) : PF d M j ml st h Q := gxq_PF ht hR (endsP_eq e) k
/-- rows and functions, one by one -/
def okW (q : MM) : List Cl2 → List FI → Prop
  | [], _ => True
  | f :: fs, x :: xs => Cok f q x ∧ okW q fs xs
  | _ :: _, [] => False
def okWW (q : MM) : RW → List (List FI) → Prop
  | [], _ => True
  | r :: rs, l :: ls => (okW q r l ∧ r.length ≤ 16) ∧ okWW q rs ls
  | _ :: _, [] => False
theorem okW_at {q : MM} : ∀ {fs : List Cl2} {xs : List FI} {k : Nat} {f : Cl2}, okW q fs xs → fs[k]? = some f → ∃ x, xs[k]? = some x ∧ Cok f q x
  | [], _, _, _, _, h => by simp at h
  | f :: _, x :: _, 0, g, ho, h => by simp at h; subst h; exact ⟨x, rfl, ho.1⟩
  | _ :: fs, _ :: xs, k + 1, g, ho, h => by simpa using okW_at ho.2 (by simpa using h)
  | _ :: _, [], _, _, ho, _ => ho.elim
theorem okWW_at {q : MM} : ∀ {rs : RW} {ls : List (List FI)} {i : Nat} {r : List Cl2}, okWW q rs ls → rs[i]? = some r → ∃ l, ls[i]? = some l ∧ okW q r l
  | [], _, _, _, _, h => by simp at h
  | r :: _, l :: _, 0, g, ho, h => by simp at h; subst h; exact ⟨l, rfl, ho.1.1⟩
  | _ :: rs, _ :: ls, i + 1, g, ho, h => by simpa using okWW_at ho.2 (by simpa using h)
  | _ :: _, [], _, _, ho, _ => ho.elim
theorem Rok2_of {R : RW} {M nl : Nat} {q : MM} {l : List (List FI)} (hq : mmt[M]? = some q) (hnl : q.2.2.1 = nl) (hl : (ftt[M / 12]?).bind (·[M % 12]?) = some l) (ho : okWW q R l) : Rok2 R M nl := by
  refine ⟨q, hq, hnl, fun i k r f h1 h2 hk => ?_⟩
  obtain ⟨l1, h3, h4⟩ := okWW_at ho h1
  obtain ⟨x, h5, h6⟩ := okW_at h4 h2
  refine ⟨x, ?_, h6⟩
  unfold fget
  rw [hl, show (16 * i + k) / 16 = i by omega, show (16 * i + k) % 16 = k by omega]
  simp only [Option.bind_some, h3, h5]
