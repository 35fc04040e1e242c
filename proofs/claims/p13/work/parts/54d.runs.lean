/-! RUNS OF THE QUICK FORM -/
abbrev RW : Type := List (List Cl3)
abbrev QT3 : Type := Nat → Option (RW × Nat)
abbrev GI3 : Type := Nat → RW → K3
noncomputable def look3 (f : Cl3 → Option M3) (R : RW) (j : Nat) : Option M3 := nthG (fun r => nthG f r (j % 16)) R (j / 16)
noncomputable def gcl (tb : QT3) (ih : GI3) (d : Nat) (R : RW) : KC3 := fun M' d' as rest nj ml hh => @Option.rec (RW × Nat) (fun _ => Option M3) none (fun t => @Option.rec M3 (fun _ => Option M3) none (fun u => ih d R nj ml (u.2.2.1 ++ rest) u.2.2.2) (ih d' t.1 0 (as.map some ++ List.replicate (t.2 - as.length) none) [] hh)) (tb M')
def grt : KR3 := fun r hh => some (0, [], r.toList, hh)
noncomputable def gx3 (tb : QT3) (n : Nat) : GI3 := @Nat.rec (fun _ => GI3) (fun _ _ _ _ _ _ => none) (fun _ ih d R j ml st hh => look3 (fun f => f (ih d R) (gcl tb ih d R) grt d ml st hh) R j) n
theorem gx3_succ (tb : QT3) (n d : Nat) (R : RW) (j : Nat) (ml : List (Option MV)) (st : List MV) (hh : HH) : gx3 tb (n + 1) d R j ml st hh = look3 (fun f => f (gx3 tb n d R) (gcl tb (gx3 tb n) d R) grt d ml st hh) R j := rfl
def Rok (w : W3) (R : RW) (M nl : Nat) : Prop := ∃ q : MM, mmt[M]? = some q ∧ q.2.2.1 = nl ∧ ∀ i k r f, R[i]? = some r → r[k]? = some f → k < 16 → ∃ x, fget M (16 * i + k) = some x ∧ Cok w f q x
def Tok (w : W3) (tb : QT3) : Prop := ∀ M R nl, tb M = some (R, nl) → Rok w R M nl
theorem look3_some {w : W3} {f : Cl3 → Option M3} {R : RW} {j M nl : Nat} {u : M3} (hR : Rok w R M nl) (h : look3 f R j = some u) : ∃ q x g, mmt[M]? = some q ∧ fget M j = some x ∧ Cok w g q x ∧ f g = some u := by
  obtain ⟨q, hq, -, hrow⟩ := hR
  obtain ⟨r, h1, h2⟩ := nthG_some h
  obtain ⟨g, h3, h4⟩ := nthG_some h2
  obtain ⟨x, h5, h6⟩ := hrow _ _ _ _ h1 h3 (Nat.mod_lt _ (by decide))
  rw [Nat.div_add_mod] at h5
  exact ⟨q, x, g, hq, h5, h6, h4⟩
theorem gcl_some {tb : QT3} {ih : GI3} {d M' d' nj : Nat} {R : RW} {as rest : List MV} {ml : List (Option MV)} {hh : HH} {u : M3} (hg : gcl tb ih d R M' d' as rest nj ml hh = some u) : ∃ R' nl w, tb M' = some (R', nl) ∧ ih d' R' 0 (as.map some ++ List.replicate (nl - as.length) none) [] hh = some w ∧ ih d R nj ml (w.2.2.1 ++ rest) w.2.2.2 = some u := by
  unfold gcl at hg
  cases ht : tb M' with
  | none => rw [ht] at hg; cases hg
  | some t =>
    rw [ht] at hg
    simp only at hg
    cases hw : ih d' t.1 0 (as.map some ++ List.replicate (t.2 - as.length) none) [] hh with
    | none => rw [hw] at hg; cases hg
    | some w => rw [hw] at hg; exact ⟨t.1, t.2, w, rfl, hw, hg⟩
theorem gx3_PF {w : W3} {tb : QT3} (ht : Tok w tb) : ∀ {n d M nl j : Nat} {R : RW} {ml : List (Option MV)} {st : List MV} {hh : HH} {u : M3} {Q : Option MV → List MC → Prop}, Rok w R M nl → Vw w hh → gx3 tb n d R j ml st hh = some u → (∀ r : Option MV, u.2.2.1 = r.toList → Vw w u.2.2.2 → Q r (ab w u.2.2.2)) → PF d M j ml st (ab w hh) Q
  | 0, _, _, _, _, _, _, _, _, _, _, _, _, hg, _ => by cases hg
  | n + 1, d, M, nl, j, R, ml, st, hh, u, Q, hR, hv, hg, k => by
    rw [gx3_succ] at hg
    obtain ⟨q, x, g, hq, hx, hc, hf⟩ := look3_some hR hg
    rcases hc _ _ _ _ _ _ _ _ hv hf with ⟨j2, ml2, st2, hh2, ha, hv2, hk⟩ | ⟨r, ha, hk⟩ | ⟨M', d', as, rest, nj, ha, hk⟩
    · exact act_on hx hq ha (gx3_PF ht hR hv2 hk k)
    · have e : u = (0, [], r.toList, hh) := by cases hk; rfl
      subst e
      exact act_ret hx hq ha (k r rfl hv)
    · obtain ⟨R', nl', v, hT, g1, g2⟩ := gcl_some hk
      have hR' := ht _ _ _ hT
      obtain ⟨q', hq', hnl', -⟩ := id hR'
      subst hnl'
      exact act_call hx hq ha hq' (gx3_PF ht hR' hv g1 (fun r hr hv2 => by rw [hr] at g2; exact gx3_PF ht hR hv2 g2 k))
noncomputable def gcp (tb : QT3) (F : Nat) (ih : K3) : KC3 := fun M' d' as rest nj ml hh => @Option.rec (RW × Nat) (fun _ => Option M3) none (fun t => @Option.rec M3 (fun _ => Option M3) none (fun u => ih nj ml (u.2.2.1 ++ rest) u.2.2.2) (gx3 tb F d' t.1 0 (as.map some ++ List.replicate (t.2 - as.length) none) [] hh)) (tb M')
noncomputable def gxq (tb : QT3) (F d : Nat) (R : RW) (n : Nat) : K3 := @Nat.rec (fun _ => K3) (fun j ml st hh => some (j, ml, st, hh)) (fun _ ih j ml st hh => look3 (fun f => f ih (gcp tb F ih) (fun _ _ => none) d ml st hh) R j) n
theorem gxq_succ (tb : QT3) (F n d : Nat) (R : RW) (j : Nat) (ml : List (Option MV)) (st : List MV) (hh : HH) : gxq tb F d R (n + 1) j ml st hh = look3 (fun f => f (gxq tb F d R n) (gcp tb F (gxq tb F d R n)) (fun _ _ => none) d ml st hh) R j := rfl
theorem gcp_some {tb : QT3} {ih : K3} {F M' d' nj : Nat} {as rest : List MV} {ml : List (Option MV)} {hh : HH} {u : M3} (hg : gcp tb F ih M' d' as rest nj ml hh = some u) : ∃ R' nl w, tb M' = some (R', nl) ∧ gx3 tb F d' R' 0 (as.map some ++ List.replicate (nl - as.length) none) [] hh = some w ∧ ih nj ml (w.2.2.1 ++ rest) w.2.2.2 = some u := by
  unfold gcp at hg
  cases ht : tb M' with
  | none => rw [ht] at hg; cases hg
  | some t =>
    rw [ht] at hg
    simp only at hg
    cases hw : gx3 tb F d' t.1 0 (as.map some ++ List.replicate (t.2 - as.length) none) [] hh with
    | none => rw [hw] at hg; cases hg
    | some w => rw [hw] at hg; exact ⟨t.1, t.2, w, rfl, hw, hg⟩
theorem gxq_PF {w : W3} {tb : QT3} (ht : Tok w tb) {F d M nl : Nat} {R : RW} (hR : Rok w R M nl) : ∀ {n j : Nat} {ml : List (Option MV)} {st : List MV} {hh : HH} {u : M3} {Q : Option MV → List MC → Prop}, Vw w hh → gxq tb F d R n j ml st hh = some u → PF d M u.1 u.2.1 u.2.2.1 (ab w u.2.2.2) Q → PF d M j ml st (ab w hh) Q
  | 0, j, ml, st, hh, u, Q, _, hg, k => by
    have e : some (j, ml, st, hh) = some u := hg
    cases e
    exact k
  | n + 1, j, ml, st, hh, u, Q, hv, hg, k => by
    rw [gxq_succ] at hg
    obtain ⟨q, x, g, hq, hx, hc, hf⟩ := look3_some hR hg
    rcases hc _ _ _ _ _ _ _ _ hv hf with ⟨j2, ml2, st2, hh2, ha, hv2, hk⟩ | ⟨r, ha, hk⟩ | ⟨M', d', as, rest, nj, ha, hk⟩
    · exact act_on hx hq ha (gxq_PF ht hR hv2 hk k)
    · cases hk
    · obtain ⟨R', nl', v, hT, g1, g2⟩ := gcp_some hk
      have hR' := ht _ _ _ hT
      obtain ⟨q', hq', hnl', -⟩ := id hR'
      subst hnl'
      exact act_call hx hq ha hq' (gx3_PF ht hR' hv g1 (fun r hr hv2 => by rw [hr] at g2; exact gxq_PF ht hR hv2 g2 k))
def endsQ (r : Option M3) (j : Nat) (ml : List (Option MV)) (st : List MV) (p t s : List MC) : Bool := match r with
  | some (j2, ml2, st2, p2, t2, s2) => Nat.beq j2 j && eqL eqO ml2 ml && eqL eqV st2 st && eqH p2 p && eqH t2 t && eqH s2 s
  | none => false
theorem endsQ_eq {r : Option M3} {j : Nat} {ml : List (Option MV)} {st : List MV} {p t s : List MC} (e : endsQ r j ml st p t s = true) : r = some (j, ml, st, p, t, s) := by
  unfold endsQ at e
  split at e
  · next j2 ml2 st2 p2 t2 s2 =>
    simp only [Bool.and_eq_true] at e
    rw [Nat.eq_of_beq_eq_true e.1.1.1.1.1, eqL_eq eqO_eq e.1.1.1.1.2, eqL_eq eqV_eq e.1.1.1.2, eqH_eq e.1.1.2, eqH_eq e.1.2, eqH_eq e.2]
  · cases e
/-- a piece: the front p, the table t, cells g1 and g2 that nobody looks at, and what is new -/
theorem qpiece {np b1 b2 b3 : Nat} {g1 g2 : List MC} {tb : W3 → QT3} (ht : ∀ w, Tok w (tb w)) {F n d M nl j j2 : Nat} {R : W3 → RW} (hR : ∀ w, Rok w (R w) M nl) {ml ml2 : List (Option MV)} {st st2 : List MV} {p t p2 t2 s2 : List MC} {Q : Option MV → List MC → Prop} (hv : Vw (np, b1, b2, b3, g1, g2) (p, t, [])) (e : endsQ (gxq (tb (np, b1, b2, b3, g1, g2)) F d (R (np, b1, b2, b3, g1, g2)) n j ml st (p, t, [])) j2 ml2 st2 p2 t2 s2 = true) (k : PF d M j2 ml2 st2 (p2 ++ (g1 ++ (t2 ++ (g2 ++ s2)))) Q) : PF d M j ml st (p ++ (g1 ++ (t ++ g2))) Q := by
  have h := gxq_PF (ht _) (hR _) hv (endsQ_eq e) k
  simp only [ab, List.append_nil] at h
  exact h
/-- rows and functions, one by one -/
def okW (w : W3) (q : MM) : List Cl3 → List FI → Prop
  | [], _ => True
  | f :: fs, x :: xs => Cok w f q x ∧ okW w q fs xs
  | _ :: _, [] => False
def okWW (w : W3) (q : MM) : RW → List (List FI) → Prop
  | [], _ => True
  | r :: rs, l :: ls => okW w q r l ∧ okWW w q rs ls
  | _ :: _, [] => False
theorem okW_at {w : W3} {q : MM} : ∀ {fs : List Cl3} {xs : List FI} {k : Nat} {f : Cl3}, okW w q fs xs → fs[k]? = some f → ∃ x, xs[k]? = some x ∧ Cok w f q x
  | [], _, _, _, _, h => by simp at h
  | f :: _, x :: _, 0, g, ho, h => by simp at h; subst h; exact ⟨x, rfl, ho.1⟩
  | _ :: fs, _ :: xs, k + 1, g, ho, h => by simpa using okW_at ho.2 (by simpa using h)
  | _ :: _, [], _, _, ho, _ => ho.elim
theorem okWW_at {w : W3} {q : MM} : ∀ {rs : RW} {ls : List (List FI)} {i : Nat} {r : List Cl3}, okWW w q rs ls → rs[i]? = some r → ∃ l, ls[i]? = some l ∧ okW w q r l
  | [], _, _, _, _, h => by simp at h
  | r :: _, l :: _, 0, g, ho, h => by simp at h; subst h; exact ⟨l, rfl, ho.1⟩
  | _ :: rs, _ :: ls, i + 1, g, ho, h => by simpa using okWW_at ho.2 (by simpa using h)
  | _ :: _, [], _, _, ho, _ => ho.elim
theorem Rok_of {w : W3} {R : RW} {M nl : Nat} {q : MM} {l : List (List FI)} (hq : mmt[M]? = some q) (hnl : q.2.2.1 = nl) (hl : (ftt[M / 12]?).bind (·[M % 12]?) = some l) (ho : okWW w q R l) : Rok w R M nl := by
  refine ⟨q, hq, hnl, fun i k r f h1 h2 hk => ?_⟩
  obtain ⟨l1, h3, h4⟩ := okWW_at ho h1
  obtain ⟨x, h5, h6⟩ := okW_at h4 h2
  refine ⟨x, ?_, h6⟩
  unfold fget
  rw [hl, show (16 * i + k) / 16 = i by omega, show (16 * i + k) % 16 = k by omega]
  simp only [Option.bind_some, h3, h5]
theorem qpiece0 {np : Nat} {tb : W3 → QT3} (ht : ∀ w, Tok w (tb w)) {F n d M nl j j2 : Nat} {R : W3 → RW} (hR : ∀ w, Rok w (R w) M nl) {ml ml2 : List (Option MV)} {st st2 : List MV} {p p2 s2 : List MC} {Q : Option MV → List MC → Prop} (hp : p.length = np) (e : endsQ (gxq (tb (np, np, np, np, [], [])) F d (R (np, np, np, np, [], [])) n j ml st (p, [], [])) j2 ml2 st2 p2 [] s2 = true) (k : PF d M j2 ml2 st2 (p2 ++ s2) Q) : PF d M j ml st p Q := by
  have h := qpiece (np := np) (b1 := np) (b2 := np) (b3 := np) (g1 := []) (g2 := []) (t := []) ht hR ⟨hp, rfl, rfl, rfl⟩ e k
  simpa using h
