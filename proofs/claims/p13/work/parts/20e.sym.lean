/-! RUNS OF THE FAST FORM, GOAL FIRST: rules that a chain of 'refine .. rfl ..' takes -/
theorem fx_fuel : ∀ {n d M j : Nat} {ml : List (Option MV)} {st : List MV} {h : List MC} {r : Option MV × List MC}, fx n d M j ml st h = some r → fx (n + 1) d M j ml st h = some r
  | 0, _, _, _, _, _, _, _, hr => by simp [fx] at hr
  | n + 1, d, M, j, ml, st, h, r, hr => by
    unfold fx at hr
    unfold fx
    split at hr
    · cases hr
    · next pc ig len nj tj a b cl hx =>
      (try rw [hx])
      (try simp only)
      split at hr
      · cases hr
      · next q hq =>
        (try rw [hq])
        (try simp only)
        split at hr
        · split at hr
          · next u hu => (try rw [hu]); exact fx_fuel hr
          · cases hr
        · split at hr
          · split at hr
            · next hl => (try rw [if_pos hl]); exact fx_fuel hr
            · cases hr
          · split at hr
            · split at hr
              · next hl =>
                (try rw [if_pos hl])
                split at hr
                · next hc => (try rw [hc]); exact fx_fuel hr
                · next hc => (try rw [hc]); exact fx_fuel hr
              · cases hr
            · cases hr
          · split at hr
            · split at hr
              · next hl =>
                (try rw [if_pos hl])
                split at hr
                · next hc => (try rw [hc]); exact fx_fuel hr
                · next hc => (try rw [hc]); exact fx_fuel hr
              · cases hr
            · cases hr
          · split at hr
            · split at hr
              · next hl => (try rw [if_pos hl]); exact fx_fuel hr
              · cases hr
            · split at hr
              · next hl => (try rw [if_pos hl]); exact fx_fuel hr
              · cases hr
            · cases hr
          · split at hr
            · split at hr
              · next hl => (try rw [if_pos hl]); exact fx_fuel hr
              · cases hr
            · split at hr
              · next hl => (try rw [if_pos hl]); exact fx_fuel hr
              · cases hr
            · cases hr
          · cases hr
        · exact hr
        · split at hr
          · next M' d' as rest hc =>
            (try rw [hc])
            (try simp only)
            split at hr
            · cases hr
            · next q' hq' =>
              (try rw [hq'])
              (try simp only)
              split at hr
              · cases hr
              · next r1 hr1 => rw [fx_fuel hr1]; exact fx_fuel hr
          · next hc =>
            (try rw [hc])
            (try simp only)
            split at hr
            · next u hu => (try rw [hu]); exact fx_fuel hr
            · cases hr
        · cases hr
theorem fx_more {n d M j : Nat} {ml : List (Option MV)} {st : List MV} {h : List MC} {r : Option MV × List MC} (k : Nat) (hr : fx n d M j ml st h = some r) : fx (n + k) d M j ml st h = some r := by
  induction k with
  | zero => exact hr
  | succ k ih => exact fx_fuel ih
def PF (d M j : Nat) (ml : List (Option MV)) (st : List MV) (h : List MC) (Q : Option MV → List MC → Prop) : Prop := ∃ n r hE, fx n d M j ml st h = some (r, hE) ∧ Q r hE
section FR
variable {d M j : Nat} {ml : List (Option MV)} {st : List MV} {h : List MC} {Q : Option MV → List MC → Prop} {pc len nj tj a b : Nat} {ig : Instr} {q : MM}
theorem F_ps {p1 : Nat} {ml1 : List (Option MV)} {st1 : List MV} {h1 : List MC} (hx : fget M j = some (pc, ig, len, nj, tj, a, b, 0)) (hq : mmt[M]? = some q) (hs : mpsG (fun _ => some (a, b)) (fun _ => some a) (fun _ => some a) (fun _ => some (Int32.ofNat a)) q.2.2.2.2.1 (q.1.name == "<init>") ig len pc ml st h = some (p1, ml1, st1, h1)) (k : PF d M nj ml1 st1 h1 Q) : PF d M j ml st h Q := by
  obtain ⟨n, r, hE, h1, h2⟩ := k
  exact ⟨n + 1, r, hE, by unfold fx; simp only [hx, hq, hs, h1], h2⟩
theorem F_goto {off : Int} (hx : fget M j = some (pc, .goto off, 3, nj, tj, a, b, 1)) (hq : mmt[M]? = some q) (k : PF d M tj ml st h Q) : PF d M j ml st h Q := by
  obtain ⟨n, r, hE, h1, h2⟩ := k
  exact ⟨n + 1, r, hE, by unfold fx; simp only [hx, hq, if_true, h1], h2⟩
theorem F_ift {c : Jvm.ClassFile.Cond} {off : Int} {x : Int32} (hx : fget M j = some (pc, .ifCond c off, 3, nj, tj, a, b, 1)) (hq : mmt[M]? = some q) (hc : mcmp c x 0 = true) (k : PF d M tj ml st h Q) : PF d M j ml (.inl x :: st) h Q := by
  obtain ⟨n, r, hE, h1, h2⟩ := k
  exact ⟨n + 1, r, hE, by unfold fx; simp only [hx, hq, if_true, hc, h1], h2⟩
theorem F_iff {c : Jvm.ClassFile.Cond} {off : Int} {x : Int32} (hx : fget M j = some (pc, .ifCond c off, 3, nj, tj, a, b, 1)) (hq : mmt[M]? = some q) (hc : mcmp c x 0 = false) (k : PF d M nj ml st h Q) : PF d M j ml (.inl x :: st) h Q := by
  obtain ⟨n, r, hE, h1, h2⟩ := k
  exact ⟨n + 1, r, hE, by unfold fx; simp only [hx, hq, if_true, hc, h1], h2⟩
theorem F_ct {c : Jvm.ClassFile.Cond} {off : Int} {x y : Int32} (hx : fget M j = some (pc, .if_icmp c off, 3, nj, tj, a, b, 1)) (hq : mmt[M]? = some q) (hc : mcmp c x y = true) (k : PF d M tj ml st h Q) : PF d M j ml (.inl y :: .inl x :: st) h Q := by
  obtain ⟨n, r, hE, h1, h2⟩ := k
  exact ⟨n + 1, r, hE, by unfold fx; simp only [hx, hq, if_true, hc, h1], h2⟩
theorem F_cf {c : Jvm.ClassFile.Cond} {off : Int} {x y : Int32} (hx : fget M j = some (pc, .if_icmp c off, 3, nj, tj, a, b, 1)) (hq : mmt[M]? = some q) (hc : mcmp c x y = false) (k : PF d M nj ml st h Q) : PF d M j ml (.inl y :: .inl x :: st) h Q := by
  obtain ⟨n, r, hE, h1, h2⟩ := k
  exact ⟨n + 1, r, hE, by unfold fx; simp only [hx, hq, if_true, hc, h1], h2⟩
theorem F_ret {r : Option MV} (hx : fget M j = some (pc, ig, len, nj, tj, a, b, 2)) (hq : mmt[M]? = some q) (hr : mret q.2.2.2.1 ig len st = some r) (k : Q r h) : PF d M j ml st h Q :=
  ⟨1, r, h, by unfold fx; simp only [hx, hq, hr], k⟩
theorem F_call {M' d' : Nat} {as rest : List MV} {q' : MM} (hx : fget M j = some (pc, ig, len, nj, tj, a, b, 3)) (hq : mmt[M]? = some q) (hc : mcalG (fun _ => some (a, b)) d ig len st h = some (M', d', as, rest)) (hq' : mmt[M']? = some q') (k : PF d' M' 0 (as.map some ++ List.replicate (q'.2.2.1 - as.length) none) [] h fun r h' => PF d M nj ml (r.toList ++ rest) h' Q) : PF d M j ml st h Q := by
  obtain ⟨n1, r1, e1, g1, n2, r2, e2, g2, k2⟩ := k
  refine ⟨n1 + n2 + 1, r2, e2, ?_, k2⟩
  have f1 := fx_more n2 g1
  have f2 := fx_more n1 g2
  rw [Nat.add_comm n2 n1] at f2
  unfold fx
  simp only [hx, hq, hc, hq', f1, f2]
theorem F_nat {p1 : Nat} {ml1 : List (Option MV)} {st1 : List MV} {h1 : List MC} (hx : fget M j = some (pc, ig, len, nj, tj, a, b, 3)) (hq : mmt[M]? = some q) (hc : mcalG (fun _ => some (a, b)) d ig len st h = none) (hs : mnatG (fun _ => some (a, b)) (fun _ => some a) d ig len pc ml st h = some (p1, ml1, st1, h1)) (k : PF d M nj ml1 st1 h1 Q) : PF d M j ml st h Q := by
  obtain ⟨n, r, hE, h1, h2⟩ := k
  exact ⟨n + 1, r, hE, by unfold fx; simp only [hx, hq, hc, hs, h1], h2⟩
end FR
