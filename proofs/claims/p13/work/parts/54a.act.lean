/-! WHAT A ROW DOES: it goes on, returns, or calls -/
abbrev Act : Type := MS ⊕ (Option MV ⊕ (Nat × Nat × List MV × List MV × Nat))
abbrev Clo : Type := Nat → List (Option MV) → List MV → List MC → Option Act
/-- what a row does -/
def act (q : MM) (x : FI) : Clo := fun d ml st h => match x with
  | (pc, ig, len, nj, tj, a, b, cl) => match cl with
    | 0 => match mpsG (fun _ => some (a, b)) (fun _ => some a) (fun _ => some a) (fun _ => some (Int32.ofNat a)) q.2.2.2.2.1 (q.1.name == "<init>") ig len pc ml st h with
      | some (_, ml2, st2, h2) => some (.inl (nj, ml2, st2, h2))
      | none => none
    | 1 => match ig with
      | .goto _ => if len = 3 then some (.inl (tj, ml, st, h)) else none
      | .ifCond c _ => match st with
        | .inl x :: st => if len = 3 then (match mcmp c x 0 with
          | true => some (.inl (tj, ml, st, h))
          | false => some (.inl (nj, ml, st, h))) else none
        | _ => none
      | .if_icmp c _ => match st with
        | .inl y :: .inl x :: st => if len = 3 then (match mcmp c x y with
          | true => some (.inl (tj, ml, st, h))
          | false => some (.inl (nj, ml, st, h))) else none
        | _ => none
      | _ => none
    | 2 => match mret q.2.2.2.1 ig len st with
      | some r => some (.inr (.inl r))
      | none => none
    | 3 => match mcalG (fun _ => some (a, b)) d ig len st h with
      | some (M', d', as, rest) => some (.inr (.inr (M', d', as, rest, nj)))
      | none => none
    | _ => none
theorem act_on {q : MM} {x : FI} {d M j : Nat} {ml : List (Option MV)} {st : List MV} {h : List MC} {u : MS} {Q : Option MV → List MC → Prop} (hx : fget M j = some x) (hq : mmt[M]? = some q) (ha : act q x d ml st h = some (.inl u)) (k : PF d M u.1 u.2.1 u.2.2.1 u.2.2.2 Q) : PF d M j ml st h Q := by
  obtain ⟨pc, ig, len, nj, tj, a, b, cl⟩ := x
  simp only [act] at ha
  split at ha
  · split at ha
    · next p1 ml2 st2 h2 hv => cases ha; exact F_ps hx hq hv k
    · cases ha
  · split at ha
    · split at ha
      · next hl => subst hl; cases ha; exact F_goto hx hq k
      · cases ha
    · split at ha
      · split at ha
        · next hl =>
          subst hl
          split at ha
          · next hc => cases ha; exact F_ift hx hq hc k
          · next hc => cases ha; exact F_iff hx hq hc k
        · cases ha
      · cases ha
    · split at ha
      · split at ha
        · next hl =>
          subst hl
          split at ha
          · next hc => cases ha; exact F_ct hx hq hc k
          · next hc => cases ha; exact F_cf hx hq hc k
        · cases ha
      · cases ha
    · cases ha
  · split at ha <;> cases ha
  · split at ha <;> cases ha
  · cases ha
theorem act_ret {q : MM} {x : FI} {d M j : Nat} {ml : List (Option MV)} {st : List MV} {h : List MC} {r : Option MV} {Q : Option MV → List MC → Prop} (hx : fget M j = some x) (hq : mmt[M]? = some q) (ha : act q x d ml st h = some (.inr (.inl r))) (k : Q r h) : PF d M j ml st h Q := by
  obtain ⟨pc, ig, len, nj, tj, a, b, cl⟩ := x
  simp only [act] at ha
  split at ha
  · split at ha <;> cases ha
  · split at ha
    · split at ha <;> cases ha
    · split at ha
      · split at ha
        · split at ha <;> cases ha
        · cases ha
      · cases ha
    · split at ha
      · split at ha
        · split at ha <;> cases ha
        · cases ha
      · cases ha
    · cases ha
  · split at ha
    · next hr => cases ha; exact F_ret hx hq hr k
    · cases ha
  · split at ha <;> cases ha
  · cases ha
theorem act_call {q q' : MM} {x : FI} {d M j M' d' nj : Nat} {as rest : List MV} {ml : List (Option MV)} {st : List MV} {h : List MC} {Q : Option MV → List MC → Prop} (hx : fget M j = some x) (hq : mmt[M]? = some q) (ha : act q x d ml st h = some (.inr (.inr (M', d', as, rest, nj)))) (hq' : mmt[M']? = some q') (k : PF d' M' 0 (as.map some ++ List.replicate (q'.2.2.1 - as.length) none) [] h fun r h' => PF d M nj ml (r.toList ++ rest) h' Q) : PF d M j ml st h Q := by
  obtain ⟨pc, ig, len, nj2, tj, a, b, cl⟩ := x
  simp only [act] at ha
  split at ha
  · split at ha <;> cases ha
  · split at ha
    · split at ha <;> cases ha
    · split at ha
      · split at ha
        · split at ha <;> cases ha
        · cases ha
      · cases ha
    · split at ha
      · split at ha
        · split at ha <;> cases ha
        · cases ha
      · cases ha
    · cases ha
  · split at ha <;> cases ha
  · split at ha
    · next hc => cases ha; exact F_call hx hq hc hq' k
    · cases ha
  · cases ha
