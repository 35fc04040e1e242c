/-! A RUN CUT INTO PIECES: steps within one frame, a call being run to its end -/
section FN
variable {d M j : Nat} {ml : List (Option MV)} {st : List MV} {h : List MC} {Q : Option MV → List MC → Prop} {pc len nj tj a b : Nat} {ig : Instr} {q : MM}
theorem F_nuN {off : Int} (hx : fget M j = some (pc, .ifnull off, 3, nj, tj, a, b, 1)) (hq : mmt[M]? = some q) (k : PF d M tj ml st h Q) : PF d M j ml (.inr none :: st) h Q := by
  obtain ⟨n, r, hE, h1, h2⟩ := k
  exact ⟨n + 1, r, hE, by unfold fx; simp only [hx, hq, if_true, h1], h2⟩
theorem F_nuS {off : Int} {x : Nat} (hx : fget M j = some (pc, .ifnull off, 3, nj, tj, a, b, 1)) (hq : mmt[M]? = some q) (k : PF d M nj ml st h Q) : PF d M j ml (.inr (some x) :: st) h Q := by
  obtain ⟨n, r, hE, h1, h2⟩ := k
  exact ⟨n + 1, r, hE, by unfold fx; simp only [hx, hq, if_true, h1], h2⟩
theorem F_nnN {off : Int} (hx : fget M j = some (pc, .ifnonnull off, 3, nj, tj, a, b, 1)) (hq : mmt[M]? = some q) (k : PF d M nj ml st h Q) : PF d M j ml (.inr none :: st) h Q := by
  obtain ⟨n, r, hE, h1, h2⟩ := k
  exact ⟨n + 1, r, hE, by unfold fx; simp only [hx, hq, if_true, h1], h2⟩
theorem F_nnS {off : Int} {x : Nat} (hx : fget M j = some (pc, .ifnonnull off, 3, nj, tj, a, b, 1)) (hq : mmt[M]? = some q) (k : PF d M tj ml st h Q) : PF d M j ml (.inr (some x) :: st) h Q := by
  obtain ⟨n, r, hE, h1, h2⟩ := k
  exact ⟨n + 1, r, hE, by unfold fx; simp only [hx, hq, if_true, h1], h2⟩
end FN
def fs1 (F d M j : Nat) (ml : List (Option MV)) (st : List MV) (h : List MC) : Option MS := match fget M j with
    | none => none
    | some (pc, ig, len, nj, tj, a, b, cl) => match mmt[M]? with
      | none => none
      | some q => match cl with
        | 0 => match mpsG (fun _ => some (a, b)) (fun _ => some a) (fun _ => some a) (fun _ => some (Int32.ofNat a)) q.2.2.2.2.1 (q.1.name == "<init>") ig len pc ml st h with
          | some u => some (nj, u.2.1, u.2.2.1, u.2.2.2)
          | none => none
        | 1 => match ig with
          | .goto _ => if len = 3 then some (tj, ml, st, h) else none
          | .ifCond c _ => match st with
            | .inl x :: st => if len = 3 then (match mcmp c x 0 with
              | true => some (tj, ml, st, h)
              | false => some (nj, ml, st, h)) else none
            | _ => none
          | .if_icmp c _ => match st with
            | .inl y :: .inl x :: st => if len = 3 then (match mcmp c x y with
              | true => some (tj, ml, st, h)
              | false => some (nj, ml, st, h)) else none
            | _ => none
          | .ifnull _ => match st with
            | .inr none :: st => if len = 3 then some (tj, ml, st, h) else none
            | .inr (some _) :: st => if len = 3 then some (nj, ml, st, h) else none
            | _ => none
          | .ifnonnull _ => match st with
            | .inr none :: st => if len = 3 then some (nj, ml, st, h) else none
            | .inr (some _) :: st => if len = 3 then some (tj, ml, st, h) else none
            | _ => none
          | _ => none
        | 3 => match mcalG (fun _ => some (a, b)) d ig len st h with
            | some (M', d', as, rest) => match mmt[M']? with
              | none => none
              | some q' => match fx F d' M' 0 (as.map some ++ List.replicate (q'.2.2.1 - as.length) none) [] h with
                | none => none
                | some r => some (nj, ml, r.1.toList ++ rest, r.2)
            | none => none
        | _ => none
def fxp (F : Nat) : Nat → Nat → Nat → Nat → List (Option MV) → List MV → List MC → Option MS
  | 0, _, _, j, ml, st, h => some (j, ml, st, h)
  | n + 1, d, M, j, ml, st, h => match fs1 F d M j ml st h with
    | some u => fxp F n d M u.1 u.2.1 u.2.2.1 u.2.2.2
    | none => none
theorem fs1_PF {F d M j : Nat} {ml : List (Option MV)} {st : List MV} {h : List MC} {u : MS} {Q : Option MV → List MC → Prop} (hs : fs1 F d M j ml st h = some u) (k : PF d M u.1 u.2.1 u.2.2.1 u.2.2.2 Q) : PF d M j ml st h Q := by
  unfold fs1 at hs
  split at hs
  · cases hs
  · next pc ig len nj tj a b cl hx =>
    split at hs
    · cases hs
    · next q hq =>
      split at hs
      · split at hs
        · next v hv =>
          obtain ⟨p1, ml1, st1, h1⟩ := v
          cases hs
          exact F_ps hx hq hv k
        · cases hs
      · split at hs
        · split at hs
          · next hl => subst hl; cases hs; exact F_goto hx hq k
          · cases hs
        · split at hs
          · split at hs
            · next hl =>
              subst hl
              split at hs
              · next hc => cases hs; exact F_ift hx hq hc k
              · next hc => cases hs; exact F_iff hx hq hc k
            · cases hs
          · cases hs
        · split at hs
          · split at hs
            · next hl =>
              subst hl
              split at hs
              · next hc => cases hs; exact F_ct hx hq hc k
              · next hc => cases hs; exact F_cf hx hq hc k
            · cases hs
          · cases hs
        · split at hs
          · split at hs
            · next hl => subst hl; cases hs; exact F_nuN hx hq k
            · cases hs
          · split at hs
            · next hl => subst hl; cases hs; exact F_nuS hx hq k
            · cases hs
          · cases hs
        · split at hs
          · split at hs
            · next hl => subst hl; cases hs; exact F_nnN hx hq k
            · cases hs
          · split at hs
            · next hl => subst hl; cases hs; exact F_nnS hx hq k
            · cases hs
          · cases hs
        · cases hs
      · split at hs
        · next M' d' as rest hc =>
          split at hs
          · cases hs
          · next q' hq' =>
            split at hs
            · cases hs
            · next r hr =>
              cases hs
              exact F_call hx hq hc hq' ⟨F, r.1, r.2, hr, k⟩
        · cases hs
      · cases hs
theorem fxp_PF {F : Nat} : ∀ {n d M j : Nat} {ml : List (Option MV)} {st : List MV} {h : List MC} {u : MS} {Q : Option MV → List MC → Prop}, fxp F n d M j ml st h = some u → PF d M u.1 u.2.1 u.2.2.1 u.2.2.2 Q → PF d M j ml st h Q
  | 0, d, M, j, ml, st, h, u, Q, hs, k => by
    simp only [fxp, Option.some.injEq] at hs
    subst hs
    exact k
  | n + 1, d, M, j, ml, st, h, u, Q, hs, k => by
    unfold fxp at hs
    split at hs
    · next v hv => exact fs1_PF hv (fxp_PF hs k)
    · cases hs
/-- a closed piece ends so -/
def eqO : Option MV → Option MV → Bool
  | some x, some y => eqV x y
  | none, none => true
  | _, _ => false
theorem eqO_eq : ∀ {x y : Option MV}, eqO x y = true → x = y
  | some x, some y, h => by rw [eqV_eq h]
  | none, none, _ => rfl
  | some _, none, h => by simp [eqO] at h
  | none, some _, h => by simp [eqO] at h
def endsP (r : Option MS) (j : Nat) (ml : List (Option MV)) (st : List MV) (h : List MC) : Bool := match r with
  | some (j2, ml2, st2, h2) => Nat.beq j2 j && eqL eqO ml2 ml && eqL eqV st2 st && eqH h2 h
  | none => false
theorem endsP_eq {r : Option MS} {j : Nat} {ml : List (Option MV)} {st : List MV} {h : List MC} (e : endsP r j ml st h = true) : r = some (j, ml, st, h) := by
  unfold endsP at e
  split at e
  · next j2 ml2 st2 h2 =>
    simp only [Bool.and_eq_true] at e
    rw [Nat.eq_of_beq_eq_true e.1.1.1, eqL_eq eqO_eq e.1.1.2, eqL_eq eqV_eq e.1.2, eqH_eq e.2]
  · cases e
theorem piece {F n d M j j2 : Nat} {ml ml2 : List (Option MV)} {st st2 : List MV} {h h2 : List MC} {Q : Option MV → List MC → Prop} (e : endsP (fxp F n d M j ml st h) j2 ml2 st2 h2 = true) (k : PF d M j2 ml2 st2 h2 Q) : PF d M j ml st h Q := fxp_PF (endsP_eq e) k
/-- a closed run ends with an answer and a heap -/
def endsA (r : Option (Option MV × List MC)) (v : MV) (k : List MC) : Bool := match r with
  | some (some w, h) => eqV w v && eqH h k
  | _ => false
theorem endsA_eq {r : Option (Option MV × List MC)} {v : MV} {k : List MC} (h : endsA r v k = true) : r = some (some v, k) := by
  unfold endsA at h
  split at h
  · next w h2 =>
    simp only [Bool.and_eq_true] at h
    rw [eqV_eq h.1, eqH_eq h.2]
  · cases h
