/-! A FRESH DESK, A FRESH MODEL (tools/fresh.py): their heaps, each numbered from 0 -/
def eqV : MV → MV → Bool
  | .inl x, .inl y => x == y
  | .inr x, .inr y => x == y
  | _, _ => false
theorem eqV_eq : ∀ {x y : MV}, eqV x y = true → x = y
  | .inl x, .inl y, h => by simp [eqV] at h; rw [h]
  | .inr x, .inr y, h => by simp [eqV] at h; rw [h]
  | .inl _, .inr _, h => by simp [eqV] at h
  | .inr _, .inl _, h => by simp [eqV] at h
def eqL {α : Type} (f : α → α → Bool) : List α → List α → Bool
  | [], [] => true
  | x :: xs, y :: ys => f x y && eqL f xs ys
  | _, _ => false
theorem eqL_eq {α : Type} {f : α → α → Bool} (hf : ∀ {x y : α}, f x y = true → x = y) : ∀ {l k : List α}, eqL f l k = true → l = k
  | [], [], _ => rfl
  | x :: xs, y :: ys, h => by simp only [eqL, Bool.and_eq_true] at h; rw [hf h.1, eqL_eq hf h.2]
  | [], _ :: _, h => by simp [eqL] at h
  | _ :: _, [], h => by simp [eqL] at h
def eqH (h k : List MC) : Bool := eqL (fun a b => a.1 == b.1 && eqL eqV a.2 b.2) h k
theorem eqH_eq {h k : List MC} (e : eqH h k = true) : h = k := eqL_eq (fun {x y} hxy => by
  simp only [Bool.and_eq_true, beq_iff_eq] at hxy
  exact Prod.ext hxy.1 (eqL_eq eqV_eq hxy.2)) e
/-- a closed run ends with nothing, or with an answer, and a heap -/
def endsV (r : Option (Option MV × List MC)) (k : List MC) : Bool := match r with
  | some (none, h) => eqH h k
  | _ => false
theorem endsV_eq {r : Option (Option MV × List MC)} {k : List MC} (h : endsV r k = true) : r = some (none, k) := by
  unfold endsV at h
  split at h
  · next h2 => rw [eqH_eq h]
  · cases h
def hD : List MC := [(20, [.inr (some 2), .inr (some 7), .inr (some 11), .inr (some 17), .inr (some 29), .inr (some 41), .inr (some 37), .inr (some 66), .inr (some 69)]),
  (10, [.inl 120000, .inl 0]),
  (11, [.inr (some 3), .inr (some 4), .inl 0, .inr (some 5), .inr (some 6)]),
  (0, List.replicate 22 (.inl 0)),
  (1, List.replicate 22 (.inl 0)),
  (0, List.replicate 24 (.inl 0)),
  (0, List.replicate 24 (.inl 0)),
  (12, [.inr (some 2), .inr (some 8), .inr (some 9), .inr (some 10)]),
  (0, List.replicate 576 (.inl 0)),
  (0, List.replicate 24 (.inl 0)),
  (0, List.replicate 24 (.inl 0)),
  (13, [.inr (some 2), .inr (some 1), .inr (some 12), .inr (some 13), .inl 0, .inr (some 14), .inl 0, .inr (some 15), .inr (some 16), .inl 0, .inl 0]),
  (0, List.replicate 24 (.inl 0)),
  (0, List.replicate 48 (.inl 0)),
  (0, List.replicate 24 (.inl 0)),
  (0, [.inl 0]),
  (0, [.inl 0]),
  (15, [.inr (some 2), .inr (some 1), .inr (some 18), .inr (some 20), .inr (some 22), .inr (some 24), .inr (some 26), .inr (some 28), .inl 0, .inl 0, .inl 0, .inl 0, .inl 0]),
  (14, [.inr (some 19), .inl 0]),
  (0, List.replicate 96 (.inl 0)),
  (14, [.inr (some 21), .inl 0]),
  (0, List.replicate 24 (.inl 0)),
  (14, [.inr (some 23), .inl 0]),
  (0, List.replicate 68 (.inl 0)),
  (14, [.inr (some 25), .inl 0]),
  (0, List.replicate 48 (.inl 0)),
  (14, [.inr (some 27), .inl 0]),
  (0, List.replicate 24 (.inl 0)),
  (0, List.replicate 12 (.inl 0)),
  (17, [.inr (some 2), .inr (some 11), .inr (some 30), .inr (some 31), .inr (some 33), .inl 0, .inl 0]),
  (0, List.replicate 24 (.inl 0)),
  (14, [.inr (some 32), .inl 0]),
  (0, List.replicate 24 (.inl 0)),
  (16, [.inr (some 34), .inr (some 35), .inl 0]),
  (2, []),
  (2, []),
  (0, [.inl 0]),
  (18, [.inr (some 2), .inr (some 38), .inl 0, .inr (some 39), .inr (some 40)]),
  (0, List.replicate 12 (.inl 0)),
  (0, [.inl 0]),
  (0, [.inl 0]),
  (19, [.inr (some 2), .inr (some 7), .inr (some 11), .inr (some 29), .inr (some 17), .inr (some 37), .inr (some 42), .inr (some 44), .inr (some 46), .inr (some 50), .inr (some 54), .inr (some 58), .inr (some 62), .inl 0]),
  (14, [.inr (some 43), .inl 0]),
  (0, List.replicate 24 (.inl 0)),
  (14, [.inr (some 45), .inl 0]),
  (0, List.replicate 24 (.inl 0)),
  (16, [.inr (some 47), .inr (some 48), .inl 0]),
  (2, List.replicate 16 (.inr (some 49))),
  (2, List.replicate 16 (.inr (some 49))),
  (0, [.inl 0]),
  (16, [.inr (some 51), .inr (some 52), .inl 0]),
  (2, List.replicate 16 (.inr (some 53))),
  (2, List.replicate 16 (.inr (some 53))),
  (0, [.inl 0]),
  (16, [.inr (some 55), .inr (some 56), .inl 0]),
  (2, List.replicate 60 (.inr (some 57))),
  (2, List.replicate 60 (.inr (some 57))),
  (0, [.inl 0]),
  (16, [.inr (some 59), .inr (some 60), .inl 0]),
  (2, List.replicate 16 (.inr (some 61))),
  (2, List.replicate 16 (.inr (some 61))),
  (0, [.inl 0]),
  (16, [.inr (some 63), .inr (some 64), .inl 0]),
  (2, List.replicate 60 (.inr (some 65))),
  (2, List.replicate 60 (.inr (some 65))),
  (0, [.inl 0]),
  (14, [.inr (some 67), .inl 0]),
  (0, List.replicate 24 (.inl 0)),
  (0, [.inl 0]),
  (2, List.replicate 16 (.inr (some 68)))]
set_option maxRecDepth 1000000 in
theorem hD_made : fx 5000 9 0 0 [some (.inr (some 0)), none, none, none] [] [(20, (mty.getD 10 []).map mdef)] = some (none, hD) := endsV_eq (by decide +kernel)
def hM : List MC := [(21, [.inl 0, .inr (some 1), .inr (some 2), .inl 0, .inr (some 3), .inr (some 4), .inr (some 5), .inl 0, .inr (some 6), .inr (some 7), .inl 0, .inl 0, .inl 0, .inl 0, .inl 0, .inl 120000, .inl 0, .inr (some 8), .inl 0, .inr (some 9), .inl 0, .inr none, .inr none]),
  (0, List.replicate 10 (.inl 0)),
  (1, List.replicate 10 (.inl 0)),
  (2, [.inr (some 10), .inr (some 11), .inr (some 12), .inr (some 13), .inr (some 14), .inr (some 15), .inr (some 16), .inr (some 17), .inr (some 18), .inr (some 19), .inr (some 20), .inr (some 21), .inr (some 22), .inr (some 23), .inr (some 24), .inr (some 25)]),
  (2, List.replicate 40 (.inr none)),
  (2, List.replicate 40 (.inr none)),
  (2, List.replicate 4000 (.inr none)),
  (2, List.replicate 4000 (.inr none)),
  (3, List.replicate 64 (.inr none)),
  (0, List.replicate 12 (.inl 0)),
  (0, [.inl 100]),
  (0, [.inl 100]),
  (0, [.inl 100]),
  (0, [.inl 100]),
  (0, [.inl 100]),
  (0, [.inl 100]),
  (0, [.inl 100]),
  (0, [.inl 100]),
  (0, [.inl 100]),
  (0, [.inl 100]),
  (0, [.inl 100]),
  (0, [.inl 100]),
  (0, [.inl 100]),
  (0, [.inl 100]),
  (0, [.inl 100]),
  (0, [.inl 100])]
set_option maxRecDepth 1000000 in
theorem hM_made : fx 5000 9 92 0 [some (.inr (some 0)), none] [] [(21, (mty.getD 11 []).map mdef)] = some (none, hM) := endsV_eq (by decide +kernel)
