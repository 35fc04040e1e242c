/-! THE HEAP ONLY GROWS -/
theorem mslots_apps (h g : List MC) : mslots (h ++ g) = mslots h + mslots g := by
  induction h with
  | nil => simp [mslots]
  | cons x h ih => simp [mslots, ih]; omega
def hle (h h2 : List MC) : Prop := h.length ≤ h2.length ∧ mslots h ≤ mslots h2
theorem hle_rf (h : List MC) : hle h h := ⟨Nat.le_refl _, Nat.le_refl _⟩
theorem hle_tr {a b c : List MC} (h : hle a b) (k : hle b c) : hle a c := ⟨Nat.le_trans h.1 k.1, Nat.le_trans h.2 k.2⟩
theorem hle_app (h : List MC) (c : MC) : hle h (h ++ [c]) := ⟨by simp, by rw [mslots_app]; omega⟩
theorem hle_apps (h g : List MC) : hle h (h ++ g) := ⟨by simp, by rw [mslots_apps]; omega⟩
theorem hle_set {h : List MC} {a : Nat} {c c' : MC} (hc : h[a]? = some c) (hl : c'.2.length = c.2.length) : hle h (h.set a c') := ⟨by simp, by rw [mslots_set hc hl]; exact Nat.le_refl _⟩
theorem hle_map {α : Type} {x : Option α} {f : α → MS} {q : MS} {h : List MC} (hx : x.map f = some q) (hf : ∀ y, x = some y → hle h (f y).2.2.2) : hle h q.2.2.2 := by
  obtain ⟨y, hy, rfl⟩ := Option.map_eq_some_iff.mp hx
  exact hf y hy
set_option maxHeartbeats 4000000 in
theorem mps_mono {own : Nat} {ini : Bool} {ig : Instr} {len pc : Nat} {ml : List (Option MV)} {st : List MV} {h : List MC} {q : MS} (hps : mps own ini ig len pc ml st h = some q) : hle h q.2.2.2 := by
  cases ig
  all_goals (simp only [mps, mpsG, k_aconst_null, k_iconst, k_bipush, k_sipush, k_ldc, k_iload, k_iload_n, k_aload, k_aload_n, k_istore, k_istore_n, k_astore, k_astore_n, k_iinc, k_iadd, k_isub, k_imul, k_iand, k_ior, k_ishl, k_ishr, k_dup, k_pop, k_goto, k_ifCond, k_if_icmp, k_ifnull, k_ifnonnull, k_getfield, k_putfield, k_iaload, k_baload, k_aaload, k_iastore, k_bastore, k_aastore, k_arraylength, k_new, k_newarray, k_anewarray, k_multianewarray] at hps)
  all_goals (first | (cases hps; done) | skip)
  all_goals (repeat' (split at hps))
  all_goals (first | (cases hps; done) | skip)
  all_goals (first
    | (cases hps; exact hle_rf _)
    | (cases hps; exact hle_app _ _)
    | (cases hps; exact hle_apps _ _)
    | exact hle_map hps (fun _ _ => hle_rf _)
    | (cases hps; exact hle_set (by assumption) (by simp))
    | exact hle_map hps (fun _ _ => hle_set (by assumption) (by simp)))
