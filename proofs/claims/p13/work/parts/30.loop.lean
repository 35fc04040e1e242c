/-! THE LAW ON THE SCRIPT: complete(1) again and again, to the end -/
/-- the script: fifteen calls that set up, then 497 times complete(1) -/
def scr (j : Nat) : Int32 := if j < 90 then ([0, 0, 0, 0, 0, 0, 0, 1, 0, 0, 0, 0, 0, 2, 0, 0, 0, 0, 2, 1, 0, 0, 0, 0, 2, 2, 2, 1, 1, 0, 2, 3, 2, 2, 2, 0, 2, 4, 2, 3, 3, 0, 2, 5, 2, 4, 3, 0, 2, 6, 1, 5, 0, 0, 2, 7, 2, 0, 0, 0, 2, 8, 2, 7, 7, 0, 2, 9, 2, 8, 8, 0, 2, 10, 2, 9, 8, 0, 2, 11, 1, 10, 0, 0, 11, 6, 11, 0, 0, 0] : List Int32).getD j 0 else ([12, 1, 0, 0, 0, 0] : List Int32).getD (j % 6) 0
theorem scr_g {k j : Nat} (hk : 15 ≤ k) (hj : j < 6) : scr (6 * k + j) = ([12, 1, 0, 0, 0, 0] : List Int32).getD j 0 := by
  unfold scr
  rw [if_neg (by omega), show (6 * k + j) % 6 = j by omega]
section LW
variable {p : Program} {l : Launch} {e : Env} {s : State} {m : MethodId} {below : List Frame} {meth : Method} {c : Code} {D : va_G} {b : Nat}
theorem l_exit {hX hM : List MC} {N cells slots : Nat} {H : Heap} {locs : List Loc} {ls : Array Slot} {xs : Nat → Int32} (C : lw_At p s m meth c b 3072 xs) (hN : 1378678 ≤ N) (I : IV D s b 512 hX hM N H locs ls) : LG p l e s m below meth c b H locs cells slots 18 ls [] := by
  obtain ⟨adsX, adsM, q0, q1, hWX, hWM, hd, hq0, hq1, hS, hl, hN2⟩ := I
  obtain ⟨hx, hb, hr, -, -, -, hX, hbl, hlocks⟩ := id C
  refine lv_iload_n hx hb d_law_18 rfl (lv_at hl 0 rfl) ?_
  refine lv_aload_n hx hb d_law_19 rfl (lv_at hl 3 rfl) ?_
  refine va_slen (A := lA s) hx hb hX hbl (Nat.not_le.mpr hbl) hS d_law_20 ?_
  refine lv_bipush (v := 6) hx hb d_law_21 (by decide) ?_
  refine lv_isub hx hb d_law_23 ?_
  refine lv_icmp_gt (tgt := 835) hx hb d_law_24 (by decide) (fun _ => ?_) (fun hn => absurd iv_out hn)
  refine lv_iconst (v := 1) hx hb d_law_835 (by decide) ?_
  exact b_ret hx hb hr hlocks (by omega) d_law_836
theorem loopG {hX hM : List MC} (C : lw_At p s m meth c b 3072 scr) (tX : (hX[0]?).map (·.1) = some 20) (tM : (hM[0]?).map (·.1) = some 21) (pX : 0 < hX.length) (pM : 0 < hM.length) (rX : Run2 70 5 [.inr (some 0), .inl 1] hX hX 2 0 2 48) (rM : Run2 129 5 [.inr (some 0), .inl 1] hM hM 2 2774 2774 14996) :
    ∀ (n k N : Nat) (H : Heap) (locs : List Loc) (ls : Array Slot), k + n = 512 → 15 ≤ k → 2774 * (k - 15) ≤ N → IV D s b k hX hM N H locs ls → LG p l e s m below meth c b H locs (nC k) (nS k) 18 ls []
  | 0, k, N, H, locs, ls, h1, h2, h3, I => by
    have e : k = 512 := by omega
    subst e
    exact l_exit C (by omega) I
  | n + 1, k, N, H, locs, ls, h1, h2, h3, I => by
    refine st_complete (v := 2) C (by omega) (scr_g (j := 0) h2 (by decide)) (scr_g (j := 1) h2 (by decide)) I tX tM pX pM rX rM fun H locs ls I => ?_
    exact loopG C tX tM pX pM rX rM n (k + 1) (N + 2774) H locs ls (by omega) (by omega) (by omega) I
end LW
