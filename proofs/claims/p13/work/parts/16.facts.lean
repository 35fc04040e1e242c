/-! WHAT THE WORDS SAY OF THE TABLES (tools/gen_facts.py): a word by its place in lw_tbl -/
def allz {α β : Type} (f : α → β → Bool) : List α → List β → Bool
  | [], [] => true
  | x :: xs, p :: ps => f x p && allz f xs ps
  | _, _ => false
theorem allz_mem {α β : Type} {f : α → β → Bool} : ∀ {l : List α} {ps : List β}, allz f l ps = true → ∀ x ∈ l, ∃ p, f x p = true
  | [], _, _, _, h => by cases h
  | _ :: _, [], h, _, _ => by simp [allz] at h
  | y :: l, p :: ps, h, x, hx => by
    simp only [allz, Bool.and_eq_true] at h
    rcases List.mem_cons.mp hx with rfl | hx
    · exact ⟨p, h.1⟩
    · exact allz_mem h.2 x hx
theorem mk2_mem {β : Type} {l : List (Nat × Nat × β)} {o i : Nat} {b : β} (h : mk2 l o i = some b) : (o, i, b) ∈ l := by
  unfold mk2 at h
  cases hf : l.find? (fun e => e.1 == o && e.2.1 == i) with
  | none => rw [hf] at h; cases h
  | some e =>
    rw [hf] at h
    have h1 := List.find?_some hf
    have h2 := List.mem_of_find?_eq_some hf
    simp only [Bool.and_eq_true, beq_iff_eq] at h1
    simp only [Option.map_some, Option.some.injEq] at h
    obtain ⟨a, c, d⟩ := e
    simp only at h1 h
    rw [← h1.1, ← h1.2, ← h]
    exact h2
/-- the words that last over a call -/
def lw_g : List Cond := lw_tbl.filter goodWord
theorem mem_g {w : Cond} (h : w ∈ lw_tbl) (hg : goodWord w = true) : w ∈ lw_g := List.mem_filter.mpr ⟨h, hg⟩
theorem at_g {w : Cond} (i : Nat) (h : lw_tbl[i]? = some w) (hg : goodWord w = true) : w ∈ lw_g := mem_g (List.mem_of_getElem? h) hg
def wat (p : Nat) (w : Cond) : Bool := decide (lw_tbl[p]? = some w) && goodWord w
theorem wat_mem {p : Nat} {w : Cond} (h : wat p w = true) : w ∈ lw_g := by
  unfold wat at h
  simp only [Bool.and_eq_true, decide_eq_true_eq] at h
  exact mem_g (List.mem_of_getElem? h.1) h.2
/-- a word that does not last by itself: it goes as a fact of the state -/
def watx (p : Nat) (w : Cond) : Bool := decide (lw_tbl[p]? = some w)
theorem watx_mem {p : Nat} {w : Cond} (h : watx p w = true) : w ∈ lw_tbl := List.mem_of_getElem? (of_decide_eq_true h)
abbrev mon (o : Nat) : String := mown.getD o ""
def psF : List Nat := [96, 97, 109, 110, 111, 112, 113, 133, 134, 135, 136, 152, 153, 154, 155, 156, 157, 158, 159, 160, 161, 162, 198, 199, 200, 201, 202, 203, 204, 205, 206, 207, 213, 214, 215, 216, 217, 218, 219, 220, 221, 222, 223, 224, 225, 269, 270, 271, 272, 273, 274, 275, 276, 277, 278, 279, 280, 288, 289, 290, 291, 292, 293, 294, 316, 317, 318, 319, 320, 321, 322, 323, 324, 346, 347, 348, 349, 350, 351, 352, 353, 354, 355, 356, 357, 358, 359, 360, 361, 362, 395, 396, 397, 398, 399, 400, 401, 402, 403, 802, 803, 804, 805, 806, 807, 808, 809, 810, 811, 812, 813, 814, 815, 816, 817, 818, 819, 820, 821, 822, 823, 824]
def ckF (e : Nat × Nat × Nat × Nat) (p : Nat) : Bool := match mcl[e.2.2.1]? with
  | some q => decide (e.2.2.2 < q.2.2) && wat p (.fieldLink (mon e.1) e.2.1 (q.2.1 e.2.2.2).1 (q.2.1 e.2.2.2).2.1 (q.2.1 e.2.2.2).2.2.1)
  | none => false
set_option maxRecDepth 100000 in
theorem okF : allz ckF mlF psF = true := by decide +kernel
theorem ff {own i ci k : Nat} (h : mk2 mlF own i = some (ci, k)) : ∃ q : vw_C, mcl[ci]? = some q ∧ k < q.2.2 ∧ Cond.fieldLink (mon own) i (q.2.1 k).1 (q.2.1 k).2.1 (q.2.1 k).2.2.1 ∈ lw_g := by
  obtain ⟨p, hp⟩ := allz_mem okF _ (mk2_mem h)
  simp only [ckF] at hp
  split at hp
  · next q hq =>
    simp only [Bool.and_eq_true, decide_eq_true_eq] at hp
    exact ⟨q, hq, hp.1, wat_mem hp.2⟩
  · cases hp
def psC : List (List Nat × Nat × Nat) := [([98, 100], 90, 67), ([114, 116, 118, 120, 122], 104, 68), ([137, 139, 141, 143], 128, 69), ([163, 165, 167, 169, 171, 173, 175, 177, 179, 181, 183], 147, 70), ([208, 210], 193, 72), ([226, 228, 230, 232, 234, 236, 238, 240, 242, 244, 246, 248, 250], 187, 71), ([281, 283, 285], 262, 74), ([295, 297, 299, 301, 303, 305, 307], 254, 73), ([325, 327, 329, 331, 333], 311, 75), ([363, 365, 367, 369, 371, 373, 375, 377, 379, 381, 383, 385, 387, 389], 337, 76), ([404, 406, 408, 410, 412, 414, 416, 418, 420], 82, 66), ([825, 827, 829, 831, 833, 835, 837, 839, 841, 843, 845, 847, 849, 851, 853, 855, 857, 859, 861, 863, 865, 867, 869], 793, 77)]
def mtyOk (ty : FieldType) : Bool := match ty with
  | .int => true
  | .boolean => true
  | .object _ => true
  | .array _ => true
  | _ => false
def ckC (e : vw_C × List FieldType) (p : List Nat × Nat × Nat) : Bool :=
  allz (fun k x => wat x (u_lay e.1.1 e.1.2.1 k)) (List.range e.1.2.2) p.1 && decide (e.2.length = e.1.2.2) && (List.range e.1.2.2).all (fun k => decide (parseFieldDescriptor (e.1.2.1 k).2.2.1 = some (e.2.getD k .int)) && decide ((e.1.2.1 k).1 = e.1.1)) && (List.range e.1.2.2).all (fun a => (List.range e.1.2.2).all fun b => a == b || !((e.1.2.1 a).2.1 == (e.1.2.1 b).2.1)) && e.2.all mtyOk && wat p.2.1 (.instantiable e.1.1 e.1.2.2) && wat p.2.2 (.initialized e.1.1)
set_option maxRecDepth 100000 in
theorem okC : allz ckC (mcl.zip mty) psC = true := by decide +kernel
theorem okCl : mcl.length = mty.length := by decide +kernel
theorem fc {ci : Nat} {q : vw_C} (hq : mcl[ci]? = some q) : (∀ w ∈ u_ws q.1 q.2.1 q.2.2, w ∈ lw_g) ∧ (mty.getD ci []).length = q.2.2 ∧ (∀ k, k < q.2.2 → parseFieldDescriptor (q.2.1 k).2.2.1 = some ((mty.getD ci []).getD k .int) ∧ (q.2.1 k).1 = q.1) ∧ (∀ a, a < q.2.2 → ∀ b, b < q.2.2 → a ≠ b → (q.2.1 a).2.1 ≠ (q.2.1 b).2.1) ∧ (∀ ty ∈ mty.getD ci [], mtyOk ty = true) ∧ Cond.instantiable q.1 q.2.2 ∈ lw_g ∧ Cond.initialized q.1 ∈ lw_g := by
  have hlt : ci < mcl.length := (List.getElem?_eq_some_iff.mp hq).1
  have hlt2 : ci < mty.length := by rw [← okCl]; exact hlt
  have hz : (mcl.zip mty)[ci]? = some (q, mty.getD ci []) := by
    rw [List.getElem?_zip_eq_some]
    exact ⟨hq, by simp [List.getD, hlt2]⟩
  obtain ⟨p, hp⟩ := allz_mem okC _ (List.mem_of_getElem? hz)
  simp only [ckC, Bool.and_eq_true, decide_eq_true_eq, List.all_eq_true, List.mem_range] at hp
  obtain ⟨⟨⟨⟨⟨⟨h1, h2⟩, h3⟩, h4⟩, h5⟩, h6⟩, h7⟩ := hp
  refine ⟨fun w hw => ?_, h2, fun k hk => ?_, fun a ha b hb hn => ?_, h5, wat_mem h6, wat_mem h7⟩
  · unfold u_ws at hw
    obtain ⟨k, hk, rfl⟩ := List.mem_map.mp hw
    obtain ⟨x, hx⟩ := allz_mem h1 k hk
    exact wat_mem hx
  · have h := h3 k hk
    exact h
  · have h := h4 a ha b hb
    simp only [Bool.or_eq_true, beq_iff_eq, Bool.not_eq_true', beq_eq_false_iff_ne] at h
    rcases h with h | h
    · exact absurd h hn
    · exact h
def psN : List Nat := [81, 89, 103, 127, 146, 186, 192, 253, 259, 261, 310, 336, 342, 344, 392, 792]
def ckN (e : Nat × Nat × Nat) (p : Nat) : Bool := match mcl[e.2.2]? with
  | some q => wat p (.classLink (mon e.1) e.2.1 q.1)
  | none => false
theorem okN : allz ckN mlN psN = true := by decide +kernel
theorem fn {own i ci : Nat} (h : mk2 mlN own i = some ci) : ∃ q : vw_C, mcl[ci]? = some q ∧ Cond.classLink (mon own) i q.1 ∈ lw_g := by
  obtain ⟨p, hp⟩ := allz_mem okN _ (mk2_mem h)
  simp only [ckN] at hp
  split at hp
  · next q hq => exact ⟨q, hq, wat_mem hp⟩
  · cases hp
def psA : List Nat := [267, 394, 466, 798, 800, 922]
def ckA (e : Nat × Nat × Nat) (p : Nat) : Bool := if e.2.2 = 4 then wat p (.classLink (mon e.1) e.2.1 "[[Z") else wat p (.classLink (mon e.1) e.2.1 (if e.2.2 = 2 then "[I" else "[[I"))
theorem okA : allz ckA mlA psA = true := by decide +kernel
theorem fa {own i t : Nat} (h : mk2 mlA own i = some t) (ht : t = 2 ∨ t = 3) : Cond.classLink (mon own) i (if t = 2 then "[I" else "[[I") ∈ lw_g := by
  obtain ⟨p, hp⟩ := allz_mem okA _ (mk2_mem h)
  simp only [ckA] at hp
  rw [if_neg (by omega)] at hp
  exact wat_mem hp
def psK : List Nat := [95, 554, 619, 799]
def ckK (e : Nat × Nat × Int32) (p : Nat) : Bool := wat p (.constant (mon e.1) e.2.1 e.2.2)
theorem okK : allz ckK mlC psK = true := by decide +kernel
theorem fk {own i : Nat} {v : Int32} (h : mk2 mlC own i = some v) : Cond.constant (mon own) i v ∈ lw_g := by
  obtain ⟨p, hp⟩ := allz_mem okK _ (mk2_mem h)
  exact wat_mem hp
theorem w_ai : Cond.arrayClass .int ∈ lw_g := at_g 125 (by decide +kernel) (by first | rfl | decide)
theorem w_az : Cond.arrayClass .boolean ∈ lw_g := at_g 126 (by decide +kernel) (by first | rfl | decide)
theorem w_oi : Cond.arrayOver (.array .int) ∈ lw_tbl := List.mem_of_getElem? (i := 268) (by decide +kernel)
theorem w_oii : Cond.arrayOver (.array (.array .int)) ∈ lw_tbl := List.mem_of_getElem? (i := 801) (by decide +kernel)
theorem w_oz : Cond.arrayOver (.array .boolean) ∈ lw_tbl := List.mem_of_getElem? (i := 923) (by decide +kernel)
def psM : List Nat := [85, 93, 107, 131, 150, 190, 196, 257, 265, 314, 340, 426, 430, 434, 437, 440, 444, 448, 452, 456, 459, 476, 481, 485, 490, 494, 498, 502, 505, 508, 512, 516, 520, 525, 529, 533, 537, 541, 545, 549, 553, 558, 563, 568, 572, 576, 582, 586, 590, 593, 596, 600, 604, 608, 611, 618, 623, 627, 631, 639, 644, 648, 652, 656, 661, 665, 669, 673, 678, 684, 688, 692, 696, 700, 704, 709, 717, 725, 729, 735, 741, 747, 751, 756, 762, 766, 770, 774, 778, 782, 786, 791, 796, 875, 879, 882, 886, 890, 894, 898, 902, 906, 910, 913, 917, 921, 927, 931, 935, 939, 943, 947, 951, 955, 959, 963, 966, 970, 974, 978, 982, 986, 990, 994, 998, 1002, 1006, 1010, 1014, 1018, 1022, 1026, 1030, 1034, 1038, 1042, 1046, 1050, 1054, 1058, 1062, 1066, 1070, 1074, 1078, 1082, 1086]
set_option maxRecDepth 100000 in
theorem okM1 : (psM.map fun p => lw_tbl[p]?) = mmt.map (fun q => some (Cond.code q.1 q.2.1 q.2.2.1 q.2.2.2.1)) := by rfl
def ckM (q : MethodName × ByteArray × Nat × Option FieldType × Nat × Nat) : Bool := plainName q.1.cls && decide (q.1.cls ≠ "java/lang/invoke/MethodHandle") && decide (q.1.cls ≠ "java/lang/invoke/VarHandle") && decide ((parseMethodDescriptor q.1.desc).map (fun d => d.parameters.length) = some q.2.2.2.2.2) && decide (mon q.2.2.2.2.1 = q.1.cls)
set_option maxRecDepth 100000 in
theorem okM2 : mmt.all ckM = true := by decide +kernel
theorem fm {M : Nat} {q : MethodName × ByteArray × Nat × Option FieldType × Nat × Nat} (h : mmt[M]? = some q) : Cond.code q.1 q.2.1 q.2.2.1 q.2.2.2.1 ∈ lw_g ∧ plainName q.1.cls = true ∧ (q.1.cls ≠ "java/lang/invoke/MethodHandle" ∧ q.1.cls ≠ "java/lang/invoke/VarHandle" ∧ (parseMethodDescriptor q.1.desc).map (fun d => d.parameters.length) = some q.2.2.2.2.2) ∧ mon q.2.2.2.2.1 = q.1.cls := by
  have hm := List.all_eq_true.mp okM2 q (List.mem_of_getElem? h)
  simp only [ckM, Bool.and_eq_true, decide_eq_true_eq] at hm
  obtain ⟨⟨⟨⟨h1, h2⟩, h3⟩, h4⟩, h5⟩ := hm
  refine ⟨?_, h1, ⟨h2, h3, h4⟩, h5⟩
  have hi : (mmt.map (fun q => some (Cond.code q.1 q.2.1 q.2.2.1 q.2.2.2.1)))[M]? = some (some (Cond.code q.1 q.2.1 q.2.2.1 q.2.2.2.1)) := by simp [h]
  rw [← okM1] at hi
  simp only [List.getElem?_map, Option.map_eq_some_iff] at hi
  obtain ⟨p, -, hp⟩ := hi
  exact mem_g (List.mem_of_getElem? hp) rfl
def psL : List (Nat × Nat × Nat × Nat) := [(83, 84, 0, 66), (86, 0, 0, 0), (91, 92, 0, 67), (94, 0, 0, 0), (105, 106, 0, 68), (108, 0, 0, 0), (129, 130, 0, 69), (132, 0, 0, 0), (148, 149, 0, 70), (151, 0, 0, 0), (188, 189, 0, 71), (191, 0, 0, 0), (194, 195, 0, 72), (197, 0, 0, 0), (255, 256, 0, 73), (258, 0, 0, 0), (260, 195, 0, 72), (263, 264, 0, 74), (266, 0, 0, 0), (312, 313, 0, 75), (315, 0, 0, 0), (338, 339, 0, 76), (341, 0, 0, 0), (343, 195, 0, 72), (345, 264, 0, 74), (393, 195, 0, 72), (423, 424, 425, 66), (427, 428, 429, 68), (431, 432, 433, 66), (435, 436, 0, 66), (438, 439, 0, 66), (441, 442, 443, 66), (445, 446, 447, 68), (449, 450, 451, 68), (453, 454, 455, 72), (457, 458, 0, 78), (460, 0, 0, 0), (467, 0, 0, 0), (470, 0, 0, 0), (473, 474, 475, 72), (477, 0, 0, 0), (478, 480, 0, 66), (482, 483, 484, 68), (486, 0, 0, 0), (487, 488, 489, 72), (491, 492, 493, 66), (495, 496, 497, 66), (499, 500, 501, 66), (503, 504, 0, 66), (506, 507, 0, 66), (509, 510, 511, 66), (513, 514, 515, 69), (517, 519, 1, 69), (521, 450, 451, 68), (522, 523, 524, 68), (526, 528, 2, 69), (530, 532, 3, 69), (534, 536, 4, 69), (538, 540, 5, 69), (542, 543, 544, 68), (546, 547, 548, 66), (550, 551, 552, 70), (555, 557, 6, 70), (559, 458, 0, 78), (560, 562, 7, 70), (564, 523, 524, 68), (565, 566, 567, 67), (569, 571, 8, 70), (573, 575, 9, 70), (577, 450, 451, 68), (578, 543, 544, 68), (579, 580, 581, 66), (583, 584, 585, 70), (587, 523, 524, 68), (588, 589, 0, 78), (591, 592, 0, 78), (594, 595, 0, 78), (597, 598, 599, 66), (601, 602, 603, 71), (605, 607, 10, 71), (609, 610, 0, 78), (612, 454, 455, 72), (613, 523, 524, 68), (614, 474, 475, 72), (615, 617, 11, 71), (620, 622, 12, 71), (624, 626, 13, 71), (628, 630, 14, 71), (632, 483, 484, 68), (633, 566, 567, 67), (634, 507, 0, 66), (635, 543, 544, 68), (636, 638, 15, 71), (640, 450, 451, 68), (641, 643, 16, 71), (645, 647, 17, 71), (649, 651, 18, 71), (653, 655, 19, 71), (657, 0, 0, 0), (658, 659, 660, 66), (662, 663, 664, 71), (666, 667, 668, 66), (670, 671, 672, 75), (674, 610, 0, 78), (675, 677, 20, 75), (679, 458, 0, 78), (680, 483, 484, 68), (681, 682, 683, 74), (685, 686, 687, 66), (689, 690, 691, 76), (693, 694, 695, 76), (697, 699, 21, 76), (701, 702, 703, 73), (705, 0, 0, 0), (706, 708, 22, 73), (710, 450, 451, 68), (711, 523, 524, 68), (712, 483, 484, 68), (713, 551, 552, 70), (714, 716, 23, 73), (718, 584, 585, 70), (719, 454, 455, 72), (720, 474, 475, 72), (721, 458, 0, 78), (722, 724, 24, 76), (726, 728, 25, 76), (730, 682, 683, 74), (731, 504, 0, 66), (732, 734, 26, 76), (736, 514, 515, 69), (737, 671, 672, 75), (738, 740, 27, 76), (742, 523, 524, 68), (743, 551, 552, 70), (744, 746, 28, 76), (748, 750, 29, 76), (752, 602, 603, 71), (753, 755, 30, 76), (757, 663, 664, 71), (758, 483, 484, 68), (759, 761, 31, 76), (763, 764, 765, 66), (767, 768, 769, 66), (771, 773, 32, 66), (775, 776, 777, 66), (779, 780, 781, 66), (783, 784, 785, 66), (787, 702, 703, 73), (788, 789, 790, 66), (794, 795, 0, 77), (797, 0, 0, 0), (872, 873, 874, 77), (876, 877, 878, 77), (880, 881, 0, 77), (883, 884, 885, 77), (887, 889, 33, 77), (891, 893, 34, 77), (895, 897, 35, 77), (899, 900, 901, 77), (903, 904, 905, 77), (907, 908, 909, 77), (911, 912, 0, 77), (914, 915, 916, 77), (918, 920, 36, 77), (924, 926, 37, 77), (928, 930, 38, 77), (932, 934, 39, 77), (936, 938, 40, 77), (940, 942, 41, 77), (944, 945, 946, 77), (948, 950, 42, 77), (952, 954, 43, 77), (956, 958, 44, 77), (960, 962, 45, 77), (964, 965, 0, 77), (967, 968, 969, 77), (971, 972, 973, 77), (975, 977, 46, 77), (979, 981, 47, 77), (983, 985, 48, 77), (987, 989, 49, 77), (991, 993, 50, 77), (995, 996, 997, 77), (999, 1000, 1001, 77), (1003, 1005, 51, 77), (1007, 1009, 52, 77), (1011, 1013, 53, 77), (1015, 1016, 1017, 77), (1019, 1021, 54, 77), (1023, 1025, 55, 77), (1027, 1029, 56, 77), (1031, 1033, 57, 77), (1035, 1037, 58, 77), (1039, 1041, 59, 77), (1043, 1045, 60, 77), (1047, 1049, 61, 77), (1051, 1053, 62, 77), (1055, 1057, 63, 77), (1059, 1061, 64, 77), (1063, 1064, 1065, 77), (1067, 1068, 1069, 77), (1071, 1072, 1073, 77), (1075, 1076, 1077, 77), (1079, 1080, 1081, 77), (1083, 1084, 1085, 77)]
def ckL (e : Nat × Nat × Nat × Nat) (p : Nat × Nat × Nat × Nat) : Bool :=
  if e.2.2.1 = 3 then wat p.1 (.methodLink (mon e.1) e.2.1 objectInit)
  else if e.2.2.1 = 4 then wat p.1 (.methodLink (mon e.1) e.2.1 arraycopyName)
  else if e.2.2.1 = 7 then wat p.1 (.methodLink (mon e.1) e.2.1 Lib.Math.min.name)
  else if e.2.2.1 = 8 then wat p.1 (.methodLink (mon e.1) e.2.1 ⟨"[I", "clone", "()Ljava/lang/Object;"⟩)
  else match mmt[e.2.2.2]? with
  | some q =>
    if e.2.2.1 = 0 then wat p.1 (.methodLink (mon e.1) e.2.1 q.1) && wat p.2.1 (.instanceMethod q.1) && wat p.2.2.1 (.selects q.1.cls q.1 q.1) && wat p.2.2.2 (.initialized q.1.cls)
    else if e.2.2.1 = 1 then wat p.1 (.methodLink (mon e.1) e.2.1 q.1) && wat p.2.1 (.static q.1) && wat p.2.2.2 (.initialized q.1.cls)
    else if e.2.2.1 = 2 then wat p.1 (.methodLink (mon e.1) e.2.1 q.1) && wat p.2.1 (.instanceMethod q.1) && wat p.2.2.2 (.initialized q.1.cls) && decide (q.1.name = "<init>")
    else if e.2.2.1 = 5 then watx p.1 (.methodLinkNest (mon e.1) e.2.1 q.1 "EquationDesk") && wat p.2.1 (.static q.1) && wat p.2.2.2 (.initialized q.1.cls)
    else watx p.1 (.methodLinkNest (mon e.1) e.2.1 q.1 "EquationDesk") && wat p.2.1 (.instanceMethod q.1) && wat p.2.2.2 (.initialized q.1.cls) && decide (q.1.name = "<init>")
  | none => false
set_option maxRecDepth 100000 in
theorem okL : allz ckL mlM psL = true := by decide +kernel
theorem fl {own i kd M : Nat} (h : mk2 mlM own i = some (kd, M)) : ∃ p, ckL (own, i, kd, M) p = true := allz_mem okL _ (mk2_mem h)
theorem w_oin : Cond.instanceMethod objectInit ∈ lw_g := at_g 87 (by decide +kernel) (by first | rfl | decide)
theorem w_oco : Cond.code objectInit ⟨#[0xb1]⟩ 1 none ∈ lw_g := at_g 88 (by rfl) (by first | rfl | decide)
theorem w_acn : Cond.native arraycopyName ∈ lw_g := at_g 472 (by decide +kernel) (by first | rfl | decide)
theorem w_acs : Cond.static arraycopyName ∈ lw_g := at_g 471 (by decide +kernel) (by first | rfl | decide)
theorem w_aci : Cond.initialized "java/lang/System" ∈ lw_g := at_g 80 (by decide +kernel) (by first | rfl | decide)
theorem w_mis : Cond.static Lib.Math.min.name ∈ lw_g := at_g 468 (by decide +kernel) (by first | rfl | decide)
theorem w_mii : Cond.initialized "java/lang/Math" ∈ lw_g := at_g 79 (by decide +kernel) (by first | rfl | decide)
theorem w_mic : Cond.code Lib.Math.min.name Lib.Math.min.code 2 (some .int) ∈ lw_g := at_g 469 (by decide +kernel) (by first | rfl | decide)
theorem gtbl {ws : List Cond} (h : ∀ w ∈ ws, w ∈ lw_g) : GoodIn lw_g ws := fun w hw => ⟨h w hw, good_of_word (List.mem_filter.mp (h w hw)).2⟩
theorem w_cls : Cond.sameMethod "[I" "java/lang/Object" "clone" "()Ljava/lang/Object;" ∈ lw_g := at_g 461 (by decide +kernel) (by first | rfl | decide)
theorem w_cln : Cond.native ⟨"java/lang/Object", "clone", "()Ljava/lang/Object;"⟩ ∈ lw_g := at_g 462 (by decide +kernel) (by first | rfl | decide)
theorem w_cli : Cond.instanceMethod ⟨"java/lang/Object", "clone", "()Ljava/lang/Object;"⟩ ∈ lw_g := at_g 463 (by decide +kernel) (by first | rfl | decide)
theorem w_cle : Cond.selects "[I" ⟨"[I", "clone", "()Ljava/lang/Object;"⟩ ⟨"java/lang/Object", "clone", "()Ljava/lang/Object;"⟩ ∈ lw_g := at_g 464 (by decide +kernel) (by first | rfl | decide)
theorem w_clc : Cond.castable "[I" "java/lang/Cloneable" ∈ lw_tbl := List.mem_of_getElem? (i := 465) (by decide +kernel)
