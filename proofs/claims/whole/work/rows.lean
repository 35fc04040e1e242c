section
-- ===== PART A: goes FIRST, ahead of the names: the tables' words, and 'selects' of the private methods out of them =====
/-- a private method of a class that the tables say can be made, by its rows of tables_1 -/
def lw_okq (q : MethodName × Nat) : Prop := (q.1.cls ≠ "java/lang/invoke/MethodHandle" ∧ q.1.cls ≠ "java/lang/invoke/VarHandle") ∧ Cond.instantiable q.1.cls q.2 ∈ tables_1 ∧ Cond.privateMethod q.1 ∈ tables_1 ∧ Cond.instanceMethod q.1 ∈ tables_1
theorem lw_p0 : lw_okq (⟨"EquationDesk", "putBuilt", "(I)Z"⟩, 9) := ⟨⟨by decide +kernel, by decide +kernel⟩, List.mem_of_getElem? (i := 17) (by decide +kernel), List.mem_of_getElem? (i := 414) (by decide +kernel), List.mem_of_getElem? (i := 415) (by decide +kernel)⟩
theorem lw_p1 : lw_okq (⟨"EquationDesk$PathOrder", "findSeconds", "([I[I)V"⟩, 4) := ⟨⟨by decide +kernel, by decide +kernel⟩, List.mem_of_getElem? (i := 63) (by decide +kernel), List.mem_of_getElem? (i := 453) (by decide +kernel), List.mem_of_getElem? (i := 454) (by decide +kernel)⟩
theorem lw_p2 : lw_okq (⟨"EquationDesk$PathOrder", "relation", "(IIII)I"⟩, 4) := ⟨⟨by decide +kernel, by decide +kernel⟩, List.mem_of_getElem? (i := 63) (by decide +kernel), List.mem_of_getElem? (i := 462) (by decide +kernel), List.mem_of_getElem? (i := 463) (by decide +kernel)⟩
theorem lw_p3 : lw_okq (⟨"EquationDesk$PathOrder", "known", "(II)I"⟩, 4) := ⟨⟨by decide +kernel, by decide +kernel⟩, List.mem_of_getElem? (i := 63) (by decide +kernel), List.mem_of_getElem? (i := 466) (by decide +kernel), List.mem_of_getElem? (i := 467) (by decide +kernel)⟩
theorem lw_p4 : lw_okq (⟨"EquationDesk$PathOrder", "haveSameArguments", "(III)Z"⟩, 4) := ⟨⟨by decide +kernel, by decide +kernel⟩, List.mem_of_getElem? (i := 63) (by decide +kernel), List.mem_of_getElem? (i := 470) (by decide +kernel), List.mem_of_getElem? (i := 471) (by decide +kernel)⟩
theorem lw_p5 : lw_okq (⟨"EquationDesk$PathOrder", "argumentsDecide", "(III)Z"⟩, 4) := ⟨⟨by decide +kernel, by decide +kernel⟩, List.mem_of_getElem? (i := 63) (by decide +kernel), List.mem_of_getElem? (i := 474) (by decide +kernel), List.mem_of_getElem? (i := 475) (by decide +kernel)⟩
theorem lw_p6 : lw_okq (⟨"EquationDesk$Matcher", "keep", "()V"⟩, 11) := ⟨⟨by decide +kernel, by decide +kernel⟩, List.mem_of_getElem? (i := 82) (by decide +kernel), List.mem_of_getElem? (i := 491) (by decide +kernel), List.mem_of_getElem? (i := 492) (by decide +kernel)⟩
theorem lw_p7 : lw_okq (⟨"EquationDesk$Matcher", "turnCrosswise", "()I"⟩, 11) := ⟨⟨by decide +kernel, by decide +kernel⟩, List.mem_of_getElem? (i := 82) (by decide +kernel), List.mem_of_getElem? (i := 496) (by decide +kernel), List.mem_of_getElem? (i := 497) (by decide +kernel)⟩
theorem lw_p8 : lw_okq (⟨"EquationDesk$Matcher", "takePair", "(III)Z"⟩, 11) := ⟨⟨by decide +kernel, by decide +kernel⟩, List.mem_of_getElem? (i := 82) (by decide +kernel), List.mem_of_getElem? (i := 505) (by decide +kernel), List.mem_of_getElem? (i := 506) (by decide +kernel)⟩
theorem lw_p9 : lw_okq (⟨"EquationDesk$Matcher", "firstLike", "(II)I"⟩, 11) := ⟨⟨by decide +kernel, by decide +kernel⟩, List.mem_of_getElem? (i := 82) (by decide +kernel), List.mem_of_getElem? (i := 509) (by decide +kernel), List.mem_of_getElem? (i := 510) (by decide +kernel)⟩
theorem lw_p10 : lw_okq (⟨"EquationDesk$Unification", "begin", "([II[II)V"⟩, 13) := ⟨⟨by decide +kernel, by decide +kernel⟩, List.mem_of_getElem? (i := 122) (by decide +kernel), List.mem_of_getElem? (i := 541) (by decide +kernel), List.mem_of_getElem? (i := 542) (by decide +kernel)⟩
theorem lw_p11 : lw_okq (⟨"EquationDesk$Unification", "pushPair", "(II)V"⟩, 13) := ⟨⟨by decide +kernel, by decide +kernel⟩, List.mem_of_getElem? (i := 122) (by decide +kernel), List.mem_of_getElem? (i := 551) (by decide +kernel), List.mem_of_getElem? (i := 552) (by decide +kernel)⟩
theorem lw_p12 : lw_okq (⟨"EquationDesk$Unification", "takePair", "()I"⟩, 13) := ⟨⟨by decide +kernel, by decide +kernel⟩, List.mem_of_getElem? (i := 122) (by decide +kernel), List.mem_of_getElem? (i := 556) (by decide +kernel), List.mem_of_getElem? (i := 557) (by decide +kernel)⟩
theorem lw_p13 : lw_okq (⟨"EquationDesk$Unification", "withBindings", "(I)I"⟩, 13) := ⟨⟨by decide +kernel, by decide +kernel⟩, List.mem_of_getElem? (i := 122) (by decide +kernel), List.mem_of_getElem? (i := 560) (by decide +kernel), List.mem_of_getElem? (i := 561) (by decide +kernel)⟩
theorem lw_p14 : lw_okq (⟨"EquationDesk$Unification", "isBound", "(I)Z"⟩, 13) := ⟨⟨by decide +kernel, by decide +kernel⟩, List.mem_of_getElem? (i := 122) (by decide +kernel), List.mem_of_getElem? (i := 564) (by decide +kernel), List.mem_of_getElem? (i := 565) (by decide +kernel)⟩
theorem lw_p15 : lw_okq (⟨"EquationDesk$Unification", "rememberChoice", "(II)V"⟩, 13) := ⟨⟨by decide +kernel, by decide +kernel⟩, List.mem_of_getElem? (i := 122) (by decide +kernel), List.mem_of_getElem? (i := 572) (by decide +kernel), List.mem_of_getElem? (i := 573) (by decide +kernel)⟩
def lw_privs_1 : List (MethodName × Nat) := [(⟨"EquationDesk", "putBuilt", "(I)Z"⟩, 9), (⟨"EquationDesk$PathOrder", "findSeconds", "([I[I)V"⟩, 4), (⟨"EquationDesk$PathOrder", "relation", "(IIII)I"⟩, 4), (⟨"EquationDesk$PathOrder", "known", "(II)I"⟩, 4), (⟨"EquationDesk$PathOrder", "haveSameArguments", "(III)Z"⟩, 4), (⟨"EquationDesk$PathOrder", "argumentsDecide", "(III)Z"⟩, 4), (⟨"EquationDesk$Matcher", "keep", "()V"⟩, 11), (⟨"EquationDesk$Matcher", "turnCrosswise", "()I"⟩, 11), (⟨"EquationDesk$Matcher", "takePair", "(III)Z"⟩, 11), (⟨"EquationDesk$Matcher", "firstLike", "(II)I"⟩, 11), (⟨"EquationDesk$Unification", "begin", "([II[II)V"⟩, 13), (⟨"EquationDesk$Unification", "pushPair", "(II)V"⟩, 13), (⟨"EquationDesk$Unification", "takePair", "()I"⟩, 13), (⟨"EquationDesk$Unification", "withBindings", "(I)I"⟩, 13), (⟨"EquationDesk$Unification", "isBound", "(I)Z"⟩, 13), (⟨"EquationDesk$Unification", "rememberChoice", "(II)V"⟩, 13)]
theorem lw_r1 : ∀ q ∈ lw_privs_1, lw_okq q := List.forall_mem_cons.mpr ⟨lw_p0, List.forall_mem_cons.mpr ⟨lw_p1, List.forall_mem_cons.mpr ⟨lw_p2, List.forall_mem_cons.mpr ⟨lw_p3, List.forall_mem_cons.mpr ⟨lw_p4, List.forall_mem_cons.mpr ⟨lw_p5, List.forall_mem_cons.mpr ⟨lw_p6, List.forall_mem_cons.mpr ⟨lw_p7, List.forall_mem_cons.mpr ⟨lw_p8, List.forall_mem_cons.mpr ⟨lw_p9, List.forall_mem_cons.mpr ⟨lw_p10, List.forall_mem_cons.mpr ⟨lw_p11, List.forall_mem_cons.mpr ⟨lw_p12, List.forall_mem_cons.mpr ⟨lw_p13, List.forall_mem_cons.mpr ⟨lw_p14, List.forall_mem_cons.mpr ⟨lw_p15, fun _ h => absurd h List.not_mem_nil⟩⟩⟩⟩⟩⟩⟩⟩⟩⟩⟩⟩⟩⟩⟩⟩
theorem lw_p16 : lw_okq (⟨"EquationDesk$Unification", "bind", "()I"⟩, 13) := ⟨⟨by decide +kernel, by decide +kernel⟩, List.mem_of_getElem? (i := 122) (by decide +kernel), List.mem_of_getElem? (i := 577) (by decide +kernel), List.mem_of_getElem? (i := 578) (by decide +kernel)⟩
theorem lw_p17 : lw_okq (⟨"EquationDesk$Unification", "keep", "()V"⟩, 13) := ⟨⟨by decide +kernel, by decide +kernel⟩, List.mem_of_getElem? (i := 122) (by decide +kernel), List.mem_of_getElem? (i := 581) (by decide +kernel), List.mem_of_getElem? (i := 582) (by decide +kernel)⟩
theorem lw_p18 : lw_okq (⟨"EquationDesk$Unification", "isLike", "(I)Z"⟩, 13) := ⟨⟨by decide +kernel, by decide +kernel⟩, List.mem_of_getElem? (i := 122) (by decide +kernel), List.mem_of_getElem? (i := 585) (by decide +kernel), List.mem_of_getElem? (i := 586) (by decide +kernel)⟩
theorem lw_p19 : lw_okq (⟨"EquationDesk$Unification", "turnCrosswise", "()Z"⟩, 13) := ⟨⟨by decide +kernel, by decide +kernel⟩, List.mem_of_getElem? (i := 122) (by decide +kernel), List.mem_of_getElem? (i := 589) (by decide +kernel), List.mem_of_getElem? (i := 590) (by decide +kernel)⟩
theorem lw_p20 : lw_okq (⟨"EquationDesk$Renaming", "renamed", "([II)[I"⟩, 5) := ⟨⟨by decide +kernel, by decide +kernel⟩, List.mem_of_getElem? (i := 246) (by decide +kernel), List.mem_of_getElem? (i := 611) (by decide +kernel), List.mem_of_getElem? (i := 612) (by decide +kernel)⟩
theorem lw_p21 : lw_okq (⟨"EquationDesk$Completion", "lightest", "()I"⟩, 14) := ⟨⟨by decide +kernel, by decide +kernel⟩, List.mem_of_getElem? (i := 272) (by decide +kernel), List.mem_of_getElem? (i := 633) (by decide +kernel), List.mem_of_getElem? (i := 634) (by decide +kernel)⟩
theorem lw_p22 : lw_okq (⟨"EquationDesk$Reducer", "reduceAt", "(II)Z"⟩, 7) := ⟨⟨by decide +kernel, by decide +kernel⟩, List.mem_of_getElem? (i := 189) (by decide +kernel), List.mem_of_getElem? (i := 642) (by decide +kernel), List.mem_of_getElem? (i := 643) (by decide +kernel)⟩
theorem lw_p23 : lw_okq (⟨"EquationDesk$Reducer", "rewrite", "([III)Z"⟩, 7) := ⟨⟨by decide +kernel, by decide +kernel⟩, List.mem_of_getElem? (i := 189) (by decide +kernel), List.mem_of_getElem? (i := 650) (by decide +kernel), List.mem_of_getElem? (i := 651) (by decide +kernel)⟩
theorem lw_p24 : lw_okq (⟨"EquationDesk$Completion", "limit", "()I"⟩, 14) := ⟨⟨by decide +kernel, by decide +kernel⟩, List.mem_of_getElem? (i := 272) (by decide +kernel), List.mem_of_getElem? (i := 658) (by decide +kernel), List.mem_of_getElem? (i := 659) (by decide +kernel)⟩
theorem lw_p25 : lw_okq (⟨"EquationDesk$Completion", "draftPairsWithout", "(I)V"⟩, 14) := ⟨⟨by decide +kernel, by decide +kernel⟩, List.mem_of_getElem? (i := 272) (by decide +kernel), List.mem_of_getElem? (i := 662) (by decide +kernel), List.mem_of_getElem? (i := 663) (by decide +kernel)⟩
theorem lw_p26 : lw_okq (⟨"EquationDesk$Completion", "takeDraftPairs", "()V"⟩, 14) := ⟨⟨by decide +kernel, by decide +kernel⟩, List.mem_of_getElem? (i := 272) (by decide +kernel), List.mem_of_getElem? (i := 668) (by decide +kernel), List.mem_of_getElem? (i := 669) (by decide +kernel)⟩
theorem lw_p27 : lw_okq (⟨"EquationDesk$Completion", "partRules", "([I)Z"⟩, 14) := ⟨⟨by decide +kernel, by decide +kernel⟩, List.mem_of_getElem? (i := 272) (by decide +kernel), List.mem_of_getElem? (i := 674) (by decide +kernel), List.mem_of_getElem? (i := 675) (by decide +kernel)⟩
theorem lw_p28 : lw_okq (⟨"EquationDesk$Completion", "reduceRights", "()Z"⟩, 14) := ⟨⟨by decide +kernel, by decide +kernel⟩, List.mem_of_getElem? (i := 272) (by decide +kernel), List.mem_of_getElem? (i := 680) (by decide +kernel), List.mem_of_getElem? (i := 681) (by decide +kernel)⟩
theorem lw_p29 : lw_okq (⟨"EquationDesk$Completion", "overlap", "(II)Z"⟩, 14) := ⟨⟨by decide +kernel, by decide +kernel⟩, List.mem_of_getElem? (i := 272) (by decide +kernel), List.mem_of_getElem? (i := 684) (by decide +kernel), List.mem_of_getElem? (i := 685) (by decide +kernel)⟩
theorem lw_p30 : lw_okq (⟨"EquationDesk$Completion", "addCriticalPair", "(IIII)Z"⟩, 14) := ⟨⟨by decide +kernel, by decide +kernel⟩, List.mem_of_getElem? (i := 272) (by decide +kernel), List.mem_of_getElem? (i := 689) (by decide +kernel), List.mem_of_getElem? (i := 690) (by decide +kernel)⟩
theorem lw_p31 : lw_okq (⟨"EquationDesk$Completion", "takeDraftRules", "()V"⟩, 14) := ⟨⟨by decide +kernel, by decide +kernel⟩, List.mem_of_getElem? (i := 272) (by decide +kernel), List.mem_of_getElem? (i := 695) (by decide +kernel), List.mem_of_getElem? (i := 696) (by decide +kernel)⟩
def lw_privs_2 : List (MethodName × Nat) := [(⟨"EquationDesk$Unification", "bind", "()I"⟩, 13), (⟨"EquationDesk$Unification", "keep", "()V"⟩, 13), (⟨"EquationDesk$Unification", "isLike", "(I)Z"⟩, 13), (⟨"EquationDesk$Unification", "turnCrosswise", "()Z"⟩, 13), (⟨"EquationDesk$Renaming", "renamed", "([II)[I"⟩, 5), (⟨"EquationDesk$Completion", "lightest", "()I"⟩, 14), (⟨"EquationDesk$Reducer", "reduceAt", "(II)Z"⟩, 7), (⟨"EquationDesk$Reducer", "rewrite", "([III)Z"⟩, 7), (⟨"EquationDesk$Completion", "limit", "()I"⟩, 14), (⟨"EquationDesk$Completion", "draftPairsWithout", "(I)V"⟩, 14), (⟨"EquationDesk$Completion", "takeDraftPairs", "()V"⟩, 14), (⟨"EquationDesk$Completion", "partRules", "([I)Z"⟩, 14), (⟨"EquationDesk$Completion", "reduceRights", "()Z"⟩, 14), (⟨"EquationDesk$Completion", "overlap", "(II)Z"⟩, 14), (⟨"EquationDesk$Completion", "addCriticalPair", "(IIII)Z"⟩, 14), (⟨"EquationDesk$Completion", "takeDraftRules", "()V"⟩, 14)]
theorem lw_r2 : ∀ q ∈ lw_privs_2, lw_okq q := List.forall_mem_cons.mpr ⟨lw_p16, List.forall_mem_cons.mpr ⟨lw_p17, List.forall_mem_cons.mpr ⟨lw_p18, List.forall_mem_cons.mpr ⟨lw_p19, List.forall_mem_cons.mpr ⟨lw_p20, List.forall_mem_cons.mpr ⟨lw_p21, List.forall_mem_cons.mpr ⟨lw_p22, List.forall_mem_cons.mpr ⟨lw_p23, List.forall_mem_cons.mpr ⟨lw_p24, List.forall_mem_cons.mpr ⟨lw_p25, List.forall_mem_cons.mpr ⟨lw_p26, List.forall_mem_cons.mpr ⟨lw_p27, List.forall_mem_cons.mpr ⟨lw_p28, List.forall_mem_cons.mpr ⟨lw_p29, List.forall_mem_cons.mpr ⟨lw_p30, List.forall_mem_cons.mpr ⟨lw_p31, fun _ h => absurd h List.not_mem_nil⟩⟩⟩⟩⟩⟩⟩⟩⟩⟩⟩⟩⟩⟩⟩⟩
theorem lw_p32 : lw_okq (⟨"EquationDesk", "putFrom", "(LEquationDesk$Couples;IZI)Z"⟩, 9) := ⟨⟨by decide +kernel, by decide +kernel⟩, List.mem_of_getElem? (i := 17) (by decide +kernel), List.mem_of_getElem? (i := 707) (by decide +kernel), List.mem_of_getElem? (i := 708) (by decide +kernel)⟩
theorem lw_p33 : lw_okq (⟨"EquationDeskModel", "build", "(I[I[I)[I"⟩, 23) := ⟨⟨by decide +kernel, by decide +kernel⟩, List.mem_of_getElem? (i := 728) (by decide +kernel), List.mem_of_getElem? (i := 823) (by decide +kernel), List.mem_of_getElem? (i := 824) (by decide +kernel)⟩
theorem lw_p34 : lw_okq (⟨"EquationDeskModel", "compare", "([I[I)I"⟩, 23) := ⟨⟨by decide +kernel, by decide +kernel⟩, List.mem_of_getElem? (i := 728) (by decide +kernel), List.mem_of_getElem? (i := 827) (by decide +kernel), List.mem_of_getElem? (i := 828) (by decide +kernel)⟩
theorem lw_p35 : lw_okq (⟨"EquationDeskModel", "isVariable", "(I)Z"⟩, 23) := ⟨⟨by decide +kernel, by decide +kernel⟩, List.mem_of_getElem? (i := 728) (by decide +kernel), List.mem_of_getElem? (i := 831) (by decide +kernel), List.mem_of_getElem? (i := 832) (by decide +kernel)⟩
theorem lw_p36 : lw_okq (⟨"EquationDeskModel", "isGreater", "([I[I)Z"⟩, 23) := ⟨⟨by decide +kernel, by decide +kernel⟩, List.mem_of_getElem? (i := 728) (by decide +kernel), List.mem_of_getElem? (i := 854) (by decide +kernel), List.mem_of_getElem? (i := 855) (by decide +kernel)⟩
theorem lw_p37 : lw_okq (⟨"EquationDeskModel", "part", "([II)[I"⟩, 23) := ⟨⟨by decide +kernel, by decide +kernel⟩, List.mem_of_getElem? (i := 728) (by decide +kernel), List.mem_of_getElem? (i := 860) (by decide +kernel), List.mem_of_getElem? (i := 861) (by decide +kernel)⟩
theorem lw_p38 : lw_okq (⟨"EquationDeskModel", "end", "([II)I"⟩, 23) := ⟨⟨by decide +kernel, by decide +kernel⟩, List.mem_of_getElem? (i := 728) (by decide +kernel), List.mem_of_getElem? (i := 864) (by decide +kernel), List.mem_of_getElem? (i := 865) (by decide +kernel)⟩
theorem lw_p39 : lw_okq (⟨"EquationDeskModel", "arityOf", "(I)I"⟩, 23) := ⟨⟨by decide +kernel, by decide +kernel⟩, List.mem_of_getElem? (i := 728) (by decide +kernel), List.mem_of_getElem? (i := 868) (by decide +kernel), List.mem_of_getElem? (i := 869) (by decide +kernel)⟩
theorem lw_p40 : lw_okq (⟨"EquationDeskModel", "moreAt", "([I[III[[Z[[Z)Z"⟩, 23) := ⟨⟨by decide +kernel, by decide +kernel⟩, List.mem_of_getElem? (i := 728) (by decide +kernel), List.mem_of_getElem? (i := 872) (by decide +kernel), List.mem_of_getElem? (i := 873) (by decide +kernel)⟩
theorem lw_p41 : lw_okq (⟨"EquationDeskModel", "occurs", "(I[I)Z"⟩, 23) := ⟨⟨by decide +kernel, by decide +kernel⟩, List.mem_of_getElem? (i := 728) (by decide +kernel), List.mem_of_getElem? (i := 876) (by decide +kernel), List.mem_of_getElem? (i := 877) (by decide +kernel)⟩
theorem lw_p42 : lw_okq (⟨"EquationDeskModel", "findMatches", "([I[I)V"⟩, 23) := ⟨⟨by decide +kernel, by decide +kernel⟩, List.mem_of_getElem? (i := 728) (by decide +kernel), List.mem_of_getElem? (i := 884) (by decide +kernel), List.mem_of_getElem? (i := 885) (by decide +kernel)⟩
theorem lw_p43 : lw_okq (⟨"EquationDeskModel", "match", "([I[I[II[[I)V"⟩, 23) := ⟨⟨by decide +kernel, by decide +kernel⟩, List.mem_of_getElem? (i := 728) (by decide +kernel), List.mem_of_getElem? (i := 888) (by decide +kernel), List.mem_of_getElem? (i := 889) (by decide +kernel)⟩
theorem lw_p44 : lw_okq (⟨"EquationDeskModel", "keep", "([[I)V"⟩, 23) := ⟨⟨by decide +kernel, by decide +kernel⟩, List.mem_of_getElem? (i := 728) (by decide +kernel), List.mem_of_getElem? (i := 892) (by decide +kernel), List.mem_of_getElem? (i := 893) (by decide +kernel)⟩
theorem lw_p45 : lw_okq (⟨"EquationDeskModel", "spends", "(I)Z"⟩, 23) := ⟨⟨by decide +kernel, by decide +kernel⟩, List.mem_of_getElem? (i := 728) (by decide +kernel), List.mem_of_getElem? (i := 896) (by decide +kernel), List.mem_of_getElem? (i := 897) (by decide +kernel)⟩
theorem lw_p46 : lw_okq (⟨"EquationDeskModel", "findUnifiers", "([I[I)V"⟩, 23) := ⟨⟨by decide +kernel, by decide +kernel⟩, List.mem_of_getElem? (i := 728) (by decide +kernel), List.mem_of_getElem? (i := 911) (by decide +kernel), List.mem_of_getElem? (i := 912) (by decide +kernel)⟩
theorem lw_p47 : lw_okq (⟨"EquationDeskModel", "unify", "([[II[[I)V"⟩, 23) := ⟨⟨by decide +kernel, by decide +kernel⟩, List.mem_of_getElem? (i := 728) (by decide +kernel), List.mem_of_getElem? (i := 915) (by decide +kernel), List.mem_of_getElem? (i := 916) (by decide +kernel)⟩
def lw_privs_3 : List (MethodName × Nat) := [(⟨"EquationDesk", "putFrom", "(LEquationDesk$Couples;IZI)Z"⟩, 9), (⟨"EquationDeskModel", "build", "(I[I[I)[I"⟩, 23), (⟨"EquationDeskModel", "compare", "([I[I)I"⟩, 23), (⟨"EquationDeskModel", "isVariable", "(I)Z"⟩, 23), (⟨"EquationDeskModel", "isGreater", "([I[I)Z"⟩, 23), (⟨"EquationDeskModel", "part", "([II)[I"⟩, 23), (⟨"EquationDeskModel", "end", "([II)I"⟩, 23), (⟨"EquationDeskModel", "arityOf", "(I)I"⟩, 23), (⟨"EquationDeskModel", "moreAt", "([I[III[[Z[[Z)Z"⟩, 23), (⟨"EquationDeskModel", "occurs", "(I[I)Z"⟩, 23), (⟨"EquationDeskModel", "findMatches", "([I[I)V"⟩, 23), (⟨"EquationDeskModel", "match", "([I[I[II[[I)V"⟩, 23), (⟨"EquationDeskModel", "keep", "([[I)V"⟩, 23), (⟨"EquationDeskModel", "spends", "(I)Z"⟩, 23), (⟨"EquationDeskModel", "findUnifiers", "([I[I)V"⟩, 23), (⟨"EquationDeskModel", "unify", "([[II[[I)V"⟩, 23)]
theorem lw_r3 : ∀ q ∈ lw_privs_3, lw_okq q := List.forall_mem_cons.mpr ⟨lw_p32, List.forall_mem_cons.mpr ⟨lw_p33, List.forall_mem_cons.mpr ⟨lw_p34, List.forall_mem_cons.mpr ⟨lw_p35, List.forall_mem_cons.mpr ⟨lw_p36, List.forall_mem_cons.mpr ⟨lw_p37, List.forall_mem_cons.mpr ⟨lw_p38, List.forall_mem_cons.mpr ⟨lw_p39, List.forall_mem_cons.mpr ⟨lw_p40, List.forall_mem_cons.mpr ⟨lw_p41, List.forall_mem_cons.mpr ⟨lw_p42, List.forall_mem_cons.mpr ⟨lw_p43, List.forall_mem_cons.mpr ⟨lw_p44, List.forall_mem_cons.mpr ⟨lw_p45, List.forall_mem_cons.mpr ⟨lw_p46, List.forall_mem_cons.mpr ⟨lw_p47, fun _ h => absurd h List.not_mem_nil⟩⟩⟩⟩⟩⟩⟩⟩⟩⟩⟩⟩⟩⟩⟩⟩
theorem lw_p48 : lw_okq (⟨"EquationDeskModel", "wayEnds", "()V"⟩, 23) := ⟨⟨by decide +kernel, by decide +kernel⟩, List.mem_of_getElem? (i := 728) (by decide +kernel), List.mem_of_getElem? (i := 919) (by decide +kernel), List.mem_of_getElem? (i := 920) (by decide +kernel)⟩
theorem lw_p49 : lw_okq (⟨"EquationDeskModel", "with", "([II[[I)[I"⟩, 23) := ⟨⟨by decide +kernel, by decide +kernel⟩, List.mem_of_getElem? (i := 728) (by decide +kernel), List.mem_of_getElem? (i := 923) (by decide +kernel), List.mem_of_getElem? (i := 924) (by decide +kernel)⟩
theorem lw_p50 : lw_okq (⟨"EquationDeskModel", "bind", "(I[I[[II[[I)V"⟩, 23) := ⟨⟨by decide +kernel, by decide +kernel⟩, List.mem_of_getElem? (i := 728) (by decide +kernel), List.mem_of_getElem? (i := 927) (by decide +kernel), List.mem_of_getElem? (i := 928) (by decide +kernel)⟩
theorem lw_p51 : lw_okq (⟨"EquationDeskModel", "rename", "([I[I)Z"⟩, 23) := ⟨⟨by decide +kernel, by decide +kernel⟩, List.mem_of_getElem? (i := 728) (by decide +kernel), List.mem_of_getElem? (i := 939) (by decide +kernel), List.mem_of_getElem? (i := 940) (by decide +kernel)⟩
theorem lw_p52 : lw_okq (⟨"EquationDeskModel", "name", "([I)V"⟩, 23) := ⟨⟨by decide +kernel, by decide +kernel⟩, List.mem_of_getElem? (i := 728) (by decide +kernel), List.mem_of_getElem? (i := 943) (by decide +kernel), List.mem_of_getElem? (i := 944) (by decide +kernel)⟩
theorem lw_p53 : lw_okq (⟨"EquationDeskModel", "add", "([I[I)V"⟩, 23) := ⟨⟨by decide +kernel, by decide +kernel⟩, List.mem_of_getElem? (i := 728) (by decide +kernel), List.mem_of_getElem? (i := 947) (by decide +kernel), List.mem_of_getElem? (i := 948) (by decide +kernel)⟩
theorem lw_p54 : lw_okq (⟨"EquationDeskModel", "step", "()I"⟩, 23) := ⟨⟨by decide +kernel, by decide +kernel⟩, List.mem_of_getElem? (i := 728) (by decide +kernel), List.mem_of_getElem? (i := 955) (by decide +kernel), List.mem_of_getElem? (i := 956) (by decide +kernel)⟩
theorem lw_p55 : lw_okq (⟨"EquationDeskModel", "choose", "()I"⟩, 23) := ⟨⟨by decide +kernel, by decide +kernel⟩, List.mem_of_getElem? (i := 728) (by decide +kernel), List.mem_of_getElem? (i := 959) (by decide +kernel), List.mem_of_getElem? (i := 960) (by decide +kernel)⟩
theorem lw_p56 : lw_okq (⟨"EquationDeskModel", "reducedByAll", "([I)[I"⟩, 23) := ⟨⟨by decide +kernel, by decide +kernel⟩, List.mem_of_getElem? (i := 728) (by decide +kernel), List.mem_of_getElem? (i := 963) (by decide +kernel), List.mem_of_getElem? (i := 964) (by decide +kernel)⟩
theorem lw_p57 : lw_okq (⟨"EquationDeskModel", "reduced", "([II[[I[[II)[I"⟩, 23) := ⟨⟨by decide +kernel, by decide +kernel⟩, List.mem_of_getElem? (i := 728) (by decide +kernel), List.mem_of_getElem? (i := 967) (by decide +kernel), List.mem_of_getElem? (i := 968) (by decide +kernel)⟩
theorem lw_p58 : lw_okq (⟨"EquationDeskModel", "rewritten", "([I[[I[[II)[I"⟩, 23) := ⟨⟨by decide +kernel, by decide +kernel⟩, List.mem_of_getElem? (i := 728) (by decide +kernel), List.mem_of_getElem? (i := 971) (by decide +kernel), List.mem_of_getElem? (i := 972) (by decide +kernel)⟩
theorem lw_p59 : lw_okq (⟨"EquationDeskModel", "firstMatch", "([I[I)[[I"⟩, 23) := ⟨⟨by decide +kernel, by decide +kernel⟩, List.mem_of_getElem? (i := 728) (by decide +kernel), List.mem_of_getElem? (i := 975) (by decide +kernel), List.mem_of_getElem? (i := 976) (by decide +kernel)⟩
theorem lw_p60 : lw_okq (⟨"EquationDeskModel", "remove", "(I)V"⟩, 23) := ⟨⟨by decide +kernel, by decide +kernel⟩, List.mem_of_getElem? (i := 728) (by decide +kernel), List.mem_of_getElem? (i := 979) (by decide +kernel), List.mem_of_getElem? (i := 980) (by decide +kernel)⟩
theorem lw_p61 : lw_okq (⟨"EquationDeskModel", "join", "([I[I)Z"⟩, 23) := ⟨⟨by decide +kernel, by decide +kernel⟩, List.mem_of_getElem? (i := 728) (by decide +kernel), List.mem_of_getElem? (i := 983) (by decide +kernel), List.mem_of_getElem? (i := 984) (by decide +kernel)⟩
theorem lw_p62 : lw_okq (⟨"EquationDeskModel", "criticalPairs", "(II)Z"⟩, 23) := ⟨⟨by decide +kernel, by decide +kernel⟩, List.mem_of_getElem? (i := 728) (by decide +kernel), List.mem_of_getElem? (i := 987) (by decide +kernel), List.mem_of_getElem? (i := 988) (by decide +kernel)⟩
theorem lw_p63 : lw_okq (⟨"EquationDeskModel", "higher", "([I)[I"⟩, 23) := ⟨⟨by decide +kernel, by decide +kernel⟩, List.mem_of_getElem? (i := 728) (by decide +kernel), List.mem_of_getElem? (i := 991) (by decide +kernel), List.mem_of_getElem? (i := 992) (by decide +kernel)⟩
def lw_privs_4 : List (MethodName × Nat) := [(⟨"EquationDeskModel", "wayEnds", "()V"⟩, 23), (⟨"EquationDeskModel", "with", "([II[[I)[I"⟩, 23), (⟨"EquationDeskModel", "bind", "(I[I[[II[[I)V"⟩, 23), (⟨"EquationDeskModel", "rename", "([I[I)Z"⟩, 23), (⟨"EquationDeskModel", "name", "([I)V"⟩, 23), (⟨"EquationDeskModel", "add", "([I[I)V"⟩, 23), (⟨"EquationDeskModel", "step", "()I"⟩, 23), (⟨"EquationDeskModel", "choose", "()I"⟩, 23), (⟨"EquationDeskModel", "reducedByAll", "([I)[I"⟩, 23), (⟨"EquationDeskModel", "reduced", "([II[[I[[II)[I"⟩, 23), (⟨"EquationDeskModel", "rewritten", "([I[[I[[II)[I"⟩, 23), (⟨"EquationDeskModel", "firstMatch", "([I[I)[[I"⟩, 23), (⟨"EquationDeskModel", "remove", "(I)V"⟩, 23), (⟨"EquationDeskModel", "join", "([I[I)Z"⟩, 23), (⟨"EquationDeskModel", "criticalPairs", "(II)Z"⟩, 23), (⟨"EquationDeskModel", "higher", "([I)[I"⟩, 23)]
theorem lw_r4 : ∀ q ∈ lw_privs_4, lw_okq q := List.forall_mem_cons.mpr ⟨lw_p48, List.forall_mem_cons.mpr ⟨lw_p49, List.forall_mem_cons.mpr ⟨lw_p50, List.forall_mem_cons.mpr ⟨lw_p51, List.forall_mem_cons.mpr ⟨lw_p52, List.forall_mem_cons.mpr ⟨lw_p53, List.forall_mem_cons.mpr ⟨lw_p54, List.forall_mem_cons.mpr ⟨lw_p55, List.forall_mem_cons.mpr ⟨lw_p56, List.forall_mem_cons.mpr ⟨lw_p57, List.forall_mem_cons.mpr ⟨lw_p58, List.forall_mem_cons.mpr ⟨lw_p59, List.forall_mem_cons.mpr ⟨lw_p60, List.forall_mem_cons.mpr ⟨lw_p61, List.forall_mem_cons.mpr ⟨lw_p62, List.forall_mem_cons.mpr ⟨lw_p63, fun _ h => absurd h List.not_mem_nil⟩⟩⟩⟩⟩⟩⟩⟩⟩⟩⟩⟩⟩⟩⟩⟩
theorem lw_p64 : lw_okq (⟨"EquationDeskModel", "replaced", "([III[I)[I"⟩, 23) := ⟨⟨by decide +kernel, by decide +kernel⟩, List.mem_of_getElem? (i := 728) (by decide +kernel), List.mem_of_getElem? (i := 995) (by decide +kernel), List.mem_of_getElem? (i := 996) (by decide +kernel)⟩
def lw_privs_5 : List (MethodName × Nat) := [(⟨"EquationDeskModel", "replaced", "([III[I)[I"⟩, 23)]
theorem lw_r5 : ∀ q ∈ lw_privs_5, lw_okq q := List.forall_mem_cons.mpr ⟨lw_p64, fun _ h => absurd h List.not_mem_nil⟩
def lw_privs : List (MethodName × Nat) := lw_privs_1 ++ (lw_privs_2 ++ (lw_privs_3 ++ (lw_privs_4 ++ (lw_privs_5))))
def lw_tbl : List Cond := k2_sels lw_privs ++ tables_1
theorem lw_privs_ok : ∀ q ∈ lw_privs, lw_okq q := by
  show ∀ q ∈ lw_privs_1 ++ (lw_privs_2 ++ (lw_privs_3 ++ (lw_privs_4 ++ (lw_privs_5)))), lw_okq q
  exact List.forall_mem_append.mpr ⟨lw_r1, List.forall_mem_append.mpr ⟨lw_r2, List.forall_mem_append.mpr ⟨lw_r3, List.forall_mem_append.mpr ⟨lw_r4, lw_r5⟩⟩⟩⟩
-- ===== end of PART A; then your names; then what follows =====
end
section
/-! TABLES of the small machine, by program out of the words of tables_1 (tools/gen_tables.py) -/
def mF_0 : u_T := fun k => match k with
  | 0 => ("EquationDesk$Tank", "left", "I", false)
  | _ => ("EquationDesk$Tank", "out", "Z", false)
def mF_1 : u_T := fun k => match k with
  | 0 => ("EquationDesk$Signature", "arities", "[I", true)
  | 1 => ("EquationDesk$Signature", "swaps", "[Z", true)
  | 2 => ("EquationDesk$Signature", "count", "I", false)
  | 3 => ("EquationDesk$Signature", "ends", "[I", false)
  | _ => ("EquationDesk$Signature", "spare", "[I", false)
def mF_2 : u_T := fun k => match k with
  | 0 => ("EquationDesk$PathOrder", "signature", "LEquationDesk$Signature;", true)
  | 1 => ("EquationDesk$PathOrder", "table", "[I", true)
  | 2 => ("EquationDesk$PathOrder", "secondOfS", "[I", true)
  | _ => ("EquationDesk$PathOrder", "secondOfT", "[I", true)
def mF_3 : u_T := fun k => match k with
  | 0 => ("EquationDesk$Matcher", "signature", "LEquationDesk$Signature;", true)
  | 1 => ("EquationDesk$Matcher", "tank", "LEquationDesk$Tank;", true)
  | 2 => ("EquationDesk$Matcher", "goesWith", "[I", true)
  | 3 => ("EquationDesk$Matcher", "choices", "[I", true)
  | 4 => ("EquationDesk$Matcher", "open", "I", false)
  | 5 => ("EquationDesk$Matcher", "found", "[I", false)
  | 6 => ("EquationDesk$Matcher", "count", "I", false)
  | 7 => ("EquationDesk$Matcher", "pattern", "[I", false)
  | 8 => ("EquationDesk$Matcher", "term", "[I", false)
  | 9 => ("EquationDesk$Matcher", "start", "I", false)
  | _ => ("EquationDesk$Matcher", "bound", "I", false)
def mF_4 : u_T := fun k => match k with
  | 0 => ("EquationDesk$Row", "cells", "[I", false)
  | _ => ("EquationDesk$Row", "length", "I", false)
def mF_5 : u_T := fun k => match k with
  | 0 => ("EquationDesk$Unification", "signature", "LEquationDesk$Signature;", true)
  | 1 => ("EquationDesk$Unification", "tank", "LEquationDesk$Tank;", true)
  | 2 => ("EquationDesk$Unification", "nodes", "LEquationDesk$Row;", true)
  | 3 => ("EquationDesk$Unification", "waiting", "LEquationDesk$Row;", true)
  | 4 => ("EquationDesk$Unification", "choices", "LEquationDesk$Row;", true)
  | 5 => ("EquationDesk$Unification", "found", "LEquationDesk$Row;", true)
  | 6 => ("EquationDesk$Unification", "foundAt", "LEquationDesk$Row;", true)
  | 7 => ("EquationDesk$Unification", "boundAt", "[I", true)
  | 8 => ("EquationDesk$Unification", "next", "I", false)
  | 9 => ("EquationDesk$Unification", "variable", "I", false)
  | 10 => ("EquationDesk$Unification", "value", "I", false)
  | 11 => ("EquationDesk$Unification", "ways", "I", false)
  | _ => ("EquationDesk$Unification", "count", "I", false)
def mF_6 : u_T := fun k => match k with
  | 0 => ("EquationDesk$Couples", "first", "[[I", true)
  | 1 => ("EquationDesk$Couples", "second", "[[I", true)
  | _ => ("EquationDesk$Couples", "count", "I", false)
def mF_7 : u_T := fun k => match k with
  | 0 => ("EquationDesk$Reducer", "signature", "LEquationDesk$Signature;", true)
  | 1 => ("EquationDesk$Reducer", "matcher", "LEquationDesk$Matcher;", true)
  | 2 => ("EquationDesk$Reducer", "work", "[I", true)
  | 3 => ("EquationDesk$Reducer", "made", "LEquationDesk$Row;", true)
  | 4 => ("EquationDesk$Reducer", "rules", "LEquationDesk$Couples;", false)
  | 5 => ("EquationDesk$Reducer", "length", "I", false)
  | _ => ("EquationDesk$Reducer", "rewritings", "I", false)
def mF_8 : u_T := fun k => match k with
  | 0 => ("EquationDesk$Renaming", "signature", "LEquationDesk$Signature;", true)
  | 1 => ("EquationDesk$Renaming", "names", "[I", true)
  | 2 => ("EquationDesk$Renaming", "used", "I", false)
  | 3 => ("EquationDesk$Renaming", "first", "[I", false)
  | _ => ("EquationDesk$Renaming", "second", "[I", false)
def mF_9 : u_T := fun k => match k with
  | 0 => ("EquationDesk$Completion", "signature", "LEquationDesk$Signature;", true)
  | 1 => ("EquationDesk$Completion", "order", "LEquationDesk$PathOrder;", true)
  | 2 => ("EquationDesk$Completion", "matcher", "LEquationDesk$Matcher;", true)
  | 3 => ("EquationDesk$Completion", "reducer", "LEquationDesk$Reducer;", true)
  | 4 => ("EquationDesk$Completion", "unification", "LEquationDesk$Unification;", true)
  | 5 => ("EquationDesk$Completion", "renaming", "LEquationDesk$Renaming;", true)
  | 6 => ("EquationDesk$Completion", "overlapped", "LEquationDesk$Row;", true)
  | 7 => ("EquationDesk$Completion", "other", "LEquationDesk$Row;", true)
  | 8 => ("EquationDesk$Completion", "staying", "LEquationDesk$Couples;", true)
  | 9 => ("EquationDesk$Completion", "draftRules", "LEquationDesk$Couples;", false)
  | 10 => ("EquationDesk$Completion", "draftPairs", "LEquationDesk$Couples;", false)
  | 11 => ("EquationDesk$Completion", "rules", "LEquationDesk$Couples;", false)
  | 12 => ("EquationDesk$Completion", "pairs", "LEquationDesk$Couples;", false)
  | _ => ("EquationDesk$Completion", "limited", "Z", false)
def mF_10 : u_T := fun k => match k with
  | 0 => ("EquationDesk", "signature", "LEquationDesk$Signature;", true)
  | 1 => ("EquationDesk", "order", "LEquationDesk$PathOrder;", true)
  | 2 => ("EquationDesk", "matcher", "LEquationDesk$Matcher;", true)
  | 3 => ("EquationDesk", "unification", "LEquationDesk$Unification;", true)
  | 4 => ("EquationDesk", "reducer", "LEquationDesk$Reducer;", true)
  | 5 => ("EquationDesk", "completion", "LEquationDesk$Completion;", true)
  | 6 => ("EquationDesk", "renaming", "LEquationDesk$Renaming;", true)
  | 7 => ("EquationDesk", "built", "LEquationDesk$Row;", true)
  | _ => ("EquationDesk", "places", "[[I", true)
def mF_11 : u_T := fun k => match k with
  | 0 => ("EquationDeskModel", "code", "I", false)
  | 1 => ("EquationDeskModel", "arity", "[I", true)
  | 2 => ("EquationDeskModel", "commutes", "[Z", true)
  | 3 => ("EquationDeskModel", "symbols", "I", false)
  | 4 => ("EquationDeskModel", "places", "[[I", true)
  | 5 => ("EquationDeskModel", "lefts", "[[I", true)
  | 6 => ("EquationDeskModel", "rights", "[[I", true)
  | 7 => ("EquationDeskModel", "rules", "I", false)
  | 8 => ("EquationDeskModel", "firsts", "[[I", true)
  | 9 => ("EquationDeskModel", "seconds", "[[I", true)
  | 10 => ("EquationDeskModel", "waiting", "I", false)
  | 11 => ("EquationDeskModel", "limit", "Z", false)
  | 12 => ("EquationDeskModel", "over", "Z", false)
  | 13 => ("EquationDeskModel", "ways", "I", false)
  | 14 => ("EquationDeskModel", "rewritings", "I", false)
  | 15 => ("EquationDeskModel", "fuel", "I", false)
  | 16 => ("EquationDeskModel", "out", "Z", false)
  | 17 => ("EquationDeskModel", "found", "[[[I", false)
  | 18 => ("EquationDeskModel", "founds", "I", false)
  | 19 => ("EquationDeskModel", "names", "[I", false)
  | 20 => ("EquationDeskModel", "named", "I", false)
  | 21 => ("EquationDeskModel", "renamedFirst", "[I", false)
  | _ => ("EquationDeskModel", "renamedSecond", "[I", false)
/-- the classes with objects: name, fields, how many -/
def mcl : List vw_C := [("EquationDesk$Tank", mF_0, 2), ("EquationDesk$Signature", mF_1, 5), ("EquationDesk$PathOrder", mF_2, 4), ("EquationDesk$Matcher", mF_3, 11), ("EquationDesk$Row", mF_4, 2), ("EquationDesk$Unification", mF_5, 13), ("EquationDesk$Couples", mF_6, 3), ("EquationDesk$Reducer", mF_7, 7), ("EquationDesk$Renaming", mF_8, 5), ("EquationDesk$Completion", mF_9, 14), ("EquationDesk", mF_10, 9), ("EquationDeskModel", mF_11, 23)]
/-- the types of their fields -/
def mty : List (List FieldType) := [[.int, .boolean], [(.array .int), (.array .boolean), .int, (.array .int), (.array .int)], [(.object "EquationDesk$Signature"), (.array .int), (.array .int), (.array .int)], [(.object "EquationDesk$Signature"), (.object "EquationDesk$Tank"), (.array .int), (.array .int), .int, (.array .int), .int, (.array .int), (.array .int), .int, .int], [(.array .int), .int], [(.object "EquationDesk$Signature"), (.object "EquationDesk$Tank"), (.object "EquationDesk$Row"), (.object "EquationDesk$Row"), (.object "EquationDesk$Row"), (.object "EquationDesk$Row"), (.object "EquationDesk$Row"), (.array .int), .int, .int, .int, .int, .int], [(.array (.array .int)), (.array (.array .int)), .int], [(.object "EquationDesk$Signature"), (.object "EquationDesk$Matcher"), (.array .int), (.object "EquationDesk$Row"), (.object "EquationDesk$Couples"), .int, .int], [(.object "EquationDesk$Signature"), (.array .int), .int, (.array .int), (.array .int)], [(.object "EquationDesk$Signature"), (.object "EquationDesk$PathOrder"), (.object "EquationDesk$Matcher"), (.object "EquationDesk$Reducer"), (.object "EquationDesk$Unification"), (.object "EquationDesk$Renaming"), (.object "EquationDesk$Row"), (.object "EquationDesk$Row"), (.object "EquationDesk$Couples"), (.object "EquationDesk$Couples"), (.object "EquationDesk$Couples"), (.object "EquationDesk$Couples"), (.object "EquationDesk$Couples"), .boolean], [(.object "EquationDesk$Signature"), (.object "EquationDesk$PathOrder"), (.object "EquationDesk$Matcher"), (.object "EquationDesk$Unification"), (.object "EquationDesk$Reducer"), (.object "EquationDesk$Completion"), (.object "EquationDesk$Renaming"), (.object "EquationDesk$Row"), (.array (.array .int))], [.int, (.array .int), (.array .boolean), .int, (.array (.array .int)), (.array (.array .int)), (.array (.array .int)), .int, (.array (.array .int)), (.array (.array .int)), .int, .boolean, .boolean, .int, .int, .int, .boolean, (.array (.array (.array .int))), .int, (.array .int), .int, (.array .int), (.array .int)]]
/-- the classes that own code -/
def mown : List String := ["EquationDesk$Tank", "EquationDesk$Signature", "EquationDesk$PathOrder", "EquationDesk$Matcher", "EquationDesk$Row", "EquationDesk$Unification", "EquationDesk$Couples", "EquationDesk$Reducer", "EquationDesk$Renaming", "EquationDesk$Completion", "EquationDesk", "EquationDeskModel", "java/util/Arrays", "java/lang/Math", "EquationDeskLaw"]
/-- the methods: name, code, locals, answer, number of the own class, parameters -/
def mmt : List (MethodName × ByteArray × Nat × Option FieldType × Nat × Nat) := [
  (⟨"EquationDesk", "<init>", "()V"⟩, prog_1_method_1_code, 4, none, 10, 0),
  (⟨"EquationDesk$Tank", "<init>", "()V"⟩, prog_10_method_1_code, 1, none, 0, 0),
  (⟨"EquationDesk$Signature", "<init>", "()V"⟩, prog_9_method_1_code, 1, none, 1, 0),
  (⟨"EquationDesk$PathOrder", "<init>", "(LEquationDesk$Signature;)V"⟩, prog_5_method_1_code, 2, none, 2, 1),
  (⟨"EquationDesk$Matcher", "<init>", "(LEquationDesk$Signature;LEquationDesk$Tank;)V"⟩, prog_4_method_1_code, 3, none, 3, 2),
  (⟨"EquationDesk$Unification", "<init>", "(LEquationDesk$Signature;LEquationDesk$Tank;)V"⟩, prog_11_method_1_code, 3, none, 5, 2),
  (⟨"EquationDesk$Row", "<init>", "(I)V"⟩, prog_8_method_1_code, 2, none, 4, 1),
  (⟨"EquationDesk$Reducer", "<init>", "(LEquationDesk$Signature;LEquationDesk$Matcher;)V"⟩, prog_6_method_1_code, 3, none, 7, 2),
  (⟨"EquationDesk$Couples", "<init>", "(I)V"⟩, prog_3_method_1_code, 4, none, 6, 1),
  (⟨"EquationDesk$Renaming", "<init>", "(LEquationDesk$Signature;)V"⟩, prog_7_method_1_code, 2, none, 8, 1),
  (⟨"EquationDesk$Completion", "<init>", "(LEquationDesk$Signature;LEquationDesk$PathOrder;LEquationDesk$Matcher;LEquationDesk$Reducer;LEquationDesk$Unification;LEquationDesk$Renaming;)V"⟩, prog_2_method_1_code, 7, none, 9, 6),
  (⟨"EquationDesk", "symbol", "(IZ)I"⟩, prog_1_method_2_code, 3, (some .int), 10, 2),
  (⟨"EquationDesk$Signature", "define", "(IZ)I"⟩, prog_9_method_2_code, 3, (some .int), 1, 2),
  (⟨"EquationDesk", "variable", "(II)Z"⟩, prog_1_method_3_code, 3, (some .boolean), 10, 2),
  (⟨"EquationDesk", "isPlace", "(I)Z"⟩, prog_1_method_23_code, 1, (some .boolean), 10, 1),
  (⟨"EquationDesk", "isVariable", "(I)Z"⟩, prog_1_method_24_code, 1, (some .boolean), 10, 1),
  (⟨"EquationDesk", "term", "(IIII)Z"⟩, prog_1_method_4_code, 7, (some .boolean), 10, 4),
  (⟨"EquationDesk$Signature", "isDefined", "(I)Z"⟩, prog_9_method_3_code, 2, (some .boolean), 1, 1),
  (⟨"EquationDesk$Signature", "arityOf", "(I)I"⟩, prog_9_method_4_code, 2, (some .int), 1, 1),
  (⟨"EquationDesk$Row", "add", "(I)V"⟩, prog_8_method_2_code, 2, none, 4, 1),
  (⟨"java/util/Arrays", "copyOf", "([II)[I"⟩, prog_17_method_123_code, 3, (some (.array .int)), 12, 2),
  (⟨"EquationDesk$Row", "addAll", "([III)V"⟩, prog_8_method_3_code, 5, none, 4, 3),
  (⟨"EquationDesk", "putBuilt", "(I)Z"⟩, prog_1_method_21_code, 2, (some .boolean), 10, 1),
  (⟨"EquationDesk$Signature", "sort", "([III)V"⟩, prog_9_method_7_code, 11, none, 1, 3),
  (⟨"EquationDesk$Row", "copy", "()[I"⟩, prog_8_method_4_code, 1, (some (.array .int)), 4, 0),
  (⟨"EquationDesk", "size", "(I)I"⟩, prog_1_method_5_code, 2, (some .int), 10, 1),
  (⟨"EquationDesk", "node", "(II)I"⟩, prog_1_method_6_code, 4, (some .int), 10, 2),
  (⟨"EquationDesk", "same", "(II)Z"⟩, prog_1_method_7_code, 3, (some .boolean), 10, 2),
  (⟨"EquationDesk", "areSame", "([I[I)Z"⟩, prog_1_method_25_code, 2, (some .boolean), 10, 2),
  (⟨"EquationDesk", "haveSameNodes", "([II[III)Z"⟩, prog_1_method_26_code, 6, (some .boolean), 10, 5),
  (⟨"EquationDesk", "greater", "(II)Z"⟩, prog_1_method_8_code, 3, (some .boolean), 10, 2),
  (⟨"EquationDesk$PathOrder", "isAbove", "([I[I)Z"⟩, prog_5_method_2_code, 5, (some .boolean), 2, 2),
  (⟨"EquationDesk$PathOrder", "findSeconds", "([I[I)V"⟩, prog_5_method_3_code, 4, none, 2, 2),
  (⟨"EquationDesk$Signature", "end", "([II)I"⟩, prog_9_method_6_code, 5, (some .int), 1, 2),
  (⟨"EquationDesk$PathOrder", "relation", "(IIII)I"⟩, prog_5_method_4_code, 7, (some .int), 2, 4),
  (⟨"EquationDesk$PathOrder", "known", "(II)I"⟩, prog_5_method_5_code, 3, (some .int), 2, 2),
  (⟨"EquationDesk$PathOrder", "haveSameArguments", "(III)Z"⟩, prog_5_method_6_code, 4, (some .boolean), 2, 3),
  (⟨"EquationDesk$PathOrder", "argumentsDecide", "(III)Z"⟩, prog_5_method_7_code, 8, (some .boolean), 2, 3),
  (⟨"EquationDesk$Signature", "isCommutative", "(I)Z"⟩, prog_9_method_5_code, 2, (some .boolean), 1, 1),
  (⟨"EquationDesk", "matches", "(II)I"⟩, prog_1_method_9_code, 3, (some .int), 10, 2),
  (⟨"EquationDesk$Matcher", "findAll", "([I[II)I"⟩, prog_4_method_2_code, 9, (some .int), 3, 3),
  (⟨"EquationDesk$Matcher", "keep", "()V"⟩, prog_4_method_6_code, 2, none, 3, 0),
  (⟨"EquationDesk$Matcher", "turnCrosswise", "()I"⟩, prog_4_method_7_code, 3, (some .int), 3, 0),
  (⟨"EquationDesk$Tank", "take", "(I)Z"⟩, prog_10_method_2_code, 2, (some .boolean), 0, 1),
  (⟨"EquationDesk$Matcher", "takePair", "(III)Z"⟩, prog_4_method_4_code, 7, (some .boolean), 3, 3),
  (⟨"EquationDesk$Matcher", "firstLike", "(II)I"⟩, prog_4_method_5_code, 5, (some .int), 3, 2),
  (⟨"EquationDesk", "match", "(IIIII)Z"⟩, prog_1_method_10_code, 9, (some .boolean), 10, 5),
  (⟨"EquationDesk$Matcher", "boundTo", "(II)I"⟩, prog_4_method_3_code, 4, (some .int), 3, 2),
  (⟨"java/util/Arrays", "copyOfRange", "([III)[I"⟩, prog_17_method_136_code, 3, (some (.array .int)), 12, 3),
  (⟨"java/util/Arrays", "copyOfRangeInt", "([III)[I"⟩, prog_17_method_137_code, 5, (some (.array .int)), 12, 3),
  (⟨"java/util/Arrays", "checkLength", "(II)V"⟩, prog_17_method_131_code, 2, none, 12, 2),
  (⟨"EquationDesk", "unifiers", "(II)I"⟩, prog_1_method_11_code, 3, (some .int), 10, 2),
  (⟨"EquationDesk$Unification", "findAll", "([II[II)I"⟩, prog_11_method_2_code, 7, (some .int), 5, 4),
  (⟨"EquationDesk$Unification", "begin", "([II[II)V"⟩, prog_11_method_4_code, 6, none, 5, 4),
  (⟨"java/util/Arrays", "fill", "([II)V"⟩, prog_17_method_103_code, 4, none, 12, 2),
  (⟨"EquationDesk$Unification", "pushPair", "(II)V"⟩, prog_11_method_5_code, 3, none, 5, 2),
  (⟨"EquationDesk$Unification", "takePair", "()I"⟩, prog_11_method_6_code, 8, (some .int), 5, 0),
  (⟨"EquationDesk$Unification", "withBindings", "(I)I"⟩, prog_11_method_8_code, 8, (some .int), 5, 1),
  (⟨"EquationDesk$Unification", "isBound", "(I)Z"⟩, prog_11_method_9_code, 2, (some .boolean), 5, 1),
  (⟨"EquationDesk$Unification", "rememberChoice", "(II)V"⟩, prog_11_method_10_code, 3, none, 5, 2),
  (⟨"EquationDesk$Unification", "bind", "()I"⟩, prog_11_method_7_code, 4, (some .int), 5, 0),
  (⟨"EquationDesk$Unification", "keep", "()V"⟩, prog_11_method_12_code, 3, none, 5, 0),
  (⟨"EquationDesk$Unification", "isLike", "(I)Z"⟩, prog_11_method_13_code, 6, (some .boolean), 5, 1),
  (⟨"EquationDesk$Unification", "turnCrosswise", "()Z"⟩, prog_11_method_11_code, 4, (some .boolean), 5, 0),
  (⟨"EquationDesk", "unifier", "(IIII)Z"⟩, prog_1_method_12_code, 6, (some .boolean), 10, 4),
  (⟨"EquationDesk$Unification", "append", "(LEquationDesk$Row;[IIIII)V"⟩, prog_11_method_3_code, 10, none, 5, 6),
  (⟨"EquationDesk", "equation", "(II)Z"⟩, prog_1_method_13_code, 3, (some .boolean), 10, 2),
  (⟨"EquationDesk$Renaming", "rename", "([II[II)Z"⟩, prog_7_method_2_code, 5, (some .boolean), 8, 4),
  (⟨"EquationDesk$Renaming", "renamed", "([II)[I"⟩, prog_7_method_3_code, 6, (some (.array .int)), 8, 2),
  (⟨"EquationDesk$Couples", "add", "([I[I)V"⟩, prog_3_method_2_code, 3, none, 6, 2),
  (⟨"EquationDesk", "complete", "(I)I"⟩, prog_1_method_14_code, 5, (some .int), 10, 1),
  (⟨"EquationDesk$Completion", "canGoOn", "()Z"⟩, prog_2_method_2_code, 1, (some .boolean), 9, 0),
  (⟨"EquationDesk$Completion", "step", "()I"⟩, prog_2_method_3_code, 9, (some .int), 9, 0),
  (⟨"EquationDesk$Completion", "lightest", "()I"⟩, prog_2_method_5_code, 4, (some .int), 9, 0),
  (⟨"EquationDesk$Reducer", "normalForm", "([ILEquationDesk$Couples;)[I"⟩, prog_6_method_2_code, 3, (some (.array .int)), 7, 2),
  (⟨"EquationDesk$Reducer", "reduceAt", "(II)Z"⟩, prog_6_method_3_code, 10, (some .boolean), 7, 2),
  (⟨"EquationDesk$Reducer", "rewrite", "([III)Z"⟩, prog_6_method_4_code, 6, (some .boolean), 7, 3),
  (⟨"EquationDesk$Completion", "limit", "()I"⟩, prog_2_method_4_code, 1, (some .int), 9, 0),
  (⟨"EquationDesk$Completion", "draftPairsWithout", "(I)V"⟩, prog_2_method_6_code, 3, none, 9, 1),
  (⟨"EquationDesk$Completion", "takeDraftPairs", "()V"⟩, prog_2_method_7_code, 2, none, 9, 0),
  (⟨"EquationDesk$Completion", "partRules", "([I)Z"⟩, prog_2_method_9_code, 6, (some .boolean), 9, 1),
  (⟨"EquationDesk$Completion", "reduceRights", "()Z"⟩, prog_2_method_10_code, 4, (some .boolean), 9, 0),
  (⟨"EquationDesk$Completion", "overlap", "(II)Z"⟩, prog_2_method_11_code, 8, (some .boolean), 9, 2),
  (⟨"EquationDesk$Completion", "addCriticalPair", "(IIII)Z"⟩, prog_2_method_12_code, 9, (some .boolean), 9, 4),
  (⟨"EquationDesk$Completion", "takeDraftRules", "()V"⟩, prog_2_method_8_code, 2, none, 9, 0),
  (⟨"EquationDesk", "rules", "()I"⟩, prog_1_method_15_code, 1, (some .int), 10, 0),
  (⟨"EquationDesk", "rule", "(IZI)Z"⟩, prog_1_method_16_code, 4, (some .boolean), 10, 3),
  (⟨"EquationDesk", "putFrom", "(LEquationDesk$Couples;IZI)Z"⟩, prog_1_method_22_code, 5, (some .boolean), 10, 4),
  (⟨"EquationDesk", "waiting", "()I"⟩, prog_1_method_17_code, 1, (some .int), 10, 0),
  (⟨"EquationDesk", "pair", "(IZI)Z"⟩, prog_1_method_18_code, 4, (some .boolean), 10, 3),
  (⟨"EquationDesk", "reduce", "(II)Z"⟩, prog_1_method_19_code, 4, (some .boolean), 10, 2),
  (⟨"EquationDesk", "prove", "(II)I"⟩, prog_1_method_20_code, 5, (some .int), 10, 2),
  (⟨"EquationDeskModel", "<init>", "()V"⟩, prog_13_method_1_code, 2, none, 11, 0),
  (⟨"EquationDeskModel", "symbol", "(IZ)I"⟩, prog_13_method_38_code, 3, (some .int), 11, 2),
  (⟨"EquationDeskModel", "variable", "(II)Z"⟩, prog_13_method_39_code, 3, (some .boolean), 11, 2),
  (⟨"EquationDeskModel", "isPlace", "(I)Z"⟩, prog_13_method_37_code, 1, (some .boolean), 11, 1),
  (⟨"EquationDeskModel", "term", "(IIII)Z"⟩, prog_13_method_40_code, 8, (some .boolean), 11, 4),
  (⟨"EquationDeskModel", "build", "(I[I[I)[I"⟩, prog_13_method_9_code, 10, (some (.array .int)), 11, 3),
  (⟨"EquationDeskModel", "compare", "([I[I)I"⟩, prog_13_method_8_code, 6, (some .int), 11, 2),
  (⟨"EquationDeskModel", "isVariable", "(I)Z"⟩, prog_13_method_3_code, 2, (some .boolean), 11, 1),
  (⟨"EquationDeskModel", "size", "(I)I"⟩, prog_13_method_41_code, 2, (some .int), 11, 1),
  (⟨"EquationDeskModel", "node", "(II)I"⟩, prog_13_method_42_code, 3, (some .int), 11, 2),
  (⟨"EquationDeskModel", "same", "(II)Z"⟩, prog_13_method_43_code, 3, (some .boolean), 11, 2),
  (⟨"EquationDeskModel", "alike", "([I[I)Z"⟩, prog_13_method_7_code, 4, (some .boolean), 11, 2),
  (⟨"EquationDeskModel", "greater", "(II)Z"⟩, prog_13_method_44_code, 3, (some .boolean), 11, 2),
  (⟨"EquationDeskModel", "isGreater", "([I[I)Z"⟩, prog_13_method_13_code, 7, (some .boolean), 11, 2),
  (⟨"EquationDeskModel", "part", "([II)[I"⟩, prog_13_method_6_code, 6, (some (.array .int)), 11, 2),
  (⟨"EquationDeskModel", "end", "([II)I"⟩, prog_13_method_5_code, 5, (some .int), 11, 2),
  (⟨"EquationDeskModel", "arityOf", "(I)I"⟩, prog_13_method_4_code, 2, (some .int), 11, 1),
  (⟨"EquationDeskModel", "moreAt", "([I[III[[Z[[Z)Z"⟩, prog_13_method_14_code, 14, (some .boolean), 11, 6),
  (⟨"EquationDeskModel", "occurs", "(I[I)Z"⟩, prog_13_method_12_code, 5, (some .boolean), 11, 2),
  (⟨"EquationDeskModel", "matches", "(II)I"⟩, prog_13_method_45_code, 3, (some .int), 11, 2),
  (⟨"EquationDeskModel", "findMatches", "([I[I)V"⟩, prog_13_method_19_code, 3, none, 11, 2),
  (⟨"EquationDeskModel", "match", "([I[I[II[[I)V"⟩, prog_13_method_18_code, 14, none, 11, 5),
  (⟨"EquationDeskModel", "keep", "([[I)V"⟩, prog_13_method_15_code, 5, none, 11, 1),
  (⟨"EquationDeskModel", "spends", "(I)Z"⟩, prog_13_method_17_code, 2, (some .boolean), 11, 1),
  (⟨"EquationDeskModel", "copy", "([[II)[[I"⟩, prog_13_method_16_code, 4, (some (.array (.array .int))), 11, 2),
  (⟨"EquationDeskModel", "match", "(IIIII)Z"⟩, prog_13_method_46_code, 6, (some .boolean), 11, 5),
  (⟨"EquationDeskModel", "unifiers", "(II)I"⟩, prog_13_method_47_code, 3, (some .int), 11, 2),
  (⟨"EquationDeskModel", "findUnifiers", "([I[I)V"⟩, prog_13_method_23_code, 4, none, 11, 2),
  (⟨"EquationDeskModel", "unify", "([[II[[I)V"⟩, prog_13_method_20_code, 13, none, 11, 3),
  (⟨"EquationDeskModel", "wayEnds", "()V"⟩, prog_13_method_21_code, 1, none, 11, 0),
  (⟨"EquationDeskModel", "with", "([II[[I)[I"⟩, prog_13_method_10_code, 6, (some (.array .int)), 11, 3),
  (⟨"EquationDeskModel", "bind", "(I[I[[II[[I)V"⟩, prog_13_method_22_code, 9, none, 11, 5),
  (⟨"EquationDeskModel", "unifier", "(IIII)Z"⟩, prog_13_method_48_code, 6, (some .boolean), 11, 4),
  (⟨"EquationDeskModel", "equation", "(II)Z"⟩, prog_13_method_49_code, 3, (some .boolean), 11, 2),
  (⟨"EquationDeskModel", "rename", "([I[I)Z"⟩, prog_13_method_29_code, 5, (some .boolean), 11, 2),
  (⟨"EquationDeskModel", "name", "([I)V"⟩, prog_13_method_28_code, 5, none, 11, 1),
  (⟨"EquationDeskModel", "add", "([I[I)V"⟩, prog_13_method_30_code, 3, none, 11, 2),
  (⟨"EquationDeskModel", "complete", "(I)I"⟩, prog_13_method_50_code, 5, (some .int), 11, 1),
  (⟨"EquationDeskModel", "step", "()I"⟩, prog_13_method_35_code, 14, (some .int), 11, 0),
  (⟨"EquationDeskModel", "choose", "()I"⟩, prog_13_method_33_code, 3, (some .int), 11, 0),
  (⟨"EquationDeskModel", "reducedByAll", "([I)[I"⟩, prog_13_method_27_code, 2, (some (.array .int)), 11, 1),
  (⟨"EquationDeskModel", "reduced", "([II[[I[[II)[I"⟩, prog_13_method_25_code, 11, (some (.array .int)), 11, 5),
  (⟨"EquationDeskModel", "rewritten", "([I[[I[[II)[I"⟩, prog_13_method_26_code, 7, (some (.array .int)), 11, 4),
  (⟨"EquationDeskModel", "firstMatch", "([I[I)[[I"⟩, prog_13_method_24_code, 3, (some (.array (.array .int))), 11, 2),
  (⟨"EquationDeskModel", "remove", "(I)V"⟩, prog_13_method_34_code, 3, none, 11, 1),
  (⟨"EquationDeskModel", "join", "([I[I)Z"⟩, prog_13_method_36_code, 7, (some .boolean), 11, 2),
  (⟨"EquationDeskModel", "criticalPairs", "(II)Z"⟩, prog_13_method_32_code, 11, (some .boolean), 11, 2),
  (⟨"EquationDeskModel", "higher", "([I)[I"⟩, prog_13_method_31_code, 4, (some (.array .int)), 11, 1),
  (⟨"EquationDeskModel", "replaced", "([III[I)[I"⟩, prog_13_method_11_code, 7, (some (.array .int)), 11, 4),
  (⟨"EquationDeskModel", "rules", "()I"⟩, prog_13_method_51_code, 1, (some .int), 11, 0),
  (⟨"EquationDeskModel", "rule", "(IZI)Z"⟩, prog_13_method_52_code, 4, (some .boolean), 11, 3),
  (⟨"EquationDeskModel", "waiting", "()I"⟩, prog_13_method_53_code, 1, (some .int), 11, 0),
  (⟨"EquationDeskModel", "pair", "(IZI)Z"⟩, prog_13_method_54_code, 4, (some .boolean), 11, 3),
  (⟨"EquationDeskModel", "reduce", "(II)Z"⟩, prog_13_method_55_code, 4, (some .boolean), 11, 2),
  (⟨"EquationDeskModel", "prove", "(II)I"⟩, prog_13_method_56_code, 5, (some .int), 11, 2)]
/-- field links: own class, entry, class, field -/
def mlF : List (Nat × Nat × Nat × Nat) := [(0, 10, 0, 0), (0, 16, 0, 1), (1, 9, 1, 0), (1, 15, 1, 1), (1, 25, 1, 2), (1, 19, 1, 3), (1, 22, 1, 4), (2, 21, 2, 0), (2, 9, 2, 1), (2, 15, 2, 2), (2, 18, 2, 3), (3, 27, 3, 0), (3, 31, 3, 1), (3, 9, 3, 2), (3, 15, 3, 3), (3, 42, 3, 4), (3, 18, 3, 5), (3, 45, 3, 6), (3, 21, 3, 7), (3, 24, 3, 8), (3, 35, 3, 9), (3, 39, 3, 10), (4, 7, 4, 0), (5, 73, 4, 0), (7, 107, 4, 0), (9, 167, 4, 0), (10, 193, 4, 0), (4, 13, 4, 1), (5, 89, 4, 1), (7, 96, 4, 1), (10, 102, 4, 1), (9, 160, 4, 1), (5, 36, 5, 0), (5, 40, 5, 1), (5, 14, 5, 2), (5, 20, 5, 3), (5, 23, 5, 4), (5, 26, 5, 5), (5, 29, 5, 6), (5, 32, 5, 7), (5, 49, 5, 8), (5, 116, 5, 9), (5, 119, 5, 10), (5, 63, 5, 11), (5, 66, 5, 12), (6, 9, 6, 0), (9, 78, 6, 0), (7, 79, 6, 0), (10, 205, 6, 0), (6, 15, 6, 1), (9, 88, 6, 1), (7, 89, 6, 1), (10, 203, 6, 1), (6, 18, 6, 2), (9, 70, 6, 2), (7, 76, 6, 2), (10, 152, 6, 2), (7, 31, 7, 0), (7, 35, 7, 1), (7, 9, 7, 2), (7, 20, 7, 3), (7, 27, 7, 4), (7, 39, 7, 5), (7, 43, 7, 6), (8, 21, 8, 0), (8, 9, 8, 1), (8, 31, 8, 2), (8, 15, 8, 3), (9, 115, 8, 3), (10, 161, 8, 3), (8, 18, 8, 4), (9, 122, 8, 4), (10, 164, 8, 4), (9, 42, 9, 0), (9, 46, 9, 1), (9, 50, 9, 2), (9, 54, 9, 3), (9, 58, 9, 4), (9, 62, 9, 5), (9, 14, 9, 6), (9, 20, 9, 7), (9, 26, 9, 8), (9, 30, 9, 9), (9, 33, 9, 10), (9, 36, 9, 11), (10, 182, 9, 11), (9, 39, 9, 12), (10, 148, 9, 12), (9, 66, 9, 13), (10, 178, 9, 13), (10, 13, 10, 0), (10, 24, 10, 1), (10, 33, 10, 2), (10, 40, 10, 3), (10, 49, 10, 4), (10, 65, 10, 5), (10, 56, 10, 6), (10, 74, 10, 7), (10, 80, 10, 8), (11, 47, 11, 0), (11, 7, 11, 1), (11, 13, 11, 2), (11, 207, 11, 3), (11, 18, 11, 4), (11, 22, 11, 5), (11, 25, 11, 6), (11, 154, 11, 7), (11, 28, 11, 8), (11, 31, 11, 9), (11, 170, 11, 10), (11, 213, 11, 11), (11, 118, 11, 12), (11, 132, 11, 13), (11, 151, 11, 14), (11, 35, 11, 15), (11, 99, 11, 16), (11, 40, 11, 17), (11, 96, 11, 18), (11, 44, 11, 19), (11, 157, 11, 20), (11, 164, 11, 21), (11, 167, 11, 22)]
/-- class links of new: own class, entry, class -/
def mlN : List (Nat × Nat × Nat) := [(14, 7, 10), (10, 7, 0), (10, 10, 1), (10, 19, 2), (10, 28, 3), (10, 37, 5), (5, 9, 4), (10, 44, 7), (7, 15, 4), (7, 24, 6), (10, 53, 8), (10, 60, 9), (9, 9, 4), (9, 23, 6), (10, 69, 4), (14, 10, 11)]
/-- class links of anewarray: own class, entry, kind of the array that is made (2: int[][], 3: int[][][]); of multianewarray (4: boolean[][]) -/
def mlA : List (Nat × Nat × Nat) := [(6, 7, 2), (10, 78, 2), (12, 317, 2), (11, 17, 2), (11, 39, 3), (11, 82, 4)]
/-- method links: own class, entry, kind (0 virtual, 1 static, 2 constructor, 3 Object's, 4 arraycopy, 5 static of the nest, 6 constructor of the nest, 7 min, 8 clone of an int[]), method -/
def mlM : List (Nat × Nat × Nat × Nat) := [(14, 9, 2, 0), (10, 1, 3, 0), (10, 9, 6, 1), (0, 3, 3, 0), (10, 12, 6, 2), (1, 3, 3, 0), (10, 21, 2, 3), (2, 3, 3, 0), (10, 30, 2, 4), (3, 3, 3, 0), (10, 39, 2, 5), (5, 3, 3, 0), (5, 11, 2, 6), (4, 1, 3, 0), (10, 46, 2, 7), (7, 3, 3, 0), (7, 17, 2, 6), (7, 26, 2, 8), (6, 1, 3, 0), (10, 55, 2, 9), (8, 3, 3, 0), (10, 62, 2, 10), (9, 3, 3, 0), (9, 11, 2, 6), (9, 25, 2, 8), (10, 71, 2, 6), (14, 13, 0, 11), (10, 84, 0, 12), (14, 18, 0, 13), (10, 88, 1, 14), (10, 92, 1, 15), (14, 23, 0, 16), (10, 95, 0, 17), (10, 98, 0, 18), (10, 106, 0, 19), (4, 17, 1, 20), (12, 316, 8, 0), (12, 304, 7, 0), (12, 150, 4, 0), (10, 109, 0, 21), (4, 23, 4, 0), (10, 113, 0, 22), (10, 196, 0, 23), (1, 29, 4, 0), (10, 199, 0, 24), (14, 28, 0, 25), (14, 33, 0, 26), (14, 38, 0, 27), (10, 116, 1, 28), (10, 207, 1, 29), (14, 42, 0, 30), (10, 120, 0, 31), (2, 25, 0, 32), (2, 33, 0, 18), (2, 39, 0, 33), (2, 29, 0, 34), (2, 43, 0, 35), (2, 47, 0, 36), (2, 51, 0, 37), (2, 54, 0, 38), (14, 46, 0, 39), (10, 123, 0, 40), (3, 49, 0, 41), (3, 83, 1, 20), (3, 52, 0, 42), (3, 56, 0, 33), (3, 62, 0, 43), (3, 68, 0, 44), (3, 72, 0, 45), (3, 76, 0, 18), (3, 80, 0, 38), (14, 50, 0, 46), (10, 127, 0, 47), (10, 131, 0, 33), (10, 135, 1, 48), (12, 351, 1, 49), (12, 343, 1, 50), (14, 55, 0, 51), (10, 141, 0, 52), (5, 44, 0, 53), (5, 92, 1, 54), (5, 76, 0, 19), (5, 79, 0, 33), (5, 85, 0, 21), (5, 98, 0, 55), (5, 53, 0, 56), (5, 102, 0, 57), (5, 131, 0, 58), (5, 134, 0, 23), (5, 106, 0, 43), (5, 112, 5, 29), (5, 122, 0, 38), (5, 125, 0, 59), (5, 128, 0, 18), (5, 57, 0, 60), (5, 60, 0, 61), (5, 143, 0, 62), (5, 69, 0, 63), (5, 137, 4, 0), (14, 59, 0, 64), (10, 144, 0, 65), (14, 63, 0, 66), (10, 157, 0, 67), (8, 25, 1, 54), (8, 35, 0, 68), (8, 39, 1, 20), (8, 42, 0, 23), (10, 167, 0, 69), (14, 67, 0, 70), (10, 170, 0, 71), (10, 174, 0, 72), (9, 74, 0, 73), (9, 82, 0, 74), (7, 46, 4, 0), (7, 52, 0, 75), (7, 62, 0, 18), (7, 68, 0, 33), (7, 72, 0, 23), (7, 83, 0, 40), (7, 92, 0, 76), (7, 97, 0, 47), (7, 101, 0, 19), (7, 104, 0, 21), (7, 56, 1, 20), (9, 91, 0, 77), (9, 94, 0, 78), (9, 124, 0, 69), (9, 97, 5, 28), (9, 101, 0, 79), (9, 104, 0, 31), (9, 109, 0, 67), (9, 118, 0, 80), (9, 139, 0, 33), (9, 145, 0, 40), (9, 128, 0, 81), (9, 132, 0, 82), (9, 151, 0, 52), (9, 156, 0, 83), (9, 163, 0, 65), (9, 170, 0, 23), (9, 136, 0, 84), (14, 71, 0, 85), (14, 76, 0, 86), (10, 185, 0, 87), (14, 81, 0, 88), (14, 85, 0, 89), (14, 89, 0, 90), (10, 189, 0, 74), (14, 93, 0, 91), (14, 12, 2, 92), (11, 1, 3, 0), (14, 17, 0, 93), (14, 22, 0, 94), (11, 210, 1, 95), (14, 27, 0, 96), (11, 74, 0, 97), (11, 62, 0, 98), (11, 50, 0, 99), (14, 32, 0, 100), (14, 37, 0, 101), (14, 41, 0, 102), (11, 84, 1, 103), (14, 45, 0, 104), (11, 197, 0, 105), (11, 66, 0, 106), (11, 58, 0, 107), (11, 54, 0, 108), (11, 88, 0, 109), (11, 92, 0, 110), (14, 49, 0, 111), (11, 135, 0, 112), (11, 114, 0, 113), (11, 103, 0, 114), (11, 107, 0, 115), (11, 110, 1, 116), (14, 54, 0, 117), (14, 58, 0, 118), (11, 177, 0, 119), (11, 124, 0, 120), (11, 121, 0, 121), (11, 70, 0, 122), (11, 128, 0, 123), (14, 62, 0, 124), (14, 66, 0, 125), (11, 180, 0, 126), (11, 160, 0, 127), (11, 183, 0, 128), (14, 70, 0, 129), (11, 216, 0, 130), (11, 186, 0, 131), (11, 190, 0, 132), (11, 139, 0, 133), (11, 143, 0, 134), (11, 147, 0, 135), (11, 193, 0, 136), (11, 200, 0, 137), (11, 203, 0, 138), (11, 173, 0, 139), (11, 78, 0, 140), (14, 75, 0, 141), (14, 80, 0, 142), (14, 84, 0, 143), (14, 88, 0, 144), (14, 92, 0, 145), (14, 96, 0, 146)]
/-- constants: own class, entry, value -/
def mlC : List (Nat × Nat × Int32) := [(0, 9, 120000), (3, 48, 1000000), (5, 48, 1000000), (11, 34, 120000)]
end
section
/-! THE SMALL MACHINE: ints and references to numbered cells; a cell is a kind and its contents (0 int[], 1 boolean[], 2 int[][], 3 int[][][], 4 boolean[][], 10 + k an object of class k) -/
abbrev MV : Type := Int32 ⊕ Option Nat
abbrev MC : Type := Nat × List MV
abbrev MS : Type := Nat × List (Option MV) × List MV × List MC
def mk2 {β : Type} (l : List (Nat × Nat × β)) (o i : Nat) : Option β := (l.find? fun e => e.1 == o && e.2.1 == i).map (·.2.2)
/-- what a field or a place of a type may hold -/
def mfit (ty : FieldType) (v : MV) : Bool := match ty, v with
  | .int, .inl _ => true
  | .boolean, .inl x => x == 0 || x == 1
  | .object _, .inr _ => true
  | .array _, .inr _ => true
  | _, _ => false
/-- what a new field or place holds -/
def mdef (ty : FieldType) : MV := match ty with
  | .object _ => .inr none
  | .array _ => .inr none
  | _ => .inl 0
def mjmp (pc : Nat) (off : Int) : Option Nat := if 0 ≤ (pc : Int) + off then some ((pc : Int) + off).toNat else none
def mcmp (c : Jvm.ClassFile.Cond) (x y : Int32) : Bool := match c with
  | .eq => x == y
  | .ne => !(x == y)
  | .lt => decide (x < y)
  | .ge => decide (y ≤ x)
  | .gt => decide (y < x)
  | .le => decide (x ≤ y)
/-- the kind of what a place of an array of references holds -/
def melt : Nat → Nat
  | 2 => 0
  | 3 => 2
  | 4 => 1
  | _ => 99
/-- the place of an index within -/
def mix (i : Int32) (n : Nat) : Option Nat := if i < 0 then none else if i.toNatClampNeg < n then some i.toNatClampNeg else none
def mslots : List MC → Nat
  | [] => 0
  | c :: h => c.2.length + mslots h
def mld (ml : List (Option MV)) (k : Nat) : Option MV := match ml[k]? with
  | some (some v) => some v
  | _ => none
def mint (v : Option MV) : Option Int32 := match v with
  | some (.inl x) => some x
  | _ => none
def mref (v : Option MV) : Option (Option Nat) := match v with
  | some (.inr x) => some x
  | _ => none
/-! one instruction that neither calls nor returns -/
/-- new boolean[N][K], from the cell n0 on -/
def mgrid (n0 N K : Nat) : List MC := (4, (List.range N).map fun i => .inr (some (n0 + 1 + i))) :: List.replicate N (1, List.replicate K (.inl 0))
def k_multianewarray (i : Nat) (dm : Nat) (lA : Nat → Option Nat) (len : Nat) (pc : Nat) (ml : List (Option MV)) (st : List MV) (h : List MC) : Option MS := match st, lA i with
    | .inl k :: .inl n :: st, some 4 => if len = 4 ∧ dm = 2 ∧ ¬ n < 0 ∧ ¬ k < 0 ∧ n.toNatClampNeg ≤ 1000 ∧ k.toNatClampNeg ≤ 1000 then some (pc + 4, ml, .inr (some h.length) :: st, h ++ mgrid h.length n.toNatClampNeg k.toNatClampNeg) else none
    | _, _ => none
def k_aconst_null (len : Nat) (pc : Nat) (ml : List (Option MV)) (st : List MV) (h : List MC) : Option MS := if len = 1 then some (pc + 1, ml, .inr none :: st, h) else none
def k_iconst (i : Int) (len : Nat) (pc : Nat) (ml : List (Option MV)) (st : List MV) (h : List MC) : Option MS := if len = 1 then some (pc + 1, ml, .inl (Int32.ofInt i) :: st, h) else none
def k_bipush (i : Int) (len : Nat) (pc : Nat) (ml : List (Option MV)) (st : List MV) (h : List MC) : Option MS := if len = 2 then some (pc + 2, ml, .inl (Int8.ofInt i).toInt32 :: st, h) else none
def k_sipush (i : Int) (len : Nat) (pc : Nat) (ml : List (Option MV)) (st : List MV) (h : List MC) : Option MS := if len = 3 then some (pc + 3, ml, .inl (Int16.ofInt i).toInt32 :: st, h) else none
def k_ldc (i : Nat) (lC : Nat → Option Int32) (len : Nat) (pc : Nat) (ml : List (Option MV)) (st : List MV) (h : List MC) : Option MS := if len = 2 then (lC i).map fun v => (pc + 2, ml, .inl v :: st, h) else none
def k_iload (k : Nat) (len : Nat) (pc : Nat) (ml : List (Option MV)) (st : List MV) (h : List MC) : Option MS := if len = 2 then (mint (mld ml k)).map fun x => (pc + 2, ml, .inl x :: st, h) else none
def k_iload_n (k : Fin 4) (len : Nat) (pc : Nat) (ml : List (Option MV)) (st : List MV) (h : List MC) : Option MS := if len = 1 then (mint (mld ml k.val)).map fun x => (pc + 1, ml, .inl x :: st, h) else none
def k_aload (k : Nat) (len : Nat) (pc : Nat) (ml : List (Option MV)) (st : List MV) (h : List MC) : Option MS := if len = 2 then (mref (mld ml k)).map fun x => (pc + 2, ml, .inr x :: st, h) else none
def k_aload_n (k : Fin 4) (len : Nat) (pc : Nat) (ml : List (Option MV)) (st : List MV) (h : List MC) : Option MS := if len = 1 then (mref (mld ml k.val)).map fun x => (pc + 1, ml, .inr x :: st, h) else none
def k_istore (k : Nat) (len : Nat) (pc : Nat) (ml : List (Option MV)) (st : List MV) (h : List MC) : Option MS := match st with
    | .inl x :: st => if len = 2 ∧ k < ml.length then some (pc + 2, ml.set k (some (.inl x)), st, h) else none
    | _ => none
def k_istore_n (k : Fin 4) (len : Nat) (pc : Nat) (ml : List (Option MV)) (st : List MV) (h : List MC) : Option MS := match st with
    | .inl x :: st => if len = 1 ∧ k.val < ml.length then some (pc + 1, ml.set k.val (some (.inl x)), st, h) else none
    | _ => none
def k_astore (k : Nat) (len : Nat) (pc : Nat) (ml : List (Option MV)) (st : List MV) (h : List MC) : Option MS := match st with
    | .inr x :: st => if len = 2 ∧ k < ml.length then some (pc + 2, ml.set k (some (.inr x)), st, h) else none
    | _ => none
def k_astore_n (k : Fin 4) (len : Nat) (pc : Nat) (ml : List (Option MV)) (st : List MV) (h : List MC) : Option MS := match st with
    | .inr x :: st => if len = 1 ∧ k.val < ml.length then some (pc + 1, ml.set k.val (some (.inr x)), st, h) else none
    | _ => none
def k_iinc (k : Nat) (n : Int) (len : Nat) (pc : Nat) (ml : List (Option MV)) (st : List MV) (h : List MC) : Option MS := if len = 3 ∧ k < ml.length then (mint (mld ml k)).map fun x => (pc + 3, ml.set k (some (.inl (x + Int32.ofInt n))), st, h) else none
def k_iadd (len : Nat) (pc : Nat) (ml : List (Option MV)) (st : List MV) (h : List MC) : Option MS := match st with
    | .inl y :: .inl x :: st => if len = 1 then some (pc + 1, ml, .inl (x + y) :: st, h) else none
    | _ => none
def k_isub (len : Nat) (pc : Nat) (ml : List (Option MV)) (st : List MV) (h : List MC) : Option MS := match st with
    | .inl y :: .inl x :: st => if len = 1 then some (pc + 1, ml, .inl (x - y) :: st, h) else none
    | _ => none
def k_imul (len : Nat) (pc : Nat) (ml : List (Option MV)) (st : List MV) (h : List MC) : Option MS := match st with
    | .inl y :: .inl x :: st => if len = 1 then some (pc + 1, ml, .inl (x * y) :: st, h) else none
    | _ => none
def k_iand (len : Nat) (pc : Nat) (ml : List (Option MV)) (st : List MV) (h : List MC) : Option MS := match st with
    | .inl y :: .inl x :: st => if len = 1 then some (pc + 1, ml, .inl (x &&& y) :: st, h) else none
    | _ => none
def k_ior (len : Nat) (pc : Nat) (ml : List (Option MV)) (st : List MV) (h : List MC) : Option MS := match st with
    | .inl y :: .inl x :: st => if len = 1 then some (pc + 1, ml, .inl (x ||| y) :: st, h) else none
    | _ => none
def k_ishl (len : Nat) (pc : Nat) (ml : List (Option MV)) (st : List MV) (h : List MC) : Option MS := match st with
    | .inl y :: .inl x :: st => if len = 1 then some (pc + 1, ml, .inl (x <<< (y &&& 31)) :: st, h) else none
    | _ => none
def k_ishr (len : Nat) (pc : Nat) (ml : List (Option MV)) (st : List MV) (h : List MC) : Option MS := match st with
    | .inl y :: .inl x :: st => if len = 1 then some (pc + 1, ml, .inl (x >>> (y &&& 31)) :: st, h) else none
    | _ => none
def k_dup (len : Nat) (pc : Nat) (ml : List (Option MV)) (st : List MV) (h : List MC) : Option MS := match st with
    | v :: st => if len = 1 then some (pc + 1, ml, v :: v :: st, h) else none
    | _ => none
def k_pop (len : Nat) (pc : Nat) (ml : List (Option MV)) (st : List MV) (h : List MC) : Option MS := match st with
    | _ :: st => if len = 1 then some (pc + 1, ml, st, h) else none
    | _ => none
def k_goto (off : Int) (len : Nat) (pc : Nat) (ml : List (Option MV)) (st : List MV) (h : List MC) : Option MS := if len = 3 then (mjmp pc off).map fun t => (t, ml, st, h) else none
def k_ifCond (cnd : Jvm.ClassFile.Cond) (off : Int) (len : Nat) (pc : Nat) (ml : List (Option MV)) (st : List MV) (h : List MC) : Option MS := match st with
    | .inl x :: st => if len = 3 then (mjmp pc off).map fun t => (if mcmp cnd x 0 then t else pc + 3, ml, st, h) else none
    | _ => none
def k_if_icmp (cnd : Jvm.ClassFile.Cond) (off : Int) (len : Nat) (pc : Nat) (ml : List (Option MV)) (st : List MV) (h : List MC) : Option MS := match st with
    | .inl y :: .inl x :: st => if len = 3 then (mjmp pc off).map fun t => (if mcmp cnd x y then t else pc + 3, ml, st, h) else none
    | _ => none
def k_ifnull (off : Int) (len : Nat) (pc : Nat) (ml : List (Option MV)) (st : List MV) (h : List MC) : Option MS := match st with
    | .inr none :: st => if len = 3 then (mjmp pc off).map fun t => (t, ml, st, h) else none
    | .inr (some _) :: st => if len = 3 then some (pc + 3, ml, st, h) else none
    | _ => none
def k_ifnonnull (off : Int) (len : Nat) (pc : Nat) (ml : List (Option MV)) (st : List MV) (h : List MC) : Option MS := match st with
    | .inr (some _) :: st => if len = 3 then (mjmp pc off).map fun t => (t, ml, st, h) else none
    | .inr none :: st => if len = 3 then some (pc + 3, ml, st, h) else none
    | _ => none
def k_getfield (i : Nat) (lF : Nat → Option (Nat × Nat)) (len : Nat) (pc : Nat) (ml : List (Option MV)) (st : List MV) (h : List MC) : Option MS := match st with
    | .inr (some a) :: st => match lF i, h[a]? with
      | some (ci, k), some (t, vs) => if len = 3 ∧ t = 10 + ci then (vs[k]?).map fun v => (pc + 3, ml, v :: st, h) else none
      | _, _ => none
    | _ => none
def k_putfield (i : Nat) (lF : Nat → Option (Nat × Nat)) (own : Nat) (ini : Bool) (len : Nat) (pc : Nat) (ml : List (Option MV)) (st : List MV) (h : List MC) : Option MS := match st with
    | v :: .inr (some a) :: st => match lF i, h[a]? with
      | some (ci, k), some (t, vs) => match mcl[ci]?, (mty.getD ci [])[k]? with
        | some q, some ty => if len = 3 ∧ t = 10 + ci ∧ k < vs.length ∧ k < q.2.2 ∧ mfit ty v = true ∧ ((q.2.1 k).2.2.2 = true → ini = true ∧ own = ci) then some (pc + 3, ml, st, h.set a (t, vs.set k v)) else none
        | _, _ => none
      | _, _ => none
    | _ => none
def k_iaload (len : Nat) (pc : Nat) (ml : List (Option MV)) (st : List MV) (h : List MC) : Option MS := match st with
    | .inl i :: .inr (some a) :: st => match h[a]? with
      | some (0, vs) => if len = 1 then (mint ((mix i vs.length).bind fun j => vs[j]?)).map fun x => (pc + 1, ml, .inl x :: st, h) else none
      | _ => none
    | _ => none
def k_baload (len : Nat) (pc : Nat) (ml : List (Option MV)) (st : List MV) (h : List MC) : Option MS := match st with
    | .inl i :: .inr (some a) :: st => match h[a]? with
      | some (1, vs) => if len = 1 then (mint ((mix i vs.length).bind fun j => vs[j]?)).map fun x => (pc + 1, ml, .inl x :: st, h) else none
      | _ => none
    | _ => none
def k_aaload (len : Nat) (pc : Nat) (ml : List (Option MV)) (st : List MV) (h : List MC) : Option MS := match st with
    | .inl i :: .inr (some a) :: st => match h[a]? with
      | some (t, vs) => if len = 1 ∧ (t = 2 ∨ t = 3 ∨ t = 4) then (mref ((mix i vs.length).bind fun j => vs[j]?)).map fun x => (pc + 1, ml, .inr x :: st, h) else none
      | _ => none
    | _ => none
def k_iastore (len : Nat) (pc : Nat) (ml : List (Option MV)) (st : List MV) (h : List MC) : Option MS := match st with
    | .inl x :: .inl i :: .inr (some a) :: st => match h[a]? with
      | some (0, vs) => if len = 1 then (mix i vs.length).map fun j => (pc + 1, ml, st, h.set a (0, vs.set j (.inl x))) else none
      | _ => none
    | _ => none
def k_bastore (len : Nat) (pc : Nat) (ml : List (Option MV)) (st : List MV) (h : List MC) : Option MS := match st with
    | .inl x :: .inl i :: .inr (some a) :: st => match h[a]? with
      | some (1, vs) => if len = 1 ∧ (x = 0 ∨ x = 1) then (mix i vs.length).map fun j => (pc + 1, ml, st, h.set a (1, vs.set j (.inl x))) else none
      | _ => none
    | _ => none
def k_aastore (len : Nat) (pc : Nat) (ml : List (Option MV)) (st : List MV) (h : List MC) : Option MS := match st with
    | .inr (some b) :: .inl i :: .inr (some a) :: st => match h[a]?, h[b]? with
      | some (t, vs), some (u, _) => if len = 1 ∧ (t = 2 ∨ t = 3 ∨ t = 4) ∧ u = melt t then (mix i vs.length).map fun j => (pc + 1, ml, st, h.set a (t, vs.set j (.inr (some b)))) else none
      | _, _ => none
    | .inr none :: .inl i :: .inr (some a) :: st => match h[a]? with
      | some (t, vs) => if len = 1 ∧ (t = 2 ∨ t = 3 ∨ t = 4) then (mix i vs.length).map fun j => (pc + 1, ml, st, h.set a (t, vs.set j (.inr none))) else none
      | _ => none
    | _ => none
def k_arraylength (len : Nat) (pc : Nat) (ml : List (Option MV)) (st : List MV) (h : List MC) : Option MS := match st with
    | .inr (some a) :: st => match h[a]? with
      | some (t, vs) => if len = 1 ∧ t < 5 then some (pc + 1, ml, .inl (Int32.ofNat vs.length) :: st, h) else none
      | _ => none
    | _ => none
def k_new (i : Nat) (lN : Nat → Option Nat) (len : Nat) (pc : Nat) (ml : List (Option MV)) (st : List MV) (h : List MC) : Option MS := match lN i with
    | some ci => if len = 3 then some (pc + 3, ml, .inr (some h.length) :: st, h ++ [(10 + ci, (mty.getD ci []).map mdef)]) else none
    | _ => none
def k_newarray (ty : ArrayType) (len : Nat) (pc : Nat) (ml : List (Option MV)) (st : List MV) (h : List MC) : Option MS := match st with
    | .inl n :: st => if len = 2 ∧ ¬ n < 0 ∧ n.toNatClampNeg ≤ 100000 then (match ty with
      | .int => some (pc + 2, ml, .inr (some h.length) :: st, h ++ [(0, List.replicate n.toNatClampNeg (.inl 0))])
      | .boolean => some (pc + 2, ml, .inr (some h.length) :: st, h ++ [(1, List.replicate n.toNatClampNeg (.inl 0))])
      | _ => none) else none
    | _ => none
def k_anewarray (i : Nat) (lA : Nat → Option Nat) (len : Nat) (pc : Nat) (ml : List (Option MV)) (st : List MV) (h : List MC) : Option MS := match st, lA i with
    | .inl n :: st, some t => if len = 3 ∧ ¬ n < 0 ∧ n.toNatClampNeg ≤ 100000 ∧ (t = 2 ∨ t = 3) then some (pc + 3, ml, .inr (some h.length) :: st, h ++ [(t, List.replicate n.toNatClampNeg (.inr none))]) else none
    | _, _ => none
def mpsG (lF : Nat → Option (Nat × Nat)) (lN lA : Nat → Option Nat) (lC : Nat → Option Int32) (own : Nat) (ini : Bool) (ig : Instr) (len pc : Nat) (ml : List (Option MV)) (st : List MV) (h : List MC) : Option MS :=
  match ig with
  | .aconst_null => k_aconst_null len pc ml st h
  | .iconst i => k_iconst i len pc ml st h
  | .bipush i => k_bipush i len pc ml st h
  | .sipush i => k_sipush i len pc ml st h
  | .ldc i => k_ldc i lC len pc ml st h
  | .iload k => k_iload k len pc ml st h
  | .iload_n k => k_iload_n k len pc ml st h
  | .aload k => k_aload k len pc ml st h
  | .aload_n k => k_aload_n k len pc ml st h
  | .istore k => k_istore k len pc ml st h
  | .istore_n k => k_istore_n k len pc ml st h
  | .astore k => k_astore k len pc ml st h
  | .astore_n k => k_astore_n k len pc ml st h
  | .iinc k n => k_iinc k n len pc ml st h
  | .iadd => k_iadd len pc ml st h
  | .isub => k_isub len pc ml st h
  | .imul => k_imul len pc ml st h
  | .iand => k_iand len pc ml st h
  | .ior => k_ior len pc ml st h
  | .ishl => k_ishl len pc ml st h
  | .ishr => k_ishr len pc ml st h
  | .dup => k_dup len pc ml st h
  | .pop => k_pop len pc ml st h
  | .goto off => k_goto off len pc ml st h
  | .ifCond cnd off => k_ifCond cnd off len pc ml st h
  | .if_icmp cnd off => k_if_icmp cnd off len pc ml st h
  | .ifnull off => k_ifnull off len pc ml st h
  | .ifnonnull off => k_ifnonnull off len pc ml st h
  | .getfield i => k_getfield i lF len pc ml st h
  | .putfield i => k_putfield i lF own ini len pc ml st h
  | .iaload => k_iaload len pc ml st h
  | .baload => k_baload len pc ml st h
  | .aaload => k_aaload len pc ml st h
  | .iastore => k_iastore len pc ml st h
  | .bastore => k_bastore len pc ml st h
  | .aastore => k_aastore len pc ml st h
  | .arraylength => k_arraylength len pc ml st h
  | .new i => k_new i lN len pc ml st h
  | .newarray ty => k_newarray ty len pc ml st h
  | .anewarray i => k_anewarray i lA len pc ml st h
  | .multianewarray i dm => k_multianewarray i dm lA len pc ml st h
  | _ => none
def mps (own : Nat) (ini : Bool) (ig : Instr) (len pc : Nat) (ml : List (Option MV)) (st : List MV) (h : List MC) : Option MS := mpsG (mk2 mlF own) (mk2 mlN own) (mk2 mlA own) (mk2 mlC own) own ini ig len pc ml st h
end
section
/-! HOW A CELL OF THE SMALL MACHINE LIES IN THE HEAP: ads are the addresses, by number -/
def vr (ads : List Nat) (v : MV) (x : Value) : Prop := match v with
  | .inl i => x = .int i
  | .inr none => x = .null
  | .inr (some a) => ∃ q : Nat, ads[a]? = some q ∧ x = .ref q
def vrs (ads : List Nat) : List MV → List Value → Prop
  | [], [] => True
  | v :: vs, x :: xs => vr ads v x ∧ vrs ads vs xs
  | [], _ :: _ => False
  | _ :: _, [] => False
theorem vr_mono {ads l : List Nat} {v : MV} {x : Value} (h : vr ads v x) : vr (ads ++ l) v x := by
  match v, h with
  | .inl i, h => exact h
  | .inr none, h => exact h
  | .inr (some a), ⟨q, h1, h2⟩ => exact ⟨q, by rw [List.getElem?_append_left (List.getElem?_eq_some_iff.mp h1).1]; exact h1, h2⟩
theorem vrs_mono {ads l : List Nat} : ∀ {vs : List MV} {xs : List Value}, vrs ads vs xs → vrs (ads ++ l) vs xs
  | [], [], _ => trivial
  | _ :: _, _ :: _, h => ⟨vr_mono h.1, vrs_mono h.2⟩
  | [], _ :: _, h => h.elim
  | _ :: _, [], h => h.elim
theorem vrs_len {ads : List Nat} : ∀ {vs : List MV} {xs : List Value}, vrs ads vs xs → xs.length = vs.length
  | [], [], _ => rfl
  | _ :: _, _ :: _, h => by simp [vrs_len h.2]
  | [], _ :: _, h => h.elim
  | _ :: _, [], h => h.elim
theorem vrs_get {ads : List Nat} : ∀ {vs : List MV} {xs : List Value} {k : Nat} {v : MV}, vrs ads vs xs → vs[k]? = some v → ∃ x, xs[k]? = some x ∧ vr ads v x
  | [], [], _, _, _, h => by simp at h
  | _ :: _, x :: _, 0, _, hr, h => by simp at h; subst h; exact ⟨x, rfl, hr.1⟩
  | _ :: _, _ :: _, k + 1, _, hr, h => by simp at h; simpa using vrs_get hr.2 h
  | [], _ :: _, _, _, h, _ => h.elim
  | _ :: _, [], _, _, h, _ => h.elim
theorem vrs_set {ads : List Nat} : ∀ {vs : List MV} {xs : List Value} {k : Nat} {v : MV} {x : Value}, vrs ads vs xs → vr ads v x → vrs ads (vs.set k v) (xs.set k x)
  | [], [], _, _, _, _, _ => by simp [vrs]
  | _ :: _, _ :: _, 0, _, _, hr, h => ⟨h, hr.2⟩
  | _ :: _, _ :: _, k + 1, _, _, hr, h => ⟨hr.1, vrs_set hr.2 h⟩
  | [], _ :: _, _, _, _, h, _ => h.elim
  | _ :: _, [], _, _, _, h, _ => h.elim
theorem vrs_app {ads : List Nat} : ∀ {vs ws : List MV} {xs ys : List Value}, vrs ads vs xs → vrs ads ws ys → vrs ads (vs ++ ws) (xs ++ ys)
  | [], _, [], _, _, h => h
  | _ :: _, _, _ :: _, _, h, h2 => ⟨h.1, vrs_app h.2 h2⟩
  | [], _, _ :: _, _, h, _ => h.elim
  | _ :: _, _, [], _, h, _ => h.elim
theorem vrs_rev {ads : List Nat} : ∀ {vs : List MV} {xs : List Value}, vrs ads vs xs → vrs ads vs.reverse xs.reverse
  | [], [], _ => trivial
  | _ :: _, _ :: _, h => by simp only [List.reverse_cons]; exact vrs_app (vrs_rev h.2) ⟨h.1, trivial⟩
  | [], _ :: _, h => h.elim
  | _ :: _, [], h => h.elim
theorem vrs_split {ads : List Nat} (k : Nat) {vs : List MV} {xs : List Value} (h : vrs ads vs xs) : vrs ads (vs.take k) (xs.take k) ∧ vrs ads (vs.drop k) (xs.drop k) := by
  induction k generalizing vs xs with
  | zero => exact ⟨by simp [vrs], by simpa using h⟩
  | succ k ih => match vs, xs, h with
    | [], [], _ => exact ⟨by simp [vrs], by simp [vrs]⟩
    | _ :: _, _ :: _, h => exact ⟨⟨h.1, (ih h.2).1⟩, (ih h.2).2⟩
theorem vr_cat {ads : List Nat} {v : MV} {x : Value} (h : vr ads v x) : x.category = 1 := by
  match v, h with
  | .inl i, h => rw [h]; rfl
  | .inr none, h => rw [h]; rfl
  | .inr (some a), ⟨q, _, h2⟩ => rw [h2]; rfl
theorem vrs_cat {ads : List Nat} : ∀ {vs : List MV} {xs : List Value}, vrs ads vs xs → (xs.map fun v => v.category).sum = vs.length
  | [], [], _ => rfl
  | _ :: _, _ :: _, h => by simp [vr_cat h.1, vrs_cat h.2]; omega
  | [], _ :: _, h => h.elim
  | _ :: _, [], h => h.elim
/-- an array of references -/
def ecR (ads : List Nat) (tys : List (ClassId × FieldType)) (ty : FieldType) (vs : List MV) (e : va_E) : Prop :=
  ∃ (cA : ClassId) (f : Nat → Option Nat) (t0 : Nat), e = .inl (cA, vs.length, .inr (.inr (.inr (.inr f)))) ∧ tys[t0]? = some (cA, ty) ∧ ∀ (j : Nat) (v : MV), vs[j]? = some v → vr ads v (va_rf (f j)) ∧ ∃ o, v = .inr o
/-- an array of ints or booleans -/
def ecI (tys : List (ClassId × FieldType)) (ty : FieldType) (vs : List MV) (e : va_E) : Prop :=
  ∃ (cA : ClassId) (f : Nat → Int32) (t0 : Nat), e = .inl (cA, vs.length, .inl f) ∧ tys[t0]? = some (cA, ty) ∧ ∀ (j : Nat) (v : MV), vs[j]? = some v → v = .inl (f j)
def ecO (ads : List Nat) (k : Nat) (vs : List MV) (e : va_E) : Prop := ∃ fs : List Value, e = .inr (k, fs) ∧ vrs ads vs fs
def mtag (t : Nat) : FieldType := if t = 2 then .array .int else if t = 3 then .array (.array .int) else .array .boolean
def ec (ads : List Nat) (tys : List (ClassId × FieldType)) (c : MC) (e : va_E) : Prop :=
  (c.1 = 0 ∧ ecI tys .int c.2 e) ∨ (c.1 = 1 ∧ ecI tys .boolean c.2 e) ∨ ((c.1 = 2 ∨ c.1 = 3 ∨ c.1 = 4) ∧ ecR ads tys (mtag c.1) c.2 e) ∨ (10 ≤ c.1 ∧ ecO ads (c.1 - 10) c.2 e)
theorem ec_mono {ads l : List Nat} {tys ts : List (ClassId × FieldType)} {c : MC} {e : va_E} (h : ec ads tys c e) : ec (ads ++ l) (tys ++ ts) c e := by
  have ap : ∀ {t0 : Nat} {q : ClassId × FieldType}, tys[t0]? = some q → (tys ++ ts)[t0]? = some q := fun h => by rw [List.getElem?_append_left (List.getElem?_eq_some_iff.mp h).1]; exact h
  rcases h with ⟨h0, cA, f, t0, h1, h2, h3⟩ | ⟨h0, cA, f, t0, h1, h2, h3⟩ | ⟨h0, cA, f, t0, h1, h2, h3⟩ | ⟨h0, fs, h1, h2⟩
  · exact Or.inl ⟨h0, cA, f, t0, h1, ap h2, h3⟩
  · exact Or.inr (Or.inl ⟨h0, cA, f, t0, h1, ap h2, h3⟩)
  · exact Or.inr (Or.inr (Or.inl ⟨h0, cA, f, t0, h1, ap h2, fun j v hj => ⟨vr_mono (h3 j v hj).1, (h3 j v hj).2⟩⟩))
  · exact Or.inr (Or.inr (Or.inr ⟨h0, fs, h1, vrs_mono h2⟩))
/-- what is known of an array's class whose places hold arrays -/
def rk (s : State) (cA : ClassId) (ty : FieldType) : Prop := match ty with
  | .array t => ∃ (kA kc : Class) (comp : ClassId), s.vm.classes[cA]? = some kA ∧ kA.kind = .array comp (.array t) ∧ s.vm.findClass (FieldType.array t).toString = some comp ∧ s.vm.classes[comp]? = some kc
  | _ => True
theorem rk_moved {u U : State} (hvm : u.vm.Alike U.vm) {cA : ClassId} {ty : FieldType} (h : rk u cA ty) : rk U cA ty := by
  cases ty with
  | array t =>
    obtain ⟨kA, kc, comp, h1, h2, h3, h4⟩ := h
    obtain ⟨k', hk', he⟩ := hvm.2.2 _ _ h1
    obtain ⟨k2, hk2, -⟩ := hvm.2.2 _ _ h4
    exact ⟨k', k2, comp, hk', by rw [he]; exact h2, by rw [hvm.findClass]; exact h3, hk2⟩
  | _ => trivial
def Wd (D : va_G) (A : Nat → Prop) (s : State) (H : Heap) (ads : List Nat) (h : List MC) : Prop :=
  ∃ (ws : va_W) (tys : List (ClassId × FieldType)), ws.map (·.1) = ads ∧ h.length = ws.length ∧ (∀ (a : Nat) (c : MC) (q : Nat × va_E), h[a]? = some c → ws[a]? = some q → ec ads tys c q.2) ∧ va_P D mcl ws H ∧ va_D A ws ∧ va_K D mcl tys s ∧ ∀ (k : Nat) (q : ClassId × FieldType), tys[k]? = some q → rk s q.1 q.2
theorem Wd_moved {D : va_G} {A : Nat → Prop} {u U : State} {H : Heap} {ads : List Nat} {h : List MC} (hvm : u.vm.Alike U.vm) (w : Wd D A u H ads h) : Wd D A U H ads h := by
  obtain ⟨ws, tys, h1, h2, h3, h4, h5, h6, h7⟩ := w
  exact ⟨ws, tys, h1, h2, h3, h4, h5, va_K.moved hvm h6, fun k q hq => rk_moved hvm (h7 k q hq)⟩
def Lr (ads : List Nat) (ml : List (Option MV)) (ls : Array Slot) (nL : Nat) : Prop :=
  ml.length = nL ∧ ls.size = nL ∧ lv_wf ls ∧ ∀ (i : Nat) (v : MV), ml[i]? = some (some v) → ∃ x, vr ads v x ∧ ls[i]? = some (.val x)
theorem Lr_mono {ads l : List Nat} {ml : List (Option MV)} {ls : Array Slot} {nL : Nat} (h : Lr ads ml ls nL) : Lr (ads ++ l) ml ls nL :=
  ⟨h.1, h.2.1, h.2.2.1, fun i v hv => let ⟨x, h1, h2⟩ := h.2.2.2 i v hv; ⟨x, vr_mono h1, h2⟩⟩
theorem mslots_app (h : List MC) (c : MC) : mslots (h ++ [c]) = mslots h + c.2.length := by
  induction h with
  | nil => simp [mslots]
  | cons x h ih => simp [mslots, ih]; omega
theorem mslots_set {h : List MC} {a : Nat} {c c' : MC} (hc : h[a]? = some c) (hl : c'.2.length = c.2.length) : mslots (h.set a c') = mslots h := by
  induction h generalizing a with
  | nil => simp at hc
  | cons x h ih => cases a with
    | zero => simp at hc; subst hc; simp [mslots, hl]
    | succ a => simp at hc; simp [mslots, ih hc]
theorem mix_of {i : Int32} {n j : Nat} (h : mix i n = some j) : vp_in i n ∧ j = i.toNatClampNeg ∧ j < n := by
  unfold mix at h
  split at h
  · cases h
  · split at h
    · next h1 h2 => cases h; exact ⟨fun q => q.elim h1 (fun z => absurd h2 (Nat.not_lt.mpr z)), rfl, h2⟩
    · cases h
theorem mjmp_of {pc t : Nat} {off : Int} (h : mjmp pc off = some t) : (pc : Int) + off = (t : Int) := by
  unfold mjmp at h
  split at h
  · next h1 => cases h; omega
  · cases h
/-- a cell is stored into -/
theorem wd_set {D : va_G} {A : Nat → Prop} {s : State} {H1 : Heap} {ads : List Nat} {h : List MC} {ws : va_W} {tys : List (ClassId × FieldType)} {a q : Nat} {e e' : va_E} {c' : MC} (h1 : ws.map (·.1) = ads) (h2 : h.length = ws.length) (h3 : ∀ (a : Nat) (c : MC) (q : Nat × va_E), h[a]? = some c → ws[a]? = some q → ec ads tys c q.2) (h6 : va_K D mcl tys s) (h7 : ∀ (k : Nat) (q : ClassId × FieldType), tys[k]? = some q → rk s q.1 q.2)
    (ha : ws[a]? = some (q, e)) (he : ec ads tys c' e') (hP : va_P D mcl (ws.set a (q, e')) H1) (hD : va_D A (ws.set a (q, e'))) : Wd D A s H1 ads (h.set a c') := by
  refine ⟨ws.set a (q, e'), tys, ?_, by simp [h2], ?_, hP, hD, h6, h7⟩
  · rw [← h1, List.map_set]
    apply List.ext_getElem?
    intro i
    by_cases hi : a = i
    · subst hi
      have hlt : a < ws.length := (List.getElem?_eq_some_iff.mp ha).1
      simp [List.getElem?_set, hlt, ha]
      exact (List.getElem?_eq_some_iff.mp ha).2 ▸ rfl
    · simp [List.getElem?_set, hi]
  · intro b c2 q2 hb hw
    by_cases hi : a = b
    · subst hi
      have hlt : a < ws.length := (List.getElem?_eq_some_iff.mp ha).1
      have hlt2 : a < h.length := by omega
      simp [List.getElem?_set, hlt, hlt2] at hb hw
      subst hb; subst hw
      exact he
    · simp [List.getElem?_set, hi] at hb hw
      exact h3 b c2 q2 hb hw
/-- a cell comes -/
theorem wd_push {D : va_G} {A : Nat → Prop} {s : State} {H1 : Heap} {ads : List Nat} {h : List MC} {ws : va_W} {tys ts : List (ClassId × FieldType)} {q : Nat} {e' : va_E} {c' : MC} (h1 : ws.map (·.1) = ads) (h2 : h.length = ws.length) (h3 : ∀ (a : Nat) (c : MC) (q : Nat × va_E), h[a]? = some c → ws[a]? = some q → ec ads tys c q.2)
    (h6 : va_K D mcl (tys ++ ts) s) (h7 : ∀ (k : Nat) (q : ClassId × FieldType), (tys ++ ts)[k]? = some q → rk s q.1 q.2) (he : ec (ads ++ [q]) (tys ++ ts) c' e') (hP : va_P D mcl (ws ++ [(q, e')]) H1) (hD : va_D A (ws ++ [(q, e')])) : Wd D A s H1 (ads ++ [q]) (h ++ [c']) := by
  refine ⟨ws ++ [(q, e')], tys ++ ts, by simp [h1], by simp [h2], ?_, hP, hD, h6, h7⟩
  intro b c2 q2 hb hw
  by_cases hi : b < ws.length
  · rw [List.getElem?_append_left (by omega)] at hb
    rw [List.getElem?_append_left hi] at hw
    exact ec_mono (h3 b c2 q2 hb hw)
  · have hb2 : b = ws.length := by
      have := (List.getElem?_eq_some_iff.mp hw).1
      simp at this
      omega
    subst hb2
    rw [← h2] at hb
    simp at hb
    simp at hw
    subst hb; subst hw
    exact he
theorem wd_cell {ads : List Nat} {h : List MC} {ws : va_W} {a q : Nat} {c : MC} (h1 : ws.map (·.1) = ads) (h2 : h.length = ws.length) (hq : ads[a]? = some q) (hc : h[a]? = some c) : ∃ e, ws[a]? = some (q, e) := by
  have hlt : a < ws.length := by rw [← h2]; exact (List.getElem?_eq_some_iff.mp hc).1
  refine ⟨(ws[a]).2, ?_⟩
  rw [← h1] at hq
  simp [hlt] at hq
  rw [List.getElem?_eq_getElem hlt, ← hq]
theorem ec_int {ads : List Nat} {tys : List (ClassId × FieldType)} {vs : List MV} {e : va_E} (h : ec ads tys (0, vs) e) : ecI tys .int vs e := by
  rcases h with h | h | h | h
  · exact h.2
  · exact absurd h.1 (by simp)
  · exact absurd h.1 (by simp)
  · exact absurd h.1 (by simp)
theorem ec_bool {ads : List Nat} {tys : List (ClassId × FieldType)} {vs : List MV} {e : va_E} (h : ec ads tys (1, vs) e) : ecI tys .boolean vs e := by
  rcases h with h | h | h | h
  · exact absurd h.1 (by simp)
  · exact h.2
  · exact absurd h.1 (by simp)
  · exact absurd h.1 (by simp)
theorem ec_ref {ads : List Nat} {tys : List (ClassId × FieldType)} {t : Nat} {vs : List MV} {e : va_E} (ht : t = 2 ∨ t = 3 ∨ t = 4) (h : ec ads tys (t, vs) e) : ecR ads tys (mtag t) vs e := by
  rcases h with h | h | h | h
  · have := h.1; simp only at this; omega
  · have := h.1; simp only at this; omega
  · exact h.2
  · have := h.1; simp only at this; omega
theorem ec_obj {ads : List Nat} {tys : List (ClassId × FieldType)} {k : Nat} {vs : List MV} {e : va_E} (h : ec ads tys (10 + k, vs) e) : ecO ads k vs e := by
  rcases h with h | h | h | h
  · have := h.1; simp only at this; omega
  · have := h.1; simp only at this; omega
  · have := h.1; simp only at this; omega
  · have h2 := h.2; simp only [Nat.add_sub_cancel_left] at h2; exact h2
end
section
/-! THE HEAP ONLY GROWS -/
theorem mslots_apps (h g : List MC) : mslots (h ++ g) = mslots h + mslots g := by
  induction h with
  | nil => simp [mslots]
  | cons x h ih => simp [mslots, ih]; omega
def hle (h h2 : List MC) : Prop := h.length ≤ h2.length ∧ mslots h ≤ mslots h2
theorem hle_rf (h : List MC) : hle h h := ⟨Nat.le_refl _, Nat.le_refl _⟩
theorem hle_tr {a b c : List MC} (h : hle a b) (k : hle b c) : hle a c := ⟨Nat.le_trans h.1 k.1, Nat.le_trans h.2 k.2⟩
theorem hle_app (h : List MC) (c : MC) : hle h (h ++ [c]) := ⟨by simp, by rw [mslots_app]; omega⟩
theorem hle_apps (h g : List MC) : hle h (h ++ g) := ⟨by simp, by rw [mslots_apps]; omega⟩
theorem hle_set {h : List MC} {a : Nat} {c c' : MC} (hc : h[a]? = some c) (hl : c'.2.length = c.2.length) : hle h (h.set a c') := ⟨by simp, by rw [mslots_set hc hl]; exact Nat.le_refl _⟩
theorem hle_map {α : Type} {x : Option α} {f : α → MS} {q : MS} {h : List MC} (hx : x.map f = some q) (hf : ∀ y, x = some y → hle h (f y).2.2.2) : hle h q.2.2.2 := by
  obtain ⟨y, hy, rfl⟩ := Option.map_eq_some_iff.mp hx
  exact hf y hy
set_option maxHeartbeats 4000000 in
theorem mps_mono {own : Nat} {ini : Bool} {ig : Instr} {len pc : Nat} {ml : List (Option MV)} {st : List MV} {h : List MC} {q : MS} (hps : mps own ini ig len pc ml st h = some q) : hle h q.2.2.2 := by
  cases ig
  all_goals (simp only [mps, mpsG, k_aconst_null, k_iconst, k_bipush, k_sipush, k_ldc, k_iload, k_iload_n, k_aload, k_aload_n, k_istore, k_istore_n, k_astore, k_astore_n, k_iinc, k_iadd, k_isub, k_imul, k_iand, k_ior, k_ishl, k_ishr, k_dup, k_pop, k_goto, k_ifCond, k_if_icmp, k_ifnull, k_ifnonnull, k_getfield, k_putfield, k_iaload, k_baload, k_aaload, k_iastore, k_bastore, k_aastore, k_arraylength, k_new, k_newarray, k_anewarray, k_multianewarray] at hps)
  all_goals (first | (cases hps; done) | skip)
  all_goals (repeat' (split at hps))
  all_goals (first | (cases hps; done) | skip)
  all_goals (first
    | (cases hps; exact hle_rf _)
    | (cases hps; exact hle_app _ _)
    | (cases hps; exact hle_apps _ _)
    | exact hle_map hps (fun _ _ => hle_rf _)
    | (cases hps; exact hle_set (by assumption) (by simp))
    | exact hle_map hps (fun _ _ => hle_set (by assumption) (by simp)))
end
section
/-! WHAT THE WORDS SAY OF THE TABLES (tools/gen_facts.py): a word by its place in lw_tbl -/
def allz {α β : Type} (f : α → β → Bool) : List α → List β → Bool
  | [], [] => true
  | x :: xs, p :: ps => f x p && allz f xs ps
  | _, _ => false
theorem allz_mem {α β : Type} {f : α → β → Bool} : ∀ {l : List α} {ps : List β}, allz f l ps = true → ∀ x ∈ l, ∃ p, f x p = true
  | [], _, _, _, h => by cases h
  | _ :: _, [], h, _, _ => by simp [allz] at h
  | y :: l, p :: ps, h, x, hx => by
    simp only [allz, Bool.and_eq_true] at h
    rcases List.mem_cons.mp hx with rfl | hx
    · exact ⟨p, h.1⟩
    · exact allz_mem h.2 x hx
theorem mk2_mem {β : Type} {l : List (Nat × Nat × β)} {o i : Nat} {b : β} (h : mk2 l o i = some b) : (o, i, b) ∈ l := by
  unfold mk2 at h
  cases hf : l.find? (fun e => e.1 == o && e.2.1 == i) with
  | none => rw [hf] at h; cases h
  | some e =>
    rw [hf] at h
    have h1 := List.find?_some hf
    have h2 := List.mem_of_find?_eq_some hf
    simp only [Bool.and_eq_true, beq_iff_eq] at h1
    simp only [Option.map_some, Option.some.injEq] at h
    obtain ⟨a, c, d⟩ := e
    simp only at h1 h
    rw [← h1.1, ← h1.2, ← h]
    exact h2
/-- the words that last over a call -/
def lw_g : List Cond := lw_tbl.filter goodWord
theorem mem_g {w : Cond} (h : w ∈ lw_tbl) (hg : goodWord w = true) : w ∈ lw_g := List.mem_filter.mpr ⟨h, hg⟩
theorem at_g {w : Cond} (i : Nat) (h : lw_tbl[i]? = some w) (hg : goodWord w = true) : w ∈ lw_g := mem_g (List.mem_of_getElem? h) hg
def wat (p : Nat) (w : Cond) : Bool := decide (lw_tbl[p]? = some w) && goodWord w
theorem wat_mem {p : Nat} {w : Cond} (h : wat p w = true) : w ∈ lw_g := by
  unfold wat at h
  simp only [Bool.and_eq_true, decide_eq_true_eq] at h
  exact mem_g (List.mem_of_getElem? h.1) h.2
/-- a word that does not last by itself: it goes as a fact of the state -/
def watx (p : Nat) (w : Cond) : Bool := decide (lw_tbl[p]? = some w)
theorem watx_mem {p : Nat} {w : Cond} (h : watx p w = true) : w ∈ lw_tbl := List.mem_of_getElem? (of_decide_eq_true h)
abbrev mon (o : Nat) : String := mown.getD o ""
def psF : List Nat := [96, 97, 109, 110, 111, 112, 113, 133, 134, 135, 136, 152, 153, 154, 155, 156, 157, 158, 159, 160, 161, 162, 198, 199, 200, 201, 202, 203, 204, 205, 206, 207, 213, 214, 215, 216, 217, 218, 219, 220, 221, 222, 223, 224, 225, 269, 270, 271, 272, 273, 274, 275, 276, 277, 278, 279, 280, 288, 289, 290, 291, 292, 293, 294, 316, 317, 318, 319, 320, 321, 322, 323, 324, 346, 347, 348, 349, 350, 351, 352, 353, 354, 355, 356, 357, 358, 359, 360, 361, 362, 395, 396, 397, 398, 399, 400, 401, 402, 403, 802, 803, 804, 805, 806, 807, 808, 809, 810, 811, 812, 813, 814, 815, 816, 817, 818, 819, 820, 821, 822, 823, 824]
def ckF (e : Nat × Nat × Nat × Nat) (p : Nat) : Bool := match mcl[e.2.2.1]? with
  | some q => decide (e.2.2.2 < q.2.2) && wat p (.fieldLink (mon e.1) e.2.1 (q.2.1 e.2.2.2).1 (q.2.1 e.2.2.2).2.1 (q.2.1 e.2.2.2).2.2.1)
  | none => false
set_option maxRecDepth 100000 in
theorem okF : allz ckF mlF psF = true := by decide +kernel
theorem ff {own i ci k : Nat} (h : mk2 mlF own i = some (ci, k)) : ∃ q : vw_C, mcl[ci]? = some q ∧ k < q.2.2 ∧ Cond.fieldLink (mon own) i (q.2.1 k).1 (q.2.1 k).2.1 (q.2.1 k).2.2.1 ∈ lw_g := by
  obtain ⟨p, hp⟩ := allz_mem okF _ (mk2_mem h)
  simp only [ckF] at hp
  split at hp
  · next q hq =>
    simp only [Bool.and_eq_true, decide_eq_true_eq] at hp
    exact ⟨q, hq, hp.1, wat_mem hp.2⟩
  · cases hp
def psC : List (List Nat × Nat × Nat) := [([98, 100], 90, 67), ([114, 116, 118, 120, 122], 104, 68), ([137, 139, 141, 143], 128, 69), ([163, 165, 167, 169, 171, 173, 175, 177, 179, 181, 183], 147, 70), ([208, 210], 193, 72), ([226, 228, 230, 232, 234, 236, 238, 240, 242, 244, 246, 248, 250], 187, 71), ([281, 283, 285], 262, 74), ([295, 297, 299, 301, 303, 305, 307], 254, 73), ([325, 327, 329, 331, 333], 311, 75), ([363, 365, 367, 369, 371, 373, 375, 377, 379, 381, 383, 385, 387, 389], 337, 76), ([404, 406, 408, 410, 412, 414, 416, 418, 420], 82, 66), ([825, 827, 829, 831, 833, 835, 837, 839, 841, 843, 845, 847, 849, 851, 853, 855, 857, 859, 861, 863, 865, 867, 869], 793, 77)]
def mtyOk (ty : FieldType) : Bool := match ty with
  | .int => true
  | .boolean => true
  | .object _ => true
  | .array _ => true
  | _ => false
def ckC (e : vw_C × List FieldType) (p : List Nat × Nat × Nat) : Bool :=
  allz (fun k x => wat x (u_lay e.1.1 e.1.2.1 k)) (List.range e.1.2.2) p.1 && decide (e.2.length = e.1.2.2) && (List.range e.1.2.2).all (fun k => decide (parseFieldDescriptor (e.1.2.1 k).2.2.1 = some (e.2.getD k .int)) && decide ((e.1.2.1 k).1 = e.1.1)) && (List.range e.1.2.2).all (fun a => (List.range e.1.2.2).all fun b => a == b || !((e.1.2.1 a).2.1 == (e.1.2.1 b).2.1)) && e.2.all mtyOk && wat p.2.1 (.instantiable e.1.1 e.1.2.2) && wat p.2.2 (.initialized e.1.1)
set_option maxRecDepth 100000 in
theorem okC : allz ckC (mcl.zip mty) psC = true := by decide +kernel
theorem okCl : mcl.length = mty.length := by decide +kernel
theorem fc {ci : Nat} {q : vw_C} (hq : mcl[ci]? = some q) : (∀ w ∈ u_ws q.1 q.2.1 q.2.2, w ∈ lw_g) ∧ (mty.getD ci []).length = q.2.2 ∧ (∀ k, k < q.2.2 → parseFieldDescriptor (q.2.1 k).2.2.1 = some ((mty.getD ci []).getD k .int) ∧ (q.2.1 k).1 = q.1) ∧ (∀ a, a < q.2.2 → ∀ b, b < q.2.2 → a ≠ b → (q.2.1 a).2.1 ≠ (q.2.1 b).2.1) ∧ (∀ ty ∈ mty.getD ci [], mtyOk ty = true) ∧ Cond.instantiable q.1 q.2.2 ∈ lw_g ∧ Cond.initialized q.1 ∈ lw_g := by
  have hlt : ci < mcl.length := (List.getElem?_eq_some_iff.mp hq).1
  have hlt2 : ci < mty.length := by rw [← okCl]; exact hlt
  have hz : (mcl.zip mty)[ci]? = some (q, mty.getD ci []) := by
    rw [List.getElem?_zip_eq_some]
    exact ⟨hq, by simp [List.getD, hlt2]⟩
  obtain ⟨p, hp⟩ := allz_mem okC _ (List.mem_of_getElem? hz)
  simp only [ckC, Bool.and_eq_true, decide_eq_true_eq, List.all_eq_true, List.mem_range] at hp
  obtain ⟨⟨⟨⟨⟨⟨h1, h2⟩, h3⟩, h4⟩, h5⟩, h6⟩, h7⟩ := hp
  refine ⟨fun w hw => ?_, h2, fun k hk => ?_, fun a ha b hb hn => ?_, h5, wat_mem h6, wat_mem h7⟩
  · unfold u_ws at hw
    obtain ⟨k, hk, rfl⟩ := List.mem_map.mp hw
    obtain ⟨x, hx⟩ := allz_mem h1 k hk
    exact wat_mem hx
  · have h := h3 k hk
    exact h
  · have h := h4 a ha b hb
    simp only [Bool.or_eq_true, beq_iff_eq, Bool.not_eq_true', beq_eq_false_iff_ne] at h
    rcases h with h | h
    · exact absurd h hn
    · exact h
def psN : List Nat := [81, 89, 103, 127, 146, 186, 192, 253, 259, 261, 310, 336, 342, 344, 392, 792]
def ckN (e : Nat × Nat × Nat) (p : Nat) : Bool := match mcl[e.2.2]? with
  | some q => wat p (.classLink (mon e.1) e.2.1 q.1)
  | none => false
theorem okN : allz ckN mlN psN = true := by decide +kernel
theorem fn {own i ci : Nat} (h : mk2 mlN own i = some ci) : ∃ q : vw_C, mcl[ci]? = some q ∧ Cond.classLink (mon own) i q.1 ∈ lw_g := by
  obtain ⟨p, hp⟩ := allz_mem okN _ (mk2_mem h)
  simp only [ckN] at hp
  split at hp
  · next q hq => exact ⟨q, hq, wat_mem hp⟩
  · cases hp
def psA : List Nat := [267, 394, 466, 798, 800, 922]
def ckA (e : Nat × Nat × Nat) (p : Nat) : Bool := if e.2.2 = 4 then wat p (.classLink (mon e.1) e.2.1 "[[Z") else wat p (.classLink (mon e.1) e.2.1 (if e.2.2 = 2 then "[I" else "[[I"))
theorem okA : allz ckA mlA psA = true := by decide +kernel
theorem fa {own i t : Nat} (h : mk2 mlA own i = some t) (ht : t = 2 ∨ t = 3) : Cond.classLink (mon own) i (if t = 2 then "[I" else "[[I") ∈ lw_g := by
  obtain ⟨p, hp⟩ := allz_mem okA _ (mk2_mem h)
  simp only [ckA] at hp
  rw [if_neg (by omega)] at hp
  exact wat_mem hp
def psK : List Nat := [95, 554, 619, 799]
def ckK (e : Nat × Nat × Int32) (p : Nat) : Bool := wat p (.constant (mon e.1) e.2.1 e.2.2)
theorem okK : allz ckK mlC psK = true := by decide +kernel
theorem fk {own i : Nat} {v : Int32} (h : mk2 mlC own i = some v) : Cond.constant (mon own) i v ∈ lw_g := by
  obtain ⟨p, hp⟩ := allz_mem okK _ (mk2_mem h)
  exact wat_mem hp
theorem w_ai : Cond.arrayClass .int ∈ lw_g := at_g 125 (by decide +kernel) (by first | rfl | decide)
theorem w_az : Cond.arrayClass .boolean ∈ lw_g := at_g 126 (by decide +kernel) (by first | rfl | decide)
theorem w_oi : Cond.arrayOver (.array .int) ∈ lw_tbl := List.mem_of_getElem? (i := 268) (by decide +kernel)
theorem w_oii : Cond.arrayOver (.array (.array .int)) ∈ lw_tbl := List.mem_of_getElem? (i := 801) (by decide +kernel)
theorem w_oz : Cond.arrayOver (.array .boolean) ∈ lw_tbl := List.mem_of_getElem? (i := 923) (by decide +kernel)
def psM : List Nat := [85, 93, 107, 131, 150, 190, 196, 257, 265, 314, 340, 426, 430, 434, 437, 440, 444, 448, 452, 456, 459, 476, 481, 485, 490, 494, 498, 502, 505, 508, 512, 516, 520, 525, 529, 533, 537, 541, 545, 549, 553, 558, 563, 568, 572, 576, 582, 586, 590, 593, 596, 600, 604, 608, 611, 618, 623, 627, 631, 639, 644, 648, 652, 656, 661, 665, 669, 673, 678, 684, 688, 692, 696, 700, 704, 709, 717, 725, 729, 735, 741, 747, 751, 756, 762, 766, 770, 774, 778, 782, 786, 791, 796, 875, 879, 882, 886, 890, 894, 898, 902, 906, 910, 913, 917, 921, 927, 931, 935, 939, 943, 947, 951, 955, 959, 963, 966, 970, 974, 978, 982, 986, 990, 994, 998, 1002, 1006, 1010, 1014, 1018, 1022, 1026, 1030, 1034, 1038, 1042, 1046, 1050, 1054, 1058, 1062, 1066, 1070, 1074, 1078, 1082, 1086]
set_option maxRecDepth 100000 in
theorem okM1 : (psM.map fun p => lw_tbl[p]?) = mmt.map (fun q => some (Cond.code q.1 q.2.1 q.2.2.1 q.2.2.2.1)) := by rfl
def ckM (q : MethodName × ByteArray × Nat × Option FieldType × Nat × Nat) : Bool := plainName q.1.cls && decide (q.1.cls ≠ "java/lang/invoke/MethodHandle") && decide (q.1.cls ≠ "java/lang/invoke/VarHandle") && decide ((parseMethodDescriptor q.1.desc).map (fun d => d.parameters.length) = some q.2.2.2.2.2) && decide (mon q.2.2.2.2.1 = q.1.cls)
set_option maxRecDepth 100000 in
theorem okM2 : mmt.all ckM = true := by decide +kernel
theorem fm {M : Nat} {q : MethodName × ByteArray × Nat × Option FieldType × Nat × Nat} (h : mmt[M]? = some q) : Cond.code q.1 q.2.1 q.2.2.1 q.2.2.2.1 ∈ lw_g ∧ plainName q.1.cls = true ∧ (q.1.cls ≠ "java/lang/invoke/MethodHandle" ∧ q.1.cls ≠ "java/lang/invoke/VarHandle" ∧ (parseMethodDescriptor q.1.desc).map (fun d => d.parameters.length) = some q.2.2.2.2.2) ∧ mon q.2.2.2.2.1 = q.1.cls := by
  have hm := List.all_eq_true.mp okM2 q (List.mem_of_getElem? h)
  simp only [ckM, Bool.and_eq_true, decide_eq_true_eq] at hm
  obtain ⟨⟨⟨⟨h1, h2⟩, h3⟩, h4⟩, h5⟩ := hm
  refine ⟨?_, h1, ⟨h2, h3, h4⟩, h5⟩
  have hi : (mmt.map (fun q => some (Cond.code q.1 q.2.1 q.2.2.1 q.2.2.2.1)))[M]? = some (some (Cond.code q.1 q.2.1 q.2.2.1 q.2.2.2.1)) := by simp [h]
  rw [← okM1] at hi
  simp only [List.getElem?_map, Option.map_eq_some_iff] at hi
  obtain ⟨p, -, hp⟩ := hi
  exact mem_g (List.mem_of_getElem? hp) rfl
def psL : List (Nat × Nat × Nat × Nat) := [(83, 84, 0, 66), (86, 0, 0, 0), (91, 92, 0, 67), (94, 0, 0, 0), (105, 106, 0, 68), (108, 0, 0, 0), (129, 130, 0, 69), (132, 0, 0, 0), (148, 149, 0, 70), (151, 0, 0, 0), (188, 189, 0, 71), (191, 0, 0, 0), (194, 195, 0, 72), (197, 0, 0, 0), (255, 256, 0, 73), (258, 0, 0, 0), (260, 195, 0, 72), (263, 264, 0, 74), (266, 0, 0, 0), (312, 313, 0, 75), (315, 0, 0, 0), (338, 339, 0, 76), (341, 0, 0, 0), (343, 195, 0, 72), (345, 264, 0, 74), (393, 195, 0, 72), (423, 424, 425, 66), (427, 428, 429, 68), (431, 432, 433, 66), (435, 436, 0, 66), (438, 439, 0, 66), (441, 442, 443, 66), (445, 446, 447, 68), (449, 450, 451, 68), (453, 454, 455, 72), (457, 458, 0, 78), (460, 0, 0, 0), (467, 0, 0, 0), (470, 0, 0, 0), (473, 474, 475, 72), (477, 0, 0, 0), (478, 480, 0, 66), (482, 483, 484, 68), (486, 0, 0, 0), (487, 488, 489, 72), (491, 492, 493, 66), (495, 496, 497, 66), (499, 500, 501, 66), (503, 504, 0, 66), (506, 507, 0, 66), (509, 510, 511, 66), (513, 514, 515, 69), (517, 519, 1, 69), (521, 450, 451, 68), (522, 523, 524, 68), (526, 528, 2, 69), (530, 532, 3, 69), (534, 536, 4, 69), (538, 540, 5, 69), (542, 543, 544, 68), (546, 547, 548, 66), (550, 551, 552, 70), (555, 557, 6, 70), (559, 458, 0, 78), (560, 562, 7, 70), (564, 523, 524, 68), (565, 566, 567, 67), (569, 571, 8, 70), (573, 575, 9, 70), (577, 450, 451, 68), (578, 543, 544, 68), (579, 580, 581, 66), (583, 584, 585, 70), (587, 523, 524, 68), (588, 589, 0, 78), (591, 592, 0, 78), (594, 595, 0, 78), (597, 598, 599, 66), (601, 602, 603, 71), (605, 607, 10, 71), (609, 610, 0, 78), (612, 454, 455, 72), (613, 523, 524, 68), (614, 474, 475, 72), (615, 617, 11, 71), (620, 622, 12, 71), (624, 626, 13, 71), (628, 630, 14, 71), (632, 483, 484, 68), (633, 566, 567, 67), (634, 507, 0, 66), (635, 543, 544, 68), (636, 638, 15, 71), (640, 450, 451, 68), (641, 643, 16, 71), (645, 647, 17, 71), (649, 651, 18, 71), (653, 655, 19, 71), (657, 0, 0, 0), (658, 659, 660, 66), (662, 663, 664, 71), (666, 667, 668, 66), (670, 671, 672, 75), (674, 610, 0, 78), (675, 677, 20, 75), (679, 458, 0, 78), (680, 483, 484, 68), (681, 682, 683, 74), (685, 686, 687, 66), (689, 690, 691, 76), (693, 694, 695, 76), (697, 699, 21, 76), (701, 702, 703, 73), (705, 0, 0, 0), (706, 708, 22, 73), (710, 450, 451, 68), (711, 523, 524, 68), (712, 483, 484, 68), (713, 551, 552, 70), (714, 716, 23, 73), (718, 584, 585, 70), (719, 454, 455, 72), (720, 474, 475, 72), (721, 458, 0, 78), (722, 724, 24, 76), (726, 728, 25, 76), (730, 682, 683, 74), (731, 504, 0, 66), (732, 734, 26, 76), (736, 514, 515, 69), (737, 671, 672, 75), (738, 740, 27, 76), (742, 523, 524, 68), (743, 551, 552, 70), (744, 746, 28, 76), (748, 750, 29, 76), (752, 602, 603, 71), (753, 755, 30, 76), (757, 663, 664, 71), (758, 483, 484, 68), (759, 761, 31, 76), (763, 764, 765, 66), (767, 768, 769, 66), (771, 773, 32, 66), (775, 776, 777, 66), (779, 780, 781, 66), (783, 784, 785, 66), (787, 702, 703, 73), (788, 789, 790, 66), (794, 795, 0, 77), (797, 0, 0, 0), (872, 873, 874, 77), (876, 877, 878, 77), (880, 881, 0, 77), (883, 884, 885, 77), (887, 889, 33, 77), (891, 893, 34, 77), (895, 897, 35, 77), (899, 900, 901, 77), (903, 904, 905, 77), (907, 908, 909, 77), (911, 912, 0, 77), (914, 915, 916, 77), (918, 920, 36, 77), (924, 926, 37, 77), (928, 930, 38, 77), (932, 934, 39, 77), (936, 938, 40, 77), (940, 942, 41, 77), (944, 945, 946, 77), (948, 950, 42, 77), (952, 954, 43, 77), (956, 958, 44, 77), (960, 962, 45, 77), (964, 965, 0, 77), (967, 968, 969, 77), (971, 972, 973, 77), (975, 977, 46, 77), (979, 981, 47, 77), (983, 985, 48, 77), (987, 989, 49, 77), (991, 993, 50, 77), (995, 996, 997, 77), (999, 1000, 1001, 77), (1003, 1005, 51, 77), (1007, 1009, 52, 77), (1011, 1013, 53, 77), (1015, 1016, 1017, 77), (1019, 1021, 54, 77), (1023, 1025, 55, 77), (1027, 1029, 56, 77), (1031, 1033, 57, 77), (1035, 1037, 58, 77), (1039, 1041, 59, 77), (1043, 1045, 60, 77), (1047, 1049, 61, 77), (1051, 1053, 62, 77), (1055, 1057, 63, 77), (1059, 1061, 64, 77), (1063, 1064, 1065, 77), (1067, 1068, 1069, 77), (1071, 1072, 1073, 77), (1075, 1076, 1077, 77), (1079, 1080, 1081, 77), (1083, 1084, 1085, 77)]
def ckL (e : Nat × Nat × Nat × Nat) (p : Nat × Nat × Nat × Nat) : Bool :=
  if e.2.2.1 = 3 then wat p.1 (.methodLink (mon e.1) e.2.1 objectInit)
  else if e.2.2.1 = 4 then wat p.1 (.methodLink (mon e.1) e.2.1 arraycopyName)
  else if e.2.2.1 = 7 then wat p.1 (.methodLink (mon e.1) e.2.1 Lib.Math.min.name)
  else if e.2.2.1 = 8 then wat p.1 (.methodLink (mon e.1) e.2.1 ⟨"[I", "clone", "()Ljava/lang/Object;"⟩)
  else match mmt[e.2.2.2]? with
  | some q =>
    if e.2.2.1 = 0 then wat p.1 (.methodLink (mon e.1) e.2.1 q.1) && wat p.2.1 (.instanceMethod q.1) && wat p.2.2.1 (.selects q.1.cls q.1 q.1) && wat p.2.2.2 (.initialized q.1.cls)
    else if e.2.2.1 = 1 then wat p.1 (.methodLink (mon e.1) e.2.1 q.1) && wat p.2.1 (.static q.1) && wat p.2.2.2 (.initialized q.1.cls)
    else if e.2.2.1 = 2 then wat p.1 (.methodLink (mon e.1) e.2.1 q.1) && wat p.2.1 (.instanceMethod q.1) && wat p.2.2.2 (.initialized q.1.cls) && decide (q.1.name = "<init>")
    else if e.2.2.1 = 5 then watx p.1 (.methodLinkNest (mon e.1) e.2.1 q.1 "EquationDesk") && wat p.2.1 (.static q.1) && wat p.2.2.2 (.initialized q.1.cls)
    else watx p.1 (.methodLinkNest (mon e.1) e.2.1 q.1 "EquationDesk") && wat p.2.1 (.instanceMethod q.1) && wat p.2.2.2 (.initialized q.1.cls) && decide (q.1.name = "<init>")
  | none => false
set_option maxRecDepth 100000 in
theorem okL : allz ckL mlM psL = true := by decide +kernel
theorem fl {own i kd M : Nat} (h : mk2 mlM own i = some (kd, M)) : ∃ p, ckL (own, i, kd, M) p = true := allz_mem okL _ (mk2_mem h)
theorem w_oin : Cond.instanceMethod objectInit ∈ lw_g := at_g 87 (by decide +kernel) (by first | rfl | decide)
theorem w_oco : Cond.code objectInit ⟨#[0xb1]⟩ 1 none ∈ lw_g := at_g 88 (by rfl) (by first | rfl | decide)
theorem w_acn : Cond.native arraycopyName ∈ lw_g := at_g 472 (by decide +kernel) (by first | rfl | decide)
theorem w_acs : Cond.static arraycopyName ∈ lw_g := at_g 471 (by decide +kernel) (by first | rfl | decide)
theorem w_aci : Cond.initialized "java/lang/System" ∈ lw_g := at_g 80 (by decide +kernel) (by first | rfl | decide)
theorem w_mis : Cond.static Lib.Math.min.name ∈ lw_g := at_g 468 (by decide +kernel) (by first | rfl | decide)
theorem w_mii : Cond.initialized "java/lang/Math" ∈ lw_g := at_g 79 (by decide +kernel) (by first | rfl | decide)
theorem w_mic : Cond.code Lib.Math.min.name Lib.Math.min.code 2 (some .int) ∈ lw_g := at_g 469 (by decide +kernel) (by first | rfl | decide)
theorem gtbl {ws : List Cond} (h : ∀ w ∈ ws, w ∈ lw_g) : GoodIn lw_g ws := fun w hw => ⟨h w hw, good_of_word (List.mem_filter.mp (h w hw)).2⟩
theorem w_cls : Cond.sameMethod "[I" "java/lang/Object" "clone" "()Ljava/lang/Object;" ∈ lw_g := at_g 461 (by decide +kernel) (by first | rfl | decide)
theorem w_cln : Cond.native ⟨"java/lang/Object", "clone", "()Ljava/lang/Object;"⟩ ∈ lw_g := at_g 462 (by decide +kernel) (by first | rfl | decide)
theorem w_cli : Cond.instanceMethod ⟨"java/lang/Object", "clone", "()Ljava/lang/Object;"⟩ ∈ lw_g := at_g 463 (by decide +kernel) (by first | rfl | decide)
theorem w_cle : Cond.selects "[I" ⟨"[I", "clone", "()Ljava/lang/Object;"⟩ ⟨"java/lang/Object", "clone", "()Ljava/lang/Object;"⟩ ∈ lw_g := at_g 464 (by decide +kernel) (by first | rfl | decide)
theorem w_clc : Cond.castable "[I" "java/lang/Cloneable" ∈ lw_tbl := List.mem_of_getElem? (i := 465) (by decide +kernel)
end
section
/-! A STEP OF THE SMALL MACHINE IS A STEP OF THE MACHINE: instructions that neither call nor return -/
def Xf (s : State) : Prop := (∀ t : FieldType, (t = .int ∨ t = .array .int ∨ t = .boolean) → (Cond.arrayOver (.array t)).before #[] s = true) ∧ ∀ (own i kd M : Nat) (q : MethodName × ByteArray × Nat × Option FieldType × Nat × Nat), mk2 mlM own i = some (kd, M) → (kd = 5 ∨ kd = 6) → mmt[M]? = some q → va_Nw (.methodLinkNest (mon own) i q.1 "EquationDesk") s
def Xc (s : State) : Prop := va_Nw (.castable "[I" "java/lang/Cloneable") s
theorem xo_moved {t : FieldType} {u U : State} (hvm : u.vm.Alike U.vm) (h : (Cond.arrayOver (.array t)).before #[] u = true) : (Cond.arrayOver (.array t)).before #[] U = true := by
  obtain ⟨comp, c, k, h1, h2, h3, h4, h5⟩ := arrayOverA_spec h
  obtain ⟨k', hk', he⟩ := hvm.2.2 _ _ h3
  have hi : (U.vm.classes.findIdx? fun (x : Class) => match x.kind with | .array component _ => component == comp | _ => false) = some c := by
    rw [hvm.findIdx?_eq _ (fun _ => rfl)]
    exact h2
  have hkind : k'.kind = .array comp (.array t) := by rw [he]; exact h4
  have f1 : U.vm.findClass (FieldType.array t).toString = some comp := by rw [hvm.findClass]; exact h1
  have f2 : U.vm.findClass ("[" ++ (FieldType.array t).toString) = some c := by rw [hvm.findClass]; exact h5
  unfold Cond.before Cond.holds
  simp only [Cond.value]
  rw [f1, Option.bind_some]
  refine (congrArg (fun o : Option Nat => (o.bind (fun c => (U.vm.classes[c]?).map fun (k : Class) => match k.kind with | .array _ ty => decide (ty = FieldType.array t) && decide (U.vm.findClass ("[" ++ (FieldType.array t).toString) = some c) | _ => false) == some true)) hi).trans ?_
  simp [hk', hkind, f2]
theorem Xf_warm {s U : State} (hW : s.WarmedH U.vm) (h : Xf s) : Xf U := ⟨fun t ht => xo_moved hW.alike (h.1 t ht), fun own i kd M q h1 h2 h3 => va_Nw.warmM hW (h.2 own i kd M q h1 h2 h3)⟩
theorem Xf_same {u U : State} (he : u.vm = U.vm) (h : Xf u) : Xf U := ⟨fun t ht => xo_moved (he ▸ Vm.Alike.refl u.vm) (h.1 t ht), fun own i kd M q h1 h2 h3 => va_Nw.same rfl he (h.2 own i kd M q h1 h2 h3)⟩
def lvA (ls : Array Slot) : List (Nat × Value) := (List.range ls.size).filterMap fun (i : Nat) => match (ls[i]? : Option Slot) with
  | some (.val x) => some (i, x)
  | _ => none
theorem lvA_mem {ls : Array Slot} {j : Nat} {x : Value} (h : ls[j]? = some (.val x)) : (j, x) ∈ lvA ls := by
  unfold lvA
  rw [List.mem_filterMap]
  exact ⟨j, List.mem_range.mpr (Array.getElem?_eq_some_iff.mp h).1, by rw [h]⟩
theorem lvA_has {ls : Array Slot} {nL : Nat} (hs : ls.size = nL) (hw : lv_wf ls) : lv_has ls nL (lvA ls) := by
  refine ⟨hs, hw, fun q hq => ?_⟩
  unfold lvA at hq
  obtain ⟨i, -, hi⟩ := List.mem_filterMap.mp hq
  split at hi
  · next x hx => cases hi; exact hx
  · cases hi
theorem Lr_store {ads : List Nat} {ml : List (Option MV)} {ls ls' : Array Slot} {nL k : Nat} {v : MV} {x : Value} (hL : Lr ads ml ls nL) (hv : vr ads v x)
    (h' : lv_has ls' nL ((k, x) :: (lvA ls).filter (fun q => !(q.1 == k) && !(q.1 + 1 == k && q.2.category == 2)))) : Lr ads (ml.set k (some v)) ls' nL := by
  refine ⟨by simp [hL.1], h'.1, h'.2.1, fun i w hw => ?_⟩
  by_cases hi : k = i
  · subst hi
    rw [List.getElem?_set] at hw
    simp only [if_true] at hw
    split at hw
    · cases hw
      exact ⟨x, hv, h'.2.2 (k, x) List.mem_cons_self⟩
    · cases hw
  · rw [List.getElem?_set_ne hi] at hw
    obtain ⟨y, h1, h2⟩ := hL.2.2.2 i w hw
    refine ⟨y, h1, h'.2.2 (i, y) (List.mem_cons_of_mem _ (List.mem_filter.mpr ⟨lvA_mem h2, ?_⟩))⟩
    have hc := vr_cat h1
    simp [hc]
    omega
theorem mint_of {ads : List Nat} {ml : List (Option MV)} {ls : Array Slot} {nL k : Nat} {x : Int32} (hL : Lr ads ml ls nL) (h : mint (mld ml k) = some x) : ls[k]? = some (.val (.int x)) := by
  unfold mint at h
  split at h
  · next y hy =>
    cases h
    unfold mld at hy
    split at hy
    · next v hv =>
      cases hy
      obtain ⟨z, h1, h2⟩ := hL.2.2.2 k _ hv
      rw [h2, show z = Value.int x from h1]
    · cases hy
  · cases h
theorem mref_of {ads : List Nat} {ml : List (Option MV)} {ls : Array Slot} {nL k : Nat} {x : Option Nat} (hL : Lr ads ml ls nL) (h : mref (mld ml k) = some x) : ∃ z, vr ads (.inr x) z ∧ ls[k]? = some (.val z) := by
  unfold mref at h
  split at h
  · next y hy =>
    cases h
    unfold mld at hy
    split at hy
    · next v hv =>
      cases hy
      exact hL.2.2.2 k _ hv
    · cases hy
  · cases h
theorem vr_nr {ads : List Nat} {x : Option Nat} {z : Value} (h : vr ads (.inr x) z) : z = .null ∨ ∃ a : Nat, z = .ref a := by
  match x, h with
  | none, h => exact Or.inl h
  | some a, ⟨q, _, h⟩ => exact Or.inr ⟨q, h⟩
section S1
variable {p : Program} {l : Launch} {e : Env} {R : Room} {s : State} {m : MethodId} {args : Array Value} {below : List Frame} {meth : Method} {c : Code} {H : Heap} {locs : List Loc} {cells slots : Nat} {Q : State → Prop} {cc : ByteArray} {pc : Nat} {ls : Array Slot} {ads : List Nat} {st : List MV} {st0 : List Value}
/-- a reference out of the locals -/
theorem s_ald {k : Nat} {z : Value} {Pk : Prop} (hz : z = .null ∨ ∃ a : Nat, z = .ref a) (h0 : z = .null → Pk) (h1 : ∀ a : Nat, z = .ref a → Pk) : Pk := by
  rcases hz with h | ⟨a, h⟩
  · exact h0 h
  · exact h1 a h
theorem s_if (he : p.tables.exec = Jvm.exec) (hb : c.code = cc) {cnd : Jvm.ClassFile.Cond} {off : Int} {tgt : Nat} {x : Int32} {rest : List Value} (hdg : decode cc pc = .ok (.ifCond cnd off, 3)) (ht : (pc : Int) + off = (tgt : Int))
    (k : W p l e R s m args below meth c H locs cells slots Q (F0 m (if mcmp cnd x 0 then tgt else pc + 3) ls rest)) : W p l e R s m args below meth c H locs cells slots Q (F0 m pc ls (.int x :: rest)) := by
  cases cnd with
  | eq => exact lv_if_eq he hb hdg ht (fun h => by simpa [mcmp, h] using k) (fun h => by simpa [mcmp, h] using k)
  | ne => exact lv_if_ne he hb hdg ht (fun h => by simpa [mcmp, h] using k) (fun h => by simpa [mcmp, h] using k)
  | lt => exact lv_if_lt he hb hdg ht (fun h => by simpa [mcmp, h] using k) (fun h => by simpa [mcmp, h] using k)
  | ge => exact lv_if_ge he hb hdg ht (fun h => by simpa [mcmp, h] using k) (fun h => by simpa [mcmp, h] using k)
  | gt => exact lv_if_gt he hb hdg ht (fun h => by simpa [mcmp, h] using k) (fun h => by simpa [mcmp, h] using k)
  | le => exact lv_if_le he hb hdg ht (fun h => by simpa [mcmp, h] using k) (fun h => by simpa [mcmp, h] using k)
theorem s_icmp (he : p.tables.exec = Jvm.exec) (hb : c.code = cc) {cnd : Jvm.ClassFile.Cond} {off : Int} {tgt : Nat} {x y : Int32} {rest : List Value} (hdg : decode cc pc = .ok (.if_icmp cnd off, 3)) (ht : (pc : Int) + off = (tgt : Int))
    (k : W p l e R s m args below meth c H locs cells slots Q (F0 m (if mcmp cnd x y then tgt else pc + 3) ls rest)) : W p l e R s m args below meth c H locs cells slots Q (F0 m pc ls (.int y :: .int x :: rest)) := by
  cases cnd with
  | eq => exact lv_icmp_eq he hb hdg ht (fun h => by simpa [mcmp, h] using k) (fun h => by simpa [mcmp, h] using k)
  | ne => exact lv_icmp_ne he hb hdg ht (fun h => by simpa [mcmp, h] using k) (fun h => by simpa [mcmp, h] using k)
  | lt => exact lv_icmp_lt he hb hdg ht (fun h => by simpa [mcmp, h] using k) (fun h => by simpa [mcmp, h] using k)
  | ge => exact lv_icmp_ge he hb hdg ht (fun h => by simpa [mcmp, h] using k) (fun h => by simpa [mcmp, h] using k)
  | gt => exact lv_icmp_gt he hb hdg ht (fun h => by simpa [mcmp, h] using k) (fun h => by simpa [mcmp, h] using k)
  | le => exact lv_icmp_le he hb hdg ht (fun h => by simpa [mcmp, h] using k) (fun h => by simpa [mcmp, h] using k)
/-- the stack's uppermost -/
theorem vrs_i {x : Int32} (h : vrs ads (.inl x :: st) st0) : ∃ r, st0 = .int x :: r ∧ vrs ads st r := by
  match st0, h with
  | y :: r, h => exact ⟨r, by rw [show y = Value.int x from h.1], h.2⟩
theorem vrs_r {a : Nat} (h : vrs ads (.inr (some a) :: st) st0) : ∃ q r, st0 = .ref q :: r ∧ ads[a]? = some q ∧ vrs ads st r := by
  match st0, h with
  | y :: r, h =>
    obtain ⟨q, h1, h2⟩ := h.1
    exact ⟨q, r, by rw [h2], h1, h.2⟩
theorem vrs_n (h : vrs ads (.inr none :: st) st0) : ∃ r, st0 = .null :: r ∧ vrs ads st r := by
  match st0, h with
  | y :: r, h => exact ⟨r, by rw [show y = Value.null from h.1], h.2⟩
theorem vrs_v {v : MV} (h : vrs ads (v :: st) st0) : ∃ x r, st0 = x :: r ∧ vr ads v x ∧ vrs ads st r := by
  match st0, h with
  | y :: r, h => exact ⟨y, r, rfl, h.1, h.2⟩
end S1
end
section
/-! THE INSTRUCTIONS OF THE HEAP -/
theorem mfit_ok {ads : List Nat} {ty : FieldType} {v : MV} {x : Value} (h : mfit ty v = true) (hv : vr ads v x) : narrow ty x = x ∧ fits ty x = true := by
  unfold mfit at h
  split at h
  · rw [show x = Value.int _ from hv]; exact ⟨rfl, rfl⟩
  · next i =>
    rw [show x = Value.int i from hv]
    simp only [Bool.or_eq_true, beq_iff_eq] at h
    rcases h with h | h <;> subst h <;> exact ⟨by decide, by decide⟩
  · rcases vr_nr hv with h | ⟨a, h⟩ <;> subst h <;> exact ⟨rfl, rfl⟩
  · rcases vr_nr hv with h | ⟨a, h⟩ <;> subst h <;> exact ⟨rfl, rfl⟩
  · cases h
theorem mdef_ok {ads : List Nat} : ∀ {l : List FieldType}, (∀ ty ∈ l, mtyOk ty = true) → vrs ads (l.map mdef) (l.map defaultValue)
  | [], _ => trivial
  | ty :: l, h => by
    refine ⟨?_, mdef_ok (fun t ht => h t (List.mem_cons_of_mem _ ht))⟩
    have h0 := h ty List.mem_cons_self
    cases ty <;> first | rfl | (exact absurd h0 (by simp [mtyOk]))
section S2
variable {p : Program} {l : Launch} {e : Env} {R : Room} {s : State} {m : MethodId} {args : Array Value} {below : List Frame} {meth : Method} {c : Code} {H : Heap} {locs : List Loc} {cells slots : Nat} {Q : State → Prop} {cc : ByteArray} {pc : Nat} {ls : Array Slot} {ads : List Nat} {rest : List Value} {D : va_G} {A : Nat → Prop} {own : Nat} {h : List MC}
theorem s_getf (he : p.tables.exec = Jvm.exec) (hb : c.code = cc) (hown : s.vm.findClass (mon own) = some m.cls) (hts : ∀ w ∈ lw_g, w.before args s = true) {i ci k a q : Nat} {vs : List MV} {v : MV} (hW : Wd D A s H ads h) (hf : mk2 mlF own i = some (ci, k)) (hq : ads[a]? = some q) (hc : h[a]? = some (10 + ci, vs)) (hv : vs[k]? = some v) (hdg : decode cc pc = .ok (.getfield i, 3))
    (kk : ∀ x, vr ads v x → W p l e R s m args below meth c H locs cells slots Q (F0 m (pc + 3) ls (x :: rest))) : W p l e R s m args below meth c H locs cells slots Q (F0 m pc ls (.ref q :: rest)) := by
  obtain ⟨ws, tys, h1, h2, h3, hP, hD, hK, h7⟩ := hW
  obtain ⟨⟨rn, rT, rN⟩, hr, hk, hlk⟩ := ff hf
  obtain ⟨e0, hwa⟩ := wd_cell h1 h2 hq hc
  obtain ⟨fs, hfe, hfs⟩ := ec_obj (h3 a _ _ hc hwa)
  simp only at hfe
  subst hfe
  obtain ⟨x, hx, hvx⟩ := vrs_get hfs hv
  exact va_get (D := D) (cl := mcl) (C := rn) (T := rT) (N := rN) he hb hts (fc hr).1 hown hK hP a hwa hr k hk (hts _ hlk) (fun _ h9 => h9) hx hdg (kk x hvx)
theorem s_putf (he : p.tables.exec = Jvm.exec) (hb : c.code = cc) (hown : s.vm.findClass (mon own) = some m.cls) (hts : ∀ w ∈ lw_g, w.before args s = true) {i ci k a q : Nat} {vs : List MV} {v : MV} {x : Value} {r : vw_C} {ty : FieldType} (hW : Wd D A s H ads h) (hS : va_S A s.heap H locs) (hf : mk2 mlF own i = some (ci, k)) (hq : ads[a]? = some q) (hc : h[a]? = some (10 + ci, vs)) (hk2 : k < vs.length) (hr : mcl[ci]? = some r) (hty : (mty.getD ci [])[k]? = some ty) (hfit : mfit ty v = true) (hx : vr ads v x) (hfin : (r.2.1 k).2.2.2 = true → meth.name = "<init>" ∧ own = ci) (hdg : decode cc pc = .ok (.putfield i, 3))
    (kk : ∀ (H1 : Heap) (locs1 : List Loc), Wd D A s H1 ads (h.set a (10 + ci, vs.set k v)) → va_S A s.heap H1 locs1 → W p l e R s m args below meth c H1 locs1 cells slots Q (F0 m (pc + 3) ls rest)) : W p l e R s m args below meth c H locs cells slots Q (F0 m pc ls (x :: .ref q :: rest)) := by
  obtain ⟨ws, tys, h1, h2, h3, hP, hD, hK, h7⟩ := hW
  obtain ⟨r', hr', hk, hlk⟩ := ff hf
  cases hr.symm.trans hr'
  obtain ⟨rn, rT, rN⟩ := r
  obtain ⟨e0, hwa⟩ := wd_cell h1 h2 hq hc
  obtain ⟨fs, hfe, hfs⟩ := ec_obj (h3 a _ _ hc hwa)
  simp only at hfe
  subst hfe
  obtain ⟨c1, c2, c3, c4, c5, c6, c7⟩ := fc hr
  have htyk : (mty.getD ci []).getD k .int = ty := by rw [List.getD_eq_getElem?_getD, hty]; rfl
  have hpd : parseFieldDescriptor (rT k).2.2.1 = some ty := by rw [← htyk]; exact (c3 k hk).1
  obtain ⟨hn, hft⟩ := mfit_ok hfit hx
  have hl : k < fs.length := by rw [vrs_len hfs]; exact hk2
  have done : ∀ (H1 : Heap) (locs1 : List Loc), va_P D mcl (ws.set a (q, .inr (ci, fs.set k x))) H1 → va_D A (ws.set a (q, .inr (ci, fs.set k x))) → va_S A s.heap H1 locs1 → W p l e R s m args below meth c H1 locs1 cells slots Q (F0 m (pc + 3) ls rest) := fun H1 locs1 hP1 hD1 hS1 =>
    kk H1 locs1 (wd_set h1 h2 h3 hK h7 hwa (Or.inr (Or.inr (Or.inr ⟨Nat.le_add_right _ _, fs.set k x, by simp, vrs_set hfs hx⟩))) hP1 hD1) hS1
  by_cases hfl : (rT k).2.2.2 = true
  · obtain ⟨hi1, hi2⟩ := hfin hfl
    subst hi2
    have hmon : (rT k).1 = mon own := by
      rw [(c3 k hk).2]
      have : mown[own]? = some rn := by
        have hz : ∀ (ci : Nat) (r : vw_C), mcl[ci]? = some r → mown[ci]? = some r.1 := by
          intro ci r h
          have hz : (mcl.map (·.1)) = mown.take mcl.length := by decide +kernel
          have hlt := (List.getElem?_eq_some_iff.mp h).1
          have h9 : (mcl.map (·.1))[ci]? = some r.1 := by simp [h]
          rw [hz, List.getElem?_take_of_lt hlt] at h9
          exact h9
        exact hz own _ hr
      simp [mon, List.getD, this]
    exact va_putF (D := D) (cl := mcl) (C := rn) (T := rT) (N := rN) he hb hts c1 (fun k => (mty.getD own []).getD k .int) (fun k hk => (c3 k hk).1) c4 hown hK hP hD hS a hwa hr k hk (hts _ hlk) (fun _ h9 => h9) hfl hi1 hmon hpd hn hft hl hdg done
  · exact va_put (D := D) (cl := mcl) (C := rn) (T := rT) (N := rN) he hb hts c1 (fun k => (mty.getD ci []).getD k .int) (fun k hk => (c3 k hk).1) c4 hown hK hP hD hS a hwa hr k hk (hts _ hlk) (fun _ h9 => h9) (by simpa using hfl) hpd hn hft hl hdg done
theorem mint_at {i x : Int32} {vs : List MV} (h : mint ((mix i vs.length).bind fun j => vs[j]?) = some x) : vp_in i vs.length ∧ vs[i.toNatClampNeg]? = some (.inl x) := by
  cases hm : mix i vs.length with
  | none => simp [hm, mint] at h
  | some j =>
    obtain ⟨h1, h2, -⟩ := mix_of hm
    subst h2
    simp only [hm, Option.bind_some] at h
    unfold mint at h
    split at h
    · next y hy => cases h; exact ⟨h1, hy⟩
    · cases h
theorem mref_at {i : Int32} {x : Option Nat} {vs : List MV} (h : mref ((mix i vs.length).bind fun j => vs[j]?) = some x) : vp_in i vs.length ∧ vs[i.toNatClampNeg]? = some (.inr x) := by
  cases hm : mix i vs.length with
  | none => simp [hm, mref] at h
  | some j =>
    obtain ⟨h1, h2, -⟩ := mix_of hm
    subst h2
    simp only [hm, Option.bind_some] at h
    unfold mref at h
    split at h
    · next y hy => cases h; exact ⟨h1, hy⟩
    · cases h
theorem s_iald (he : p.tables.exec = Jvm.exec) (hb : c.code = cc) {a q : Nat} {i x : Int32} {vs : List MV} (hW : Wd D A s H ads h) (hq : ads[a]? = some q) (hc : h[a]? = some (0, vs)) (hv : mint ((mix i vs.length).bind fun j => vs[j]?) = some x) (hdg : decode cc pc = .ok (.iaload, 1))
    (kk : W p l e R s m args below meth c H locs cells slots Q (F0 m (pc + 1) ls (.int x :: rest))) : W p l e R s m args below meth c H locs cells slots Q (F0 m pc ls (.int i :: .ref q :: rest)) := by
  obtain ⟨ws, tys, h1, h2, h3, hP, hD, hK, h7⟩ := hW
  obtain ⟨e0, hwa⟩ := wd_cell h1 h2 hq hc
  obtain ⟨cA, f, t0, hfe, ht, hf⟩ := ec_int (h3 a _ _ hc hwa)
  simp only at hfe
  subst hfe
  obtain ⟨hin, hj⟩ := mint_at hv
  have hx := hf _ _ hj
  simp only [Sum.inl.injEq] at hx
  exact va_iald he hb hK hP a t0 hwa ht hin hdg (by rw [← hx]; exact kk)
theorem s_bald (he : p.tables.exec = Jvm.exec) (hb : c.code = cc) {a q : Nat} {i x : Int32} {vs : List MV} (hW : Wd D A s H ads h) (hq : ads[a]? = some q) (hc : h[a]? = some (1, vs)) (hv : mint ((mix i vs.length).bind fun j => vs[j]?) = some x) (hdg : decode cc pc = .ok (.baload, 1))
    (kk : W p l e R s m args below meth c H locs cells slots Q (F0 m (pc + 1) ls (.int x :: rest))) : W p l e R s m args below meth c H locs cells slots Q (F0 m pc ls (.int i :: .ref q :: rest)) := by
  obtain ⟨ws, tys, h1, h2, h3, hP, hD, hK, h7⟩ := hW
  obtain ⟨e0, hwa⟩ := wd_cell h1 h2 hq hc
  obtain ⟨cA, f, t0, hfe, ht, hf⟩ := ec_bool (h3 a _ _ hc hwa)
  simp only at hfe
  subst hfe
  obtain ⟨hin, hj⟩ := mint_at hv
  have hx := hf _ _ hj
  simp only [Sum.inl.injEq] at hx
  exact va_zald he hb hK hP a t0 hwa ht hin hdg (by rw [← hx]; exact kk)
theorem mtag_ref {t : Nat} (ht : t = 2 ∨ t = 3 ∨ t = 4) : (mtag t).isReference = true := by rcases ht with h | h | h <;> subst h <;> rfl
theorem s_aald (he : p.tables.exec = Jvm.exec) (hb : c.code = cc) {a q t : Nat} {i : Int32} {x : Option Nat} {vs : List MV} (hW : Wd D A s H ads h) (hq : ads[a]? = some q) (hc : h[a]? = some (t, vs)) (htt : t = 2 ∨ t = 3 ∨ t = 4) (hv : mref ((mix i vs.length).bind fun j => vs[j]?) = some x) (hdg : decode cc pc = .ok (.aaload, 1))
    (kk : ∀ z, vr ads (.inr x) z → W p l e R s m args below meth c H locs cells slots Q (F0 m (pc + 1) ls (z :: rest))) : W p l e R s m args below meth c H locs cells slots Q (F0 m pc ls (.int i :: .ref q :: rest)) := by
  obtain ⟨ws, tys, h1, h2, h3, hP, hD, hK, h7⟩ := hW
  obtain ⟨e0, hwa⟩ := wd_cell h1 h2 hq hc
  obtain ⟨cA, f, t0, hfe, ht, hf⟩ := ec_ref htt (h3 a _ _ hc hwa)
  simp only at hfe
  subst hfe
  obtain ⟨hin, hj⟩ := mref_at hv
  have hlt : i.toNatClampNeg < vs.length := Nat.not_le.mp fun q => hin (Or.inr q)
  exact W.aald (v := va_rf (f i.toNatClampNeg)) (ty := mtag t) he hb (hP a _ hwa) ((hK.2 t0 _ ht).1 vs.length (fun j => va_rf (f j))) (mtag_ref htt) (fun q => by cases q) (by show ¬ (i < 0 ∨ (arrV _ _ _).slots.size ≤ _); rw [arrV_size]; exact hin) (by show (arrV _ _ _).slots[_]? = _; rw [arrV_read _ _ hlt]) rfl rfl hdg (kk _ (hf _ _ hj).1)
theorem ec_upd {tys : List (ClassId × FieldType)} {ty : FieldType} {vs : List MV} {cA : ClassId} {f : Nat → Int32} {t0 j : Nat} {x : Int32} (ht : tys[t0]? = some (cA, ty)) (hf : ∀ (j : Nat) (v : MV), vs[j]? = some v → v = .inl (f j)) : ecI tys ty (vs.set j (.inl x)) (.inl (cA, vs.length, .inl (upd f j x))) := by
  refine ⟨cA, upd f j x, t0, by simp, ht, fun k v hk => ?_⟩
  by_cases hkj : j = k
  · subst hkj
    rw [List.getElem?_set] at hk
    simp only [if_true] at hk
    split at hk
    · cases hk; rw [pk_us]
    · cases hk
  · rw [List.getElem?_set_ne hkj] at hk
    rw [pk_un (fun q => hkj q.symm)]
    exact hf k v hk
theorem s_iast (he : p.tables.exec = Jvm.exec) (hb : c.code = cc) {a q j : Nat} {i x : Int32} {vs : List MV} (hW : Wd D A s H ads h) (hS : va_S A s.heap H locs) (hq : ads[a]? = some q) (hc : h[a]? = some (0, vs)) (hj : mix i vs.length = some j) (hdg : decode cc pc = .ok (.iastore, 1))
    (kk : ∀ (H1 : Heap) (locs1 : List Loc), Wd D A s H1 ads (h.set a (0, vs.set j (.inl x))) → va_S A s.heap H1 locs1 → W p l e R s m args below meth c H1 locs1 cells slots Q (F0 m (pc + 1) ls rest)) : W p l e R s m args below meth c H locs cells slots Q (F0 m pc ls (.int x :: .int i :: .ref q :: rest)) := by
  obtain ⟨ws, tys, h1, h2, h3, hP, hD, hK, h7⟩ := hW
  obtain ⟨e0, hwa⟩ := wd_cell h1 h2 hq hc
  obtain ⟨cA, f, t0, hfe, ht, hf⟩ := ec_int (h3 a _ _ hc hwa)
  simp only at hfe
  subst hfe
  obtain ⟨hin, hj2, -⟩ := mix_of hj
  subst hj2
  exact va_iast he hb hK hP hD hS a t0 hwa ht hin hdg fun H1 locs1 hP1 hD1 hS1 => kk H1 locs1 (wd_set h1 h2 h3 hK h7 hwa (Or.inl ⟨rfl, ec_upd ht hf⟩) hP1 hD1) hS1
theorem s_bast (he : p.tables.exec = Jvm.exec) (hb : c.code = cc) {a q j : Nat} {i x : Int32} {vs : List MV} (hW : Wd D A s H ads h) (hS : va_S A s.heap H locs) (hq : ads[a]? = some q) (hc : h[a]? = some (1, vs)) (hx : x = 0 ∨ x = 1) (hj : mix i vs.length = some j) (hdg : decode cc pc = .ok (.bastore, 1))
    (kk : ∀ (H1 : Heap) (locs1 : List Loc), Wd D A s H1 ads (h.set a (1, vs.set j (.inl x))) → va_S A s.heap H1 locs1 → W p l e R s m args below meth c H1 locs1 cells slots Q (F0 m (pc + 1) ls rest)) : W p l e R s m args below meth c H locs cells slots Q (F0 m pc ls (.int x :: .int i :: .ref q :: rest)) := by
  obtain ⟨ws, tys, h1, h2, h3, hP, hD, hK, h7⟩ := hW
  obtain ⟨e0, hwa⟩ := wd_cell h1 h2 hq hc
  obtain ⟨cA, f, t0, hfe, ht, hf⟩ := ec_bool (h3 a _ _ hc hwa)
  simp only at hfe
  subst hfe
  obtain ⟨hin, hj2, -⟩ := mix_of hj
  subst hj2
  have hnar : vp_nar .boolean x = x := by rcases hx with h | h <;> subst h <;> decide
  exact va_zast he hb hK hP hD hS a t0 hwa ht hin hdg fun H1 locs1 hP1 hD1 hS1 => by
    rw [hnar] at hP1 hD1
    exact kk H1 locs1 (wd_set h1 h2 h3 hK h7 hwa (Or.inr (Or.inl ⟨rfl, ec_upd ht hf⟩)) hP1 hD1) hS1
theorem s_alen (he : p.tables.exec = Jvm.exec) (hb : c.code = cc) {a q t : Nat} {vs : List MV} (hW : Wd D A s H ads h) (hq : ads[a]? = some q) (hc : h[a]? = some (t, vs)) (htt : t < 5) (hdg : decode cc pc = .ok (.arraylength, 1))
    (kk : W p l e R s m args below meth c H locs cells slots Q (F0 m (pc + 1) ls (.int (Int32.ofNat vs.length) :: rest))) : W p l e R s m args below meth c H locs cells slots Q (F0 m pc ls (.ref q :: rest)) := by
  obtain ⟨ws, tys, h1, h2, h3, hP, hD, hK, h7⟩ := hW
  obtain ⟨e0, hwa⟩ := wd_cell h1 h2 hq hc
  rcases h3 a _ _ hc hwa with ⟨_, cA, f, t0, hfe, ht, hf⟩ | ⟨_, cA, f, t0, hfe, ht, hf⟩ | ⟨_, cA, f, t0, hfe, ht, hf⟩ | ⟨h10, _⟩
  · simp only at hfe; subst hfe; exact va_alen he hb hK hP a t0 hwa ht rfl hdg kk
  · simp only at hfe; subst hfe; exact va_alen he hb hK hP a t0 hwa ht rfl hdg kk
  · simp only at hfe; subst hfe; exact va_alen he hb hK hP a t0 hwa ht rfl hdg kk
  · simp only at h10; omega
theorem s_new (he : p.tables.exec = Jvm.exec) (hb : c.code = cc) (hown : s.vm.findClass (mon own) = some m.cls) (hts : ∀ w ∈ lw_g, w.before args s = true) (hA : ∀ q, s.heap.size ≤ q → A q) {i ci : Nat} (hW : Wd D A s H ads h) (hS : va_S A s.heap H locs) (hf : mk2 mlN own i = some ci) (hcl : cells + 1 ≤ R.cells) (hsl : slots + (mty.getD ci []).length ≤ R.slots) (hdg : decode cc pc = .ok (.new i, 3))
    (kk : ∀ (H1 : Heap) (q : Nat), Wd D A s H1 (ads ++ [q]) (h ++ [(10 + ci, (mty.getD ci []).map mdef)]) → va_S A s.heap H1 locs → W p l e R s m args below meth c H1 locs (cells + 1) (slots + (mty.getD ci []).length) Q (F0 m (pc + 3) ls (.ref q :: rest))) : W p l e R s m args below meth c H locs cells slots Q (F0 m pc ls rest) := by
  obtain ⟨ws, tys, h1, h2, h3, hP, hD, hK, h7⟩ := hW
  obtain ⟨⟨rn, rT, rN⟩, hr, hlk⟩ := fn hf
  obtain ⟨c1, c2, c3, c4, c5, c6, c7⟩ := fc hr
  have hN : (mty.getD ci []).length = rN := c2
  refine va_new (D := D) (cl := mcl) (ci := ci) (fs := (mty.getD ci []).map defaultValue) (C := rn) (T := rT) (N := rN) he hb hts c1 (fun k => (mty.getD ci []).getD k .int) (fun k hk => (c3 k hk).1) hown (hts _ hlk) (hts _ c6) (hts _ c7) hK hP hD hS hA hr (fun j hj => ?_) hcl (by rw [← hN]; exact hsl) hdg fun q H1 hP1 hD1 hS1 => ?_
  · rw [← hN] at hj
    show defaultValue ((mty.getD ci []).getD j .int) = _
    generalize mty.getD ci [] = L at hj ⊢
    simp [vp_V, List.getD_eq_getElem?_getD, hj]
  · rw [← hN]
    exact kk H1 q (wd_push (ts := []) h1 h2 h3 (by simpa using hK) (by simpa using h7) (Or.inr (Or.inr (Or.inr ⟨Nat.le_add_right _ _, _, by simp, mdef_ok c5⟩))) hP1 hD1) hS1
theorem s_newi (he : p.tables.exec = Jvm.exec) (hb : c.code = cc) (hts : ∀ w ∈ lw_g, w.before args s = true) (hA : ∀ q, s.heap.size ≤ q → A q) {n : Int32} (hW : Wd D A s H ads h) (hS : va_S A s.heap H locs) (hn : ¬ n < 0) (hn2 : n.toNatClampNeg ≤ 100000) (hcl : cells + 1 ≤ R.cells) (hsl : slots + n.toNatClampNeg ≤ R.slots) (hdg : decode cc pc = .ok (.newarray .int, 2))
    (kk : ∀ (H1 : Heap) (q : Nat), Wd D A s H1 (ads ++ [q]) (h ++ [(0, List.replicate n.toNatClampNeg (.inl 0))]) → va_S A s.heap H1 locs → W p l e R s m args below meth c H1 locs (cells + 1) (slots + n.toNatClampNeg) Q (F0 m (pc + 2) ls (.ref q :: rest))) : W p l e R s m args below meth c H locs cells slots Q (F0 m pc ls (.int n :: rest)) := by
  obtain ⟨ws, tys, h1, h2, h3, hP, hD, hK, h7⟩ := hW
  refine va_newa (D := D) (cl := mcl) (atype := .int) (ty := .int) (a0 := (n.toNatClampNeg, .inl (fun _ => 0))) he hb (hts _ w_ai) rfl hK hP hD hS hA (fun cA => rfl) hn rfl (by show _ * 4 ≤ _; omega) hcl hsl hdg fun q cA H1 hK1 hP1 hD1 hS1 => ?_
  refine kk H1 q (wd_push (ts := [(cA, .int)]) h1 h2 h3 hK1 (fun k x hx => ?_) (Or.inl ⟨rfl, cA, fun _ => 0, tys.length, by simp, by simp, fun j v hj => ?_⟩) hP1 hD1) hS1
  · by_cases hk : k < tys.length
    · rw [List.getElem?_append_left hk] at hx; exact h7 k x hx
    · have : k = tys.length := by have := (List.getElem?_eq_some_iff.mp hx).1; simp at this; omega
      subst this; simp at hx; subst hx; trivial
  · simp only [List.getElem?_replicate] at hj
    split at hj
    · exact (Option.some.inj hj).symm
    · cases hj
theorem s_newz (he : p.tables.exec = Jvm.exec) (hb : c.code = cc) (hts : ∀ w ∈ lw_g, w.before args s = true) (hA : ∀ q, s.heap.size ≤ q → A q) {n : Int32} (hW : Wd D A s H ads h) (hS : va_S A s.heap H locs) (hn : ¬ n < 0) (hn2 : n.toNatClampNeg ≤ 100000) (hcl : cells + 1 ≤ R.cells) (hsl : slots + n.toNatClampNeg ≤ R.slots) (hdg : decode cc pc = .ok (.newarray .boolean, 2))
    (kk : ∀ (H1 : Heap) (q : Nat), Wd D A s H1 (ads ++ [q]) (h ++ [(1, List.replicate n.toNatClampNeg (.inl 0))]) → va_S A s.heap H1 locs → W p l e R s m args below meth c H1 locs (cells + 1) (slots + n.toNatClampNeg) Q (F0 m (pc + 2) ls (.ref q :: rest))) : W p l e R s m args below meth c H locs cells slots Q (F0 m pc ls (.int n :: rest)) := by
  obtain ⟨ws, tys, h1, h2, h3, hP, hD, hK, h7⟩ := hW
  refine va_newa (D := D) (cl := mcl) (atype := .boolean) (ty := .boolean) (a0 := (n.toNatClampNeg, .inl (fun _ => 0))) he hb (hts _ w_az) rfl hK hP hD hS hA (fun cA => rfl) hn rfl (by show _ * 1 ≤ _; omega) hcl hsl hdg fun q cA H1 hK1 hP1 hD1 hS1 => ?_
  refine kk H1 q (wd_push (ts := [(cA, .boolean)]) h1 h2 h3 hK1 (fun k x hx => ?_) (Or.inr (Or.inl ⟨rfl, cA, fun _ => 0, tys.length, by simp, by simp, fun j v hj => ?_⟩)) hP1 hD1) hS1
  · by_cases hk : k < tys.length
    · rw [List.getElem?_append_left hk] at hx; exact h7 k x hx
    · have : k = tys.length := by have := (List.getElem?_eq_some_iff.mp hx).1; simp at this; omega
      subst this; simp at hx; subst hx; trivial
  · simp only [List.getElem?_replicate] at hj
    split at hj
    · exact (Option.some.inj hj).symm
    · cases hj
end S2
end
section
/-! ARRAYS OF ARRAYS -/
section S3
variable {p : Program} {l : Launch} {e : Env} {R : Room} {s : State} {m : MethodId} {args : Array Value} {below : List Frame} {meth : Method} {c : Code} {H : Heap} {locs : List Loc} {cells slots : Nat} {Q : State → Prop} {cc : ByteArray} {pc : Nat} {ls : Array Slot} {ads : List Nat} {rest : List Value} {D : va_G} {A : Nat → Prop} {own : Nat} {h : List MC}
theorem s_WastN (he : p.tables.exec = Jvm.exec) (hb : c.code = cc) {a : Addr} {cell : Cell} {ty : FieldType} {j : Int32} (hty : ty.isReference = true) (hcell : H[a]? = some cell) (harr : s.isArrayOf cell ty) (hknown : cell.vm ≠ .unknown) (hin : ¬ (j < 0 ∨ cell.slots.size ≤ j.toNatClampNeg)) (hdg : decode cc pc = .ok (.aastore, 1))
    (kk : ∀ H' : Heap, H'[a]? = some (cell.setSlot j.toNatClampNeg .null) → H'.size = H.size → (∀ q, q ≠ a → H'[q]? = H[q]?) → W p l e R s m args below meth c H' (locs ++ [⟨a, j.toNatClampNeg⟩]) cells slots Q (F0 m (pc + 1) ls rest)) :
    W p l e R s m args below meth c H locs cells slots Q (F0 m pc ls (.null :: .int j :: .ref a :: rest)) := by
  intro T hT X
  have hT' : T.heap[a]? = some cell := by rw [hT]; exact hcell
  have hTa := State.isArrayOf_alike X.warmed.alike harr
  have hfit : T.fitsSlot cell.cls cell.vm j.toNatClampNeg .null = true := by
    obtain ⟨hobj, k, hk, comp, hkind⟩ := hTa
    have hf : fits ty .null = true := by cases ty <;> first | rfl | (simp [FieldType.isReference] at hty)
    cases hvm : cell.vm <;> first | exact absurd hvm (hobj _) | simp [State.fitsSlot, State.slotType?, hk, hkind, hf]
  have hlt : a < T.heap.size := (Array.getElem?_eq_some_iff.mp hT').1
  obtain ⟨t', a1, b1⟩ := kk _ (heapAt_setCell_self _ hlt) (by rw [size_setCell, hT]) (fun q hq => by rw [heapAt_setCell_ne _ (Ne.symm hq), hT]) (T.setCell a (cell.setSlot j.toNatClampNeg .null)) rfl (X.stored hT' _ _)
  refine ⟨t', ?_, b1⟩
  have hdg' : decode c.code pc = .ok (.aastore, 1) := by rw [hb]; exact hdg
  jvm_step X.here [he, hdg']
  refine aastore.wp_of_null (c := cell) (t := ty) X.here.top rfl hT' hTa hin hknown (Nat.not_le.mp fun q => hin (Or.inr q)) hfit ?_
  intro acts
  rw [afterInstr_ok]
  exact a1
theorem ecR_upd {tys : List (ClassId × FieldType)} {ty : FieldType} {vs : List MV} {cA : ClassId} {f : Nat → Option Nat} {t0 j : Nat} {o z : Option Nat} (ht : tys[t0]? = some (cA, ty)) (hz : vr ads (.inr o) (va_rf z)) (hf : ∀ (j : Nat) (v : MV), vs[j]? = some v → vr ads v (va_rf (f j)) ∧ ∃ o, v = .inr o) : ecR ads tys ty (vs.set j (.inr o)) (.inl (cA, vs.length, .inr (.inr (.inr (.inr (va_up f j z)))))) := by
  refine ⟨cA, va_up f j z, t0, by simp, ht, fun k v hk => ?_⟩
  by_cases hkj : j = k
  · subst hkj
    rw [List.getElem?_set] at hk
    simp only [if_true] at hk
    split at hk
    · cases hk; exact ⟨by simpa [va_up] using hz, o, rfl⟩
    · cases hk
  · rw [List.getElem?_set_ne hkj] at hk
    obtain ⟨h1, h2⟩ := hf k v hk
    exact ⟨by simpa [va_up, show ¬ k = j from fun q => hkj q.symm] using h1, h2⟩
theorem s_aastN (he : p.tables.exec = Jvm.exec) (hb : c.code = cc) {a q j t : Nat} {i : Int32} {vs : List MV} (hW : Wd D A s H ads h) (hS : va_S A s.heap H locs) (hq : ads[a]? = some q) (hc : h[a]? = some (t, vs)) (htt : t = 2 ∨ t = 3 ∨ t = 4) (hj : mix i vs.length = some j) (hdg : decode cc pc = .ok (.aastore, 1))
    (kk : ∀ (H1 : Heap) (locs1 : List Loc), Wd D A s H1 ads (h.set a (t, vs.set j (.inr none))) → va_S A s.heap H1 locs1 → W p l e R s m args below meth c H1 locs1 cells slots Q (F0 m (pc + 1) ls rest)) : W p l e R s m args below meth c H locs cells slots Q (F0 m pc ls (.null :: .int i :: .ref q :: rest)) := by
  obtain ⟨ws, tys, h1, h2, h3, hP, hD, hK, h7⟩ := hW
  obtain ⟨e0, hwa⟩ := wd_cell h1 h2 hq hc
  obtain ⟨cA, f, t0, hfe, ht, hf⟩ := ec_ref htt (h3 a _ _ hc hwa)
  simp only at hfe
  subst hfe
  obtain ⟨hin, hj2, -⟩ := mix_of hj
  subst hj2
  refine s_WastN (ty := mtag t) he hb (mtag_ref htt) (hP a _ hwa) ((hK.2 t0 _ ht).1 vs.length (fun j => va_rf (f j))) (fun q => by cases q) (by show ¬ (i < 0 ∨ (arrV _ _ _).slots.size ≤ _); rw [arrV_size]; exact hin) hdg fun H1 e1 z oq => ?_
  have hat : va_at D mcl (q, .inl (cA, vs.length, .inr (.inr (.inr (.inr (va_up f i.toNatClampNeg none)))))) H1 := by
    show H1[q]? = some (vp_cell _ _)
    rw [e1, vp_cell_q, vp_cell_q, arrV_store]
    congr 2
    funext k
    by_cases hk : k = i.toNatClampNeg
    · subst hk; simp [updV, va_up, va_rf]
    · simp [updV, va_up, hk]
  exact kk H1 _ (wd_set h1 h2 h3 hK h7 hwa (Or.inr (Or.inr (Or.inl ⟨htt, ecR_upd (z := none) ht (show vr ads (.inr none) (va_rf none) from rfl) hf⟩))) (hP.set hD hwa hat oq) (hD.set hwa)) (hS.put z oq (hD.2 a _ hwa))
/-- the class of a cell that may stand in an array of arrays -/
theorem s_comp {tys : List (ClassId × FieldType)} {t u cA : Nat} {us : List MV} {e0 : va_E} (htt : t = 2 ∨ t = 3 ∨ t = 4) (hu : u = melt t) (hK : va_K D mcl tys s) (h7 : ∀ (k : Nat) (q : ClassId × FieldType), tys[k]? = some q → rk s q.1 q.2) (hec : ec ads tys (u, us) e0) {t0 : Nat} (ht : tys[t0]? = some (cA, mtag t)) :
    ∃ (kA kc : Class) (comp : ClassId) (x : vp_A), s.vm.classes[cA]? = some kA ∧ kA.kind = .array comp (mtag t) ∧ s.vm.classes[comp]? = some kc ∧ e0 = .inl (comp, x) := by
  have h9 := h7 t0 _ ht
  rcases htt with h | h | h
  · subst h; subst hu
    obtain ⟨kA, kc, comp, g1, g2, g3, g4⟩ := h9
    obtain ⟨cB, f, t1, hfe, ht1, -⟩ := ec_int hec
    have hB : s.vm.findClass (FieldType.array .int).toString = some cB := (hK.2 t1 _ ht1).2
    cases g3.symm.trans hB
    exact ⟨kA, kc, _, _, g1, g2, g4, hfe⟩
  · subst h; subst hu
    obtain ⟨kA, kc, comp, g1, g2, g3, g4⟩ := h9
    obtain ⟨cB, f, t1, hfe, ht1, -⟩ := ec_ref (t := 2) (Or.inl rfl) hec
    have hB : s.vm.findClass (FieldType.array (.array .int)).toString = some cB := (hK.2 t1 _ ht1).2
    cases g3.symm.trans hB
    exact ⟨kA, kc, _, _, g1, g2, g4, hfe⟩
  · subst h; subst hu
    obtain ⟨kA, kc, comp, g1, g2, g3, g4⟩ := h9
    obtain ⟨cB, f, t1, hfe, ht1, -⟩ := ec_bool hec
    have hB : s.vm.findClass (FieldType.array .boolean).toString = some cB := (hK.2 t1 _ ht1).2
    cases g3.symm.trans hB
    exact ⟨kA, kc, _, _, g1, g2, g4, hfe⟩
theorem s_aast (he : p.tables.exec = Jvm.exec) (hb : c.code = cc) {a b q qb j t u : Nat} {i : Int32} {vs us : List MV} (hW : Wd D A s H ads h) (hS : va_S A s.heap H locs) (hq : ads[a]? = some q) (hqb : ads[b]? = some qb) (hc : h[a]? = some (t, vs)) (hcb : h[b]? = some (u, us)) (htt : t = 2 ∨ t = 3 ∨ t = 4) (hu : u = melt t) (hj : mix i vs.length = some j) (hdg : decode cc pc = .ok (.aastore, 1))
    (kk : ∀ (H1 : Heap) (locs1 : List Loc), Wd D A s H1 ads (h.set a (t, vs.set j (.inr (some b)))) → va_S A s.heap H1 locs1 → W p l e R s m args below meth c H1 locs1 cells slots Q (F0 m (pc + 1) ls rest)) : W p l e R s m args below meth c H locs cells slots Q (F0 m pc ls (.ref qb :: .int i :: .ref q :: rest)) := by
  obtain ⟨ws, tys, h1, h2, h3, hP, hD, hK, h7⟩ := hW
  obtain ⟨e0, hwa⟩ := wd_cell h1 h2 hq hc
  obtain ⟨eb, hwb⟩ := wd_cell h1 h2 hqb hcb
  obtain ⟨cA, f, t0, hfe, ht, hf⟩ := ec_ref htt (h3 a _ _ hc hwa)
  simp only at hfe
  subst hfe
  obtain ⟨hin, hj2, -⟩ := mix_of hj
  subst hj2
  obtain ⟨kA, kc, comp, xb, k1, k2, k3, k4⟩ := s_comp htt hu hK h7 (h3 b _ _ hcb hwb) ht
  simp only at k4
  subst k4
  have hlt : i.toNatClampNeg < vs.length := Nat.not_le.mp fun q => hin (Or.inr q)
  have h0 : ¬ i < 0 := fun q => hin (Or.inl q)
  have hcv : H[qb]? = some (vp_cell comp xb) := hP b _ hwb
  have hcvm : (vp_cell comp xb).vm = .none := by obtain ⟨n, f | f | f | f | f⟩ := xb <;> rfl
  have hccl : (vp_cell comp xb).cls = comp := by obtain ⟨n, f | f | f | f | f⟩ := xb <;> rfl
  refine W.aast he hb (hP a _ hwa) (fun q h => by cases h) (fun h => by cases h) k1 k2 (mtag_ref htt) k3 ⟨h0, by show _ < (arrV _ _ _).slots.size; rw [arrV_size]; exact hlt⟩ hcv (fun q h => by rw [hcvm] at h; cases h) (by rw [hccl]; exact k3) (by rw [hccl]; exact va_asg _ _) rfl rfl hdg fun H1 e1 z oq => ?_
  have hat : va_at D mcl (q, .inl (cA, vs.length, .inr (.inr (.inr (.inr (va_up f i.toNatClampNeg (some qb))))))) H1 := by
    show H1[q]? = some (vp_cell _ _)
    rw [e1, vp_cell_q, vp_cell_q, arrV_store]
    congr 2
    funext k
    by_cases hk : k = i.toNatClampNeg
    · subst hk; simp [updV, va_up, va_rf]
    · simp [updV, va_up, hk]
  exact kk H1 _ (wd_set h1 h2 h3 hK h7 hwa (Or.inr (Or.inr (Or.inl ⟨htt, ecR_upd ht ⟨qb, hqb, rfl⟩ hf⟩))) (hP.set hD hwa hat oq) (hD.set hwa)) (hS.put z oq (hD.2 a _ hwa))
theorem s_anew (he : p.tables.exec = Jvm.exec) (hb : c.code = cc) (hown : s.vm.findClass (mon own) = some m.cls) (hts : ∀ w ∈ lw_g, w.before args s = true) (hXf : Xf s) (hA : ∀ q, s.heap.size ≤ q → A q) {n : Int32} {i t : Nat} (hW : Wd D A s H ads h) (hS : va_S A s.heap H locs) (hf : mk2 mlA own i = some t) (htt : t = 2 ∨ t = 3) (hn : ¬ n < 0) (hn2 : n.toNatClampNeg ≤ 100000) (hcl : cells + 1 ≤ R.cells) (hsl : slots + n.toNatClampNeg ≤ R.slots) (hdg : decode cc pc = .ok (.anewarray i, 3))
    (kk : ∀ (H1 : Heap) (q : Nat), Wd D A s H1 (ads ++ [q]) (h ++ [(t, List.replicate n.toNatClampNeg (.inr none))]) → va_S A s.heap H1 locs → W p l e R s m args below meth c H1 locs (cells + 1) (slots + n.toNatClampNeg) Q (F0 m (pc + 3) ls (.ref q :: rest))) : W p l e R s m args below meth c H locs cells slots Q (F0 m pc ls (.int n :: rest)) := by
  obtain ⟨ws, tys, h1, h2, h3, hP, hD, hK, h7⟩ := hW
  obtain ⟨ty, hmt, hover, hlk⟩ : ∃ ty : FieldType, mtag t = .array ty ∧ (Cond.arrayOver (.array ty)).before args s = true ∧ Cond.classLink (mon own) i (FieldType.array ty).toString ∈ lw_g := by
    have hl := fa hf htt
    rcases htt with h | h
    · subst h; exact ⟨.int, rfl, hXf.1 _ (Or.inl rfl), hl⟩
    · subst h; exact ⟨.array .int, rfl, hXf.1 _ (Or.inr (Or.inl rfl)), hl⟩
  refine W.anewA he hb hown (hts _ hlk) hover rfl hdg rfl hn (by omega) hcl hsl fun cA kA comp f1 f2 f3 f4 => ?_
  generalize hH1 : H.push ({ cls := cA, slots := Array.replicate n.toNatClampNeg .null, vm := .none } : Cell) = H1
  have z1 : H1.size = H.size + 1 := by rw [← hH1, Array.size_push]
  have e1 : H1[H.size]? = some (arrV cA n.toNatClampNeg (fun _ => .null)) := by rw [← hH1, Array.getElem?_push_size, ← arrV_new]
  have o1 : ∀ q : Nat, q < H.size → H1[q]? = H[q]? := fun q hq => by rw [← hH1, Array.getElem?_push, if_neg (Nat.ne_of_lt hq)]
  have hAr : ArrOfT s cA (.array ty) := fun N z => ⟨(fun k h => by cases h), kA, f2, comp, f3⟩
  obtain ⟨kc, hkc, -⟩ := Vm.findClass_spec f4
  have hk : ∀ (k : Nat) (x : Nat × va_E), ws[k]? = some x → H1[x.1]? = H[x.1]? := fun k x hx => o1 x.1 ((hP k x hx).lt)
  have app1 : ∀ {α : Type} (l : List α) (y : α) (k : Nat) (x : α), (l ++ [y])[k]? = some x → l[k]? = some x ∨ x = y := by
    intro α l y k x hx
    by_cases hl : k < l.length
    · rw [List.getElem?_append_left hl] at hx; exact Or.inl hx
    · have : k = l.length := by have := (List.getElem?_eq_some_iff.mp hx).1; simp at this; omega
      subst this; simp at hx; exact Or.inr hx.symm
  refine kk H1 H.size (wd_push (ts := [(cA, .array ty)]) (e' := .inl (cA, n.toNatClampNeg, .inr (.inr (.inr (.inr (fun _ => none)))))) h1 h2 h3 ⟨hK.1, fun k x hx => ?_⟩ (fun k x hx => ?_) (Or.inr (Or.inr (Or.inl ⟨by simp only; omega, cA, fun _ => none, tys.length, by simp, by simp [hmt], fun j v hj => ?_⟩))) ((hP.kept hk).app (fun k x hx => ?_)) (hD.push hP rfl (hA _ hS.1))) ⟨Nat.le_trans hS.1 (by omega), fun x h1 h2 => (o1 x (Nat.lt_of_lt_of_le h1 hS.1)).trans (hS.2.1 x h1 h2), hS.2.2⟩
  · rcases app1 _ _ _ _ hx with h | h
    · exact hK.2 k x h
    · subst h; exact ⟨hAr, f1⟩
  · rcases app1 _ _ _ _ hx with h | h
    · exact h7 k x h
    · subst h; exact ⟨kA, kc, comp, f2, f3, f4, hkc⟩
  · simp only [List.getElem?_replicate] at hj
    split at hj
    · cases hj; exact ⟨rfl, none, rfl⟩
    · cases hj
  · have hz : k < 1 := (List.getElem?_eq_some_iff.mp hx).1
    rw [show k = 0 by omega] at hx
    cases hx
    show H1[H.size]? = some (vp_cell _ _)
    rw [e1, vp_cell_q]
    rfl
end S3
end
section
/-! new boolean[n][k] -/
theorem wd_app {D : va_G} {A : Nat → Prop} {s : State} {H1 : Heap} {ads ads' : List Nat} {h h' : List MC} {ws ws' : va_W} {tys ts : List (ClassId × FieldType)} (h1 : ws.map (·.1) = ads) (h2 : h.length = ws.length) (h3 : ∀ (a : Nat) (c : MC) (q : Nat × va_E), h[a]? = some c → ws[a]? = some q → ec ads tys c q.2) (g1 : ws'.map (·.1) = ads') (g2 : h'.length = ws'.length)
    (h6 : va_K D mcl (tys ++ ts) s) (h7 : ∀ (k : Nat) (q : ClassId × FieldType), (tys ++ ts)[k]? = some q → rk s q.1 q.2) (he : ∀ (a : Nat) (c : MC) (q : Nat × va_E), h'[a]? = some c → ws'[a]? = some q → ec (ads ++ ads') (tys ++ ts) c q.2) (hP : va_P D mcl (ws ++ ws') H1) (hD : va_D A (ws ++ ws')) : Wd D A s H1 (ads ++ ads') (h ++ h') := by
  refine ⟨ws ++ ws', tys ++ ts, by simp [h1, g1], by simp [h2, g2], ?_, hP, hD, h6, h7⟩
  intro b c2 q2 hb hw
  by_cases hi : b < ws.length
  · rw [List.getElem?_append_left (by omega)] at hb
    rw [List.getElem?_append_left hi] at hw
    exact ec_mono (h3 b c2 q2 hb hw)
  · rw [List.getElem?_append_right (by omega)] at hb hw
    rw [h2] at hb
    exact he _ c2 q2 hb hw
section S3b
variable {p : Program} {l : Launch} {e : Env} {R : Room} {s : State} {m : MethodId} {args : Array Value} {below : List Frame} {meth : Method} {c : Code} {H : Heap} {locs : List Loc} {cells slots : Nat} {Q : State → Prop} {cc : ByteArray} {pc : Nat} {ls : Array Slot} {ads : List Nat} {rest : List Value} {D : va_G} {A : Nat → Prop} {own : Nat} {h : List MC}
theorem grid_outer (c : ClassId) (N h0 : Nat) : ∀ i : Nat, Jvm.Free.Multi.outerC c N h0 i = arrV c N (fun j => va_rf (if j < i then some (h0 + 1 + j) else none))
  | 0 => by
    show ({ cls := c, slots := Array.replicate N .null, vm := .none } : Cell) = _
    rw [arrV_new]
    refine congrArg (arrV c N) (funext fun j => ?_)
    simp [va_rf]
  | i + 1 => by
    show (Jvm.Free.Multi.outerC c N h0 i).setSlot i (.ref (h0 + 1 + i)) = _
    rw [grid_outer c N h0 i, arrV_store]
    refine congrArg (arrV c N) (funext fun j => ?_)
    by_cases hj : j = i
    · subst hj; simp [updV, va_rf]
    · by_cases h : j < i
      · simp [updV, hj, h, Nat.lt_succ_of_lt h]
      · simp [updV, hj, h, show ¬ j < i + 1 by omega]
set_option maxHeartbeats 4000000 in
theorem s_mna (he : p.tables.exec = Jvm.exec) (hb : c.code = cc) (hown : s.vm.findClass (mon own) = some m.cls) (hts : ∀ w ∈ lw_g, w.before args s = true) (hXf : Xf s) (hA : ∀ q, s.heap.size ≤ q → A q) {n k : Int32} {i : Nat} (hW : Wd D A s H ads h) (hS : va_S A s.heap H locs) (hf : mk2 mlA own i = some 4) (hn : ¬ n < 0) (hk : ¬ k < 0) (hn2 : n.toNatClampNeg ≤ 1000) (hk2 : k.toNatClampNeg ≤ 1000) (hcl : cells + (1 + n.toNatClampNeg) ≤ R.cells) (hsl : slots + (n.toNatClampNeg + n.toNatClampNeg * k.toNatClampNeg) ≤ R.slots) (hdg : decode cc pc = .ok (.multianewarray i 2, 4))
    (kk : ∀ (H1 : Heap) (q : Nat) (ads2 : List Nat), Wd D A s H1 (ads ++ (q :: ads2)) (h ++ mgrid h.length n.toNatClampNeg k.toNatClampNeg) → va_S A s.heap H1 locs → W p l e R s m args below meth c H1 locs (cells + 1 + n.toNatClampNeg) (slots + n.toNatClampNeg + n.toNatClampNeg * k.toNatClampNeg) Q (F0 m (pc + 4) ls (.ref q :: rest))) : W p l e R s m args below meth c H locs cells slots Q (F0 m pc ls (.int k :: .int n :: rest)) := by
  obtain ⟨ws, tys, h1, h2, h3, hP, hD, hK, h7⟩ := hW
  have hover : (Cond.arrayOver (.array .boolean)).before args s = true := hXf.1 _ (Or.inr (Or.inr rfl))
  have hlk : Cond.classLink (mon own) i "[[Z" ∈ lw_g := by
    obtain ⟨pp, hp⟩ := allz_mem okA _ (mk2_mem hf)
    simp only [ckA, if_true] at hp
    exact wat_mem hp
  obtain ⟨cq, cr, kq, z1, z2, z3, z4, z5⟩ := arrayOverA_spec hover
  obtain ⟨kc, hkc, -⟩ := Vm.findClass_spec z1
  intro T hT X
  obtain ⟨vm₁, cA, comp, -, fA, fC, hO, hI, X', step⟩ := X.multianewarray2F he hown (ty := .boolean) (hts _ hlk) hover (hts _ w_az) (g := F0 m pc ls (.int k :: .int n :: rest)) rfl (by rw [hb]; exact hdg) rfl hn hk (by omega) (by show _ * 1 ≤ _; omega) (by omega) rfl rfl hcl hsl
  cases z1.symm.trans fC
  cases z5.symm.trans fA
  generalize hF : Jvm.Free.Multi.fill (T.setVm vm₁) cr cq n.toNatClampNeg k.toNatClampNeg (defaultValue .boolean) n.toNatClampNeg = F at X' step
  have hTh : (T.setVm vm₁).heap = H := hT
  obtain ⟨f1, f2, -, -⟩ := Jvm.Free.Multi.fill_facts (T.setVm vm₁) cr cq n.toNatClampNeg k.toNatClampNeg (defaultValue .boolean) n.toNatClampNeg
  rw [hF, hTh] at f1 f2
  have hold : ∀ x : Nat, x < H.size → F.heap[x]? = H[x]? := fun x hx => by
    have := Jvm.Free.Multi.fill_old (T.setVm vm₁) cr cq n.toNatClampNeg k.toNatClampNeg (defaultValue .boolean) (a := x) (by rw [hTh]; exact hx) n.toNatClampNeg
    rw [hF, hTh] at this
    exact this
  have hrow : ∀ j : Nat, j < n.toNatClampNeg → F.heap[H.size + 1 + j]? = some (vp_cell cq (k.toNatClampNeg, .inl (fun _ => 0))) := fun j hj => by
    have := Jvm.Free.Multi.fill_inner (T.setVm vm₁) cr cq n.toNatClampNeg k.toNatClampNeg (defaultValue .boolean) n.toNatClampNeg j hj
    rw [hF, hTh] at this
    rw [this, vp_cell_i, ← arrV_new]
    rfl
  rw [grid_outer] at f2
  have hal : ads.length = h.length := by rw [← h1, h2]; simp
  have rng : ∀ {β : Type} (f : Nat → β) (j : Nat) (y : β), ((List.range n.toNatClampNeg).map f)[j]? = some y → j < n.toNatClampNeg ∧ y = f j := by
    intro β f j y hy
    rw [List.getElem?_map] at hy
    obtain ⟨x, hx, rfl⟩ := Option.map_eq_some_iff.mp hy
    obtain ⟨hj, hj2⟩ := List.getElem?_eq_some_iff.mp hx
    simp at hj hj2
    subst hj2
    exact ⟨hj, rfl⟩
  obtain ⟨ws', hws'⟩ : ∃ ws' : va_W, ws' = (H.size, .inl (cr, n.toNatClampNeg, .inr (.inr (.inr (.inr (fun j => if j < n.toNatClampNeg then some (H.size + 1 + j) else none)))))) :: (List.range n.toNatClampNeg).map (fun j => ((H.size + 1 + j, .inl (cq, k.toNatClampNeg, .inl (fun _ => 0))) : Nat × va_E)) := ⟨_, rfl⟩
  have hat : ∀ (j : Nat) (x : Nat × va_E), ws'[j]? = some x → x.1 = H.size + j ∧ va_at D mcl x F.heap ∧ (j = 0 ∨ j - 1 < n.toNatClampNeg) := by
    intro j x hx
    rw [hws'] at hx
    cases j with
    | zero => simp at hx; subst hx; exact ⟨rfl, by show F.heap[H.size]? = some (vp_cell _ _); rw [vp_cell_q]; exact f2, Or.inl rfl⟩
    | succ j =>
      simp only [List.getElem?_cons_succ] at hx
      obtain ⟨hj, rfl⟩ := rng _ _ _ hx
      exact ⟨by simp only; omega, hrow j hj, Or.inr (by simpa using hj)⟩
  have hP2 : va_P D mcl (ws ++ ws') F.heap := (hP.kept (fun k9 x hx => hold x.1 ((hP k9 x hx).lt))).app (fun k9 x hx => (hat k9 x hx).2.1)
  have hD2 : va_D A (ws ++ ws') := hD.app ⟨fun i j x y hi hj hxy => by have := (hat i x hi).1; have := (hat j y hj).1; omega, fun k9 x hx => hA _ (by have := (hat k9 x hx).1; have := hS.1; omega)⟩ (fun i j x y hi hj hxy => by have := (hP i x hi).lt; have := (hat j y hj).1; omega)
  have hAr : ArrOfT s cr (.array .boolean) := fun N9 z9 => ⟨(fun q hq => by cases hq), kq, z3, cq, z4⟩
  have hArI : ArrOfT s cq .boolean := fun N9 z9 => by
    obtain ⟨-, k9, hk9, cm9, hkk9⟩ := (hI 0 .null).1
    exact ⟨(fun q hq => by cases hq), k9, hk9, cm9, hkk9⟩
  have t2 : ∀ (k9 : Nat) (x : ClassId × FieldType), (tys ++ [(cr, .array .boolean), (cq, .boolean)])[k9]? = some x → tys[k9]? = some x ∨ x = (cr, .array .boolean) ∨ x = (cq, .boolean) := by
    intro k9 x hx
    rcases List.mem_append.mp (List.mem_of_getElem? hx) with h | h
    · by_cases hl : k9 < tys.length
      · rw [List.getElem?_append_left hl] at hx; exact Or.inl hx
      · rw [List.getElem?_append_right (by omega)] at hx
        have := List.mem_of_getElem? hx
        simp at this
        exact Or.inr this
    · by_cases hl : k9 < tys.length
      · rw [List.getElem?_append_left hl] at hx; exact Or.inl hx
      · simp at h; exact Or.inr h
  have hWd : Wd D A s F.heap (ads ++ (H.size :: (List.range n.toNatClampNeg).map (fun j => H.size + 1 + j))) (h ++ mgrid h.length n.toNatClampNeg k.toNatClampNeg) := by
    refine wd_app (ts := [(cr, .array .boolean), (cq, .boolean)]) h1 h2 h3 (by rw [hws']; simp) (by rw [hws']; simp [mgrid]) ⟨hK.1, fun k9 x hx => ?_⟩ (fun k9 x hx => ?_) (fun a c2 q2 ha hq => ?_) hP2 hD2
    · rcases t2 k9 x hx with h | h | h
      · exact hK.2 k9 x h
      · subst h; exact ⟨hAr, z5⟩
      · subst h; exact ⟨hArI, z1⟩
    · rcases t2 k9 x hx with h | h | h
      · exact h7 k9 x h
      · subst h; exact ⟨kq, kc, cq, z3, z4, z1, hkc⟩
      · subst h; trivial
    · rw [hws'] at hq
      cases a with
      | zero =>
        simp [mgrid] at ha hq
        subst ha; subst hq
        refine Or.inr (Or.inr (Or.inl ⟨Or.inr (Or.inr rfl), cr, fun j => if j < n.toNatClampNeg then some (H.size + 1 + j) else none, tys.length, by simp, by simp [mtag], fun j v hj => ?_⟩))
        obtain ⟨hj1, rfl⟩ := rng _ _ _ hj
        refine ⟨⟨H.size + 1 + j, ?_, by simp [hj1, va_rf]⟩, _, rfl⟩
        rw [← hal, List.getElem?_append_right (by omega), show ads.length + 1 + j - ads.length = j + 1 by omega, List.getElem?_cons_succ]
        simp [hj1]
      | succ a =>
        simp only [mgrid, List.getElem?_cons_succ, List.getElem?_replicate] at ha hq
        split at ha
        · cases ha
          obtain ⟨hj, rfl⟩ := rng _ _ _ hq
          refine Or.inr (Or.inl ⟨rfl, cq, fun _ => 0, tys.length + 1, by simp, by simp, fun j v hv => ?_⟩)
          simp only [List.getElem?_replicate] at hv
          split at hv
          · exact (Option.some.inj hv).symm
          · cases hv
        · cases ha
  obtain ⟨t, a1, b1⟩ := kk F.heap H.size _ hWd ⟨by rw [f1]; have := hS.1; omega, fun x h1 h2 => (hold x (Nat.lt_of_lt_of_le h1 hS.1)).trans (hS.2.1 x h1 h2), hS.2.2⟩ F rfl X'
  refine ⟨t, step t ?_, b1⟩
  have e9 : T.heap.size = H.size := by rw [hT]
  rw [e9]
  exact a1
end S3b
end
section
/-! CALLS AND WHOLE RUNS OF THE SMALL MACHINE -/
abbrev MM : Type := MethodName × ByteArray × Nat × Option FieldType × Nat × Nat
def mret (ret : Option FieldType) (ig : Instr) (len : Nat) (st : List MV) : Option (Option MV) := match ig with
  | .ireturn => match st, ret with
    | [.inl v], some ty => if len = 1 ∧ mfit ty (.inl v) = true then some (some (.inl v)) else none
    | _, _ => none
  | .areturn => match st, ret with
    | [.inr v], some ty => if len = 1 ∧ mfit ty (.inr v) = true then some (some (.inr v)) else none
    | _, _ => none
  | .return_ => match st, ret with
    | [], none => if len = 1 then some none else none
    | _, _ => none
  | _ => none
/-- a call of a method with code: the method, how many frames it may have above it, what it is given, what stays on the stack -/
def mcalG (lM : Nat → Option (Nat × Nat)) (d : Nat) (ig : Instr) (len : Nat) (st : List MV) (h : List MC) : Option (Nat × Nat × List MV × List MV) := match ig with
  | .invokevirtual i => match lM i, d with
    | some (0, M'), d' + 1 => match mmt[M']? with
      | some q => match st.drop q.2.2.2.2.2 with
        | .inr (some b) :: rest => match h[b]? with
          | some (t, _) => if len = 3 ∧ t = 10 + q.2.2.2.2.1 ∧ q.2.2.2.2.1 < 12 ∧ rest.length ≤ 8 ∧ 1 + q.2.2.2.2.2 ≤ q.2.2.1 ∧ q.2.2.1 ≤ 22 then some (M', d', .inr (some b) :: (st.take q.2.2.2.2.2).reverse, rest) else none
          | none => none
        | _ => none
      | none => none
    | _, _ => none
  | .invokestatic i => match lM i, d with
    | some (kd, M'), d' + 1 => match mmt[M']? with
      | some q => if len = 3 ∧ (kd = 1 ∨ kd = 5) ∧ q.2.2.2.2.2 ≤ st.length ∧ (st.drop q.2.2.2.2.2).length ≤ 8 ∧ q.2.2.2.2.2 ≤ q.2.2.1 ∧ q.2.2.1 ≤ 22 then some (M', d', (st.take q.2.2.2.2.2).reverse, st.drop q.2.2.2.2.2) else none
      | none => none
    | _, _ => none
  | .invokespecial i => match lM i, d with
    | some (kd, M'), d' + 1 => match mmt[M']? with
      | some q => match st.drop q.2.2.2.2.2 with
        | .inr (some b) :: rest => if len = 3 ∧ (kd = 2 ∨ kd = 6) ∧ rest.length ≤ 8 ∧ 1 + q.2.2.2.2.2 ≤ q.2.2.1 ∧ q.2.2.1 ≤ 22 ∧ q.2.2.2.1 = none then some (M', d', .inr (some b) :: (st.take q.2.2.2.2.2).reverse, rest) else none
        | _ => none
      | none => none
    | _, _ => none
  | _ => none
def mcal (own d : Nat) (ig : Instr) (len : Nat) (st : List MV) (h : List MC) : Option (Nat × Nat × List MV × List MV) := mcalG (mk2 mlM own) d ig len st h
/-- Object's constructor, arraycopy, min, clone -/
def mnatG (lM : Nat → Option (Nat × Nat)) (lA : Nat → Option Nat) (d : Nat) (ig : Instr) (len pc : Nat) (ml : List (Option MV)) (st : List MV) (h : List MC) : Option MS := match ig with
  | .invokespecial i => match lM i, st with
    | some (3, _), .inr (some _) :: rest => if len = 3 ∧ 0 < d ∧ rest.length ≤ 8 then some (pc + 3, ml, rest, h) else none
    | _, _ => none
  | .invokestatic i => match lM i, st with
    | some (4, _), .inl n :: .inl dp :: .inr (some b) :: .inl sp :: .inr (some a) :: rest => match h[a]?, h[b]? with
      | some (0, us), some (0, vs) => if len = 3 ∧ 0 < d ∧ rest.length ≤ 8 ∧ ¬ sp < 0 ∧ ¬ dp < 0 ∧ ¬ n < 0 ∧ sp.toNatClampNeg + n.toNatClampNeg ≤ us.length ∧ dp.toNatClampNeg + n.toNatClampNeg ≤ vs.length then
          some (pc + 3, ml, rest, h.set b (0, vs.take dp.toNatClampNeg ++ ((us.drop sp.toNatClampNeg).take n.toNatClampNeg ++ vs.drop (dp.toNatClampNeg + n.toNatClampNeg)))) else none
      | _, _ => none
    | some (7, _), .inl y :: .inl x :: rest => if len = 3 ∧ 0 < d ∧ rest.length ≤ 8 then some (pc + 3, ml, .inl (if y < x then y else x) :: rest, h) else none
    | _, _ => none
  | .invokevirtual i => match lM i, st with
    | some (8, _), .inr (some a) :: rest => match h[a]? with
      | some (0, vs) => if len = 3 ∧ 0 < d ∧ rest.length ≤ 8 then some (pc + 3, ml, .inr (some h.length) :: rest, h ++ [(0, vs)]) else none
      | _ => none
    | _, _ => none
  | .checkcast i => match lA i, st with
    | some 2, .inr (some a) :: rest => match h[a]? with
      | some (0, _) => if len = 3 then some (pc + 3, ml, .inr (some a) :: rest, h) else none
      | _ => none
    | _, _ => none
  | _ => none
def mnat (own d : Nat) (ig : Instr) (len pc : Nat) (ml : List (Option MV)) (st : List MV) (h : List MC) : Option MS := mnatG (mk2 mlM own) (mk2 mlA own) d ig len pc ml st h
/-- a whole run of method M from pc on, to its answer; d: how many frames may stand above -/
def mx : Nat → Nat → Nat → Nat → List (Option MV) → List MV → List MC → Option (Option MV × List MC)
  | 0, _, _, _, _, _, _ => none
  | n + 1, d, M, pc, ml, st, h => match mmt[M]? with
    | none => none
    | some q => match decode q.2.1 pc with
      | .error _ => none
      | .ok (ig, len) => match mret q.2.2.2.1 ig len st with
        | some r => some (r, h)
        | none => match mcal q.2.2.2.2.1 d ig len st h with
          | some (M', d', as, rest) => match mmt[M']? with
            | none => none
            | some q' => (mx n d' M' 0 (as.map some ++ List.replicate (q'.2.2.1 - as.length) none) [] h).bind fun r => mx n d M (pc + 3) ml (r.1.toList ++ rest) r.2
          | none => match mnat q.2.2.2.2.1 d ig len pc ml st h with
            | some u => mx n d M u.1 u.2.1 u.2.2.1 u.2.2.2
            | none => match mps q.2.2.2.2.1 (q.1.name == "<init>") ig len pc ml st h with
              | some u => mx n d M u.1 u.2.1 u.2.2.1 u.2.2.2
              | none => none
theorem mnat_mono {own d : Nat} {ig : Instr} {len pc : Nat} {ml : List (Option MV)} {st : List MV} {h : List MC} {q : MS} (hps : mnat own d ig len pc ml st h = some q) : hle h q.2.2.2 := by
  unfold mnat mnatG at hps
  split at hps
  all_goals (repeat' (split at hps))
  all_goals (first | (cases hps; done) | skip)
  all_goals (first
    | (cases hps; exact hle_rf _)
    | (cases hps; exact hle_app _ _)
    | (cases hps; exact hle_set (by assumption) (by simp only [List.length_append, List.length_take, List.length_drop]; omega)))
theorem mx_mono : ∀ {n d M pc : Nat} {ml : List (Option MV)} {st : List MV} {h : List MC} {r : Option MV × List MC}, mx n d M pc ml st h = some r → hle h r.2
  | 0, _, _, _, _, _, _, _, hr => by simp [mx] at hr
  | n + 1, d, M, pc, ml, st, h, r, hr => by
    unfold mx at hr
    split at hr
    · cases hr
    · split at hr
      · cases hr
      · split at hr
        · cases hr; exact hle_rf _
        · split at hr
          · split at hr
            · cases hr
            · obtain ⟨r1, h1, h2⟩ := Option.bind_eq_some_iff.mp hr
              exact hle_tr (mx_mono h1) (mx_mono h2)
          · split at hr
            · next u hu => exact hle_tr (mnat_mono hu) (mx_mono hr)
            · split at hr
              · next u hu => exact hle_tr (mps_mono hu) (mx_mono hr)
              · cases hr
end
section
/-! THE METHODS DECODED AND LINKED (tools/gen_fast.py): a row an instruction: its place, the instruction, its length, the next row, the row that it jumps to, two numbers of its link, its class (0 plain, 1 jumps, 2 returns, 3 calls, 4 not come to) -/
abbrev FI : Type := Nat × Instr × Nat × Nat × Nat × Nat × Nat × Nat
def ft_0 : List (List FI) := [[(0, .aload_n 0, 1, 1, 0, 0, 0, 0), (1, .invokespecial 1, 3, 2, 0, 3, 0, 3), (4, .new 7, 3, 3, 0, 0, 0, 0), (7, .dup, 1, 4, 0, 0, 0, 0), (8, .invokespecial 9, 3, 5, 0, 6, 1, 3), (11, .astore_n 1, 1, 6, 0, 0, 0, 0), (12, .aload_n 0, 1, 7, 0, 0, 0, 0), (13, .new 10, 3, 8, 0, 1, 0, 0), (16, .dup, 1, 9, 0, 0, 0, 0), (17, .invokespecial 12, 3, 10, 0, 6, 2, 3), (20, .putfield 13, 3, 11, 0, 10, 0, 0), (23, .aload_n 0, 1, 12, 0, 0, 0, 0), (24, .new 19, 3, 13, 0, 2, 0, 0), (27, .dup, 1, 14, 0, 0, 0, 0), (28, .aload_n 0, 1, 15, 0, 0, 0, 0), (29, .getfield 13, 3, 16, 0, 10, 0, 0)],
  [(32, .invokespecial 21, 3, 17, 0, 2, 3, 3), (35, .putfield 24, 3, 18, 0, 10, 1, 0), (38, .aload_n 0, 1, 19, 0, 0, 0, 0), (39, .new 28, 3, 20, 0, 3, 0, 0), (42, .dup, 1, 21, 0, 0, 0, 0), (43, .aload_n 0, 1, 22, 0, 0, 0, 0), (44, .getfield 13, 3, 23, 0, 10, 0, 0), (47, .aload_n 1, 1, 24, 0, 0, 0, 0), (48, .invokespecial 30, 3, 25, 0, 2, 4, 3), (51, .putfield 33, 3, 26, 0, 10, 2, 0), (54, .aload_n 0, 1, 27, 0, 0, 0, 0), (55, .new 37, 3, 28, 0, 5, 0, 0), (58, .dup, 1, 29, 0, 0, 0, 0), (59, .aload_n 0, 1, 30, 0, 0, 0, 0), (60, .getfield 13, 3, 31, 0, 10, 0, 0), (63, .aload_n 1, 1, 32, 0, 0, 0, 0)],
  [(64, .invokespecial 39, 3, 33, 0, 2, 5, 3), (67, .putfield 40, 3, 34, 0, 10, 3, 0), (70, .aload_n 0, 1, 35, 0, 0, 0, 0), (71, .new 44, 3, 36, 0, 7, 0, 0), (74, .dup, 1, 37, 0, 0, 0, 0), (75, .aload_n 0, 1, 38, 0, 0, 0, 0), (76, .getfield 13, 3, 39, 0, 10, 0, 0), (79, .aload_n 0, 1, 40, 0, 0, 0, 0), (80, .getfield 33, 3, 41, 0, 10, 2, 0), (83, .invokespecial 46, 3, 42, 0, 2, 7, 3), (86, .putfield 49, 3, 43, 0, 10, 4, 0), (89, .aload_n 0, 1, 44, 0, 0, 0, 0), (90, .new 53, 3, 45, 0, 8, 0, 0), (93, .dup, 1, 46, 0, 0, 0, 0), (94, .aload_n 0, 1, 47, 0, 0, 0, 0), (95, .getfield 13, 3, 48, 0, 10, 0, 0)],
  [(98, .invokespecial 55, 3, 49, 0, 2, 9, 3), (101, .putfield 56, 3, 50, 0, 10, 6, 0), (104, .aload_n 0, 1, 51, 0, 0, 0, 0), (105, .new 60, 3, 52, 0, 9, 0, 0), (108, .dup, 1, 53, 0, 0, 0, 0), (109, .aload_n 0, 1, 54, 0, 0, 0, 0), (110, .getfield 13, 3, 55, 0, 10, 0, 0), (113, .aload_n 0, 1, 56, 0, 0, 0, 0), (114, .getfield 24, 3, 57, 0, 10, 1, 0), (117, .aload_n 0, 1, 58, 0, 0, 0, 0), (118, .getfield 33, 3, 59, 0, 10, 2, 0), (121, .aload_n 0, 1, 60, 0, 0, 0, 0), (122, .getfield 49, 3, 61, 0, 10, 4, 0), (125, .aload_n 0, 1, 62, 0, 0, 0, 0), (126, .getfield 40, 3, 63, 0, 10, 3, 0), (129, .aload_n 0, 1, 64, 0, 0, 0, 0)],
  [(130, .getfield 56, 3, 65, 0, 10, 6, 0), (133, .invokespecial 62, 3, 66, 0, 2, 10, 3), (136, .putfield 65, 3, 67, 0, 10, 5, 0), (139, .aload_n 0, 1, 68, 0, 0, 0, 0), (140, .new 69, 3, 69, 0, 4, 0, 0), (143, .dup, 1, 70, 0, 0, 0, 0), (144, .bipush 24, 2, 71, 0, 0, 0, 0), (146, .invokespecial 71, 3, 72, 0, 2, 6, 3), (149, .putfield 74, 3, 73, 0, 10, 7, 0), (152, .iconst 1, 1, 74, 0, 0, 0, 0), (153, .newarray .int, 2, 75, 0, 0, 0, 0), (155, .dup, 1, 76, 0, 0, 0, 0), (156, .iconst 0, 1, 77, 0, 0, 0, 0), (157, .iconst 0, 1, 78, 0, 0, 0, 0), (158, .iastore, 1, 79, 0, 0, 0, 0), (159, .astore_n 2, 1, 80, 0, 0, 0, 0)],
  [(160, .aload_n 0, 1, 81, 0, 0, 0, 0), (161, .bipush 16, 2, 82, 0, 0, 0, 0), (163, .anewarray 78, 3, 83, 0, 2, 0, 0), (166, .putfield 80, 3, 84, 0, 10, 8, 0), (169, .iconst 0, 1, 85, 0, 0, 0, 0), (170, .istore_n 3, 1, 86, 0, 0, 0, 0), (171, .iload_n 3, 1, 87, 0, 0, 0, 0), (172, .bipush 16, 2, 88, 0, 0, 0, 0), (174, .if_icmp .ge 16, 3, 89, 96, 0, 0, 1), (177, .aload_n 0, 1, 90, 0, 0, 0, 0), (178, .getfield 80, 3, 91, 0, 10, 8, 0), (181, .iload_n 3, 1, 92, 0, 0, 0, 0), (182, .aload_n 2, 1, 93, 0, 0, 0, 0), (183, .aastore, 1, 94, 0, 0, 0, 0), (184, .iinc 3 1, 3, 95, 0, 0, 0, 0), (187, .goto (-16), 3, 96, 86, 0, 0, 1)],
  [(190, .return_, 1, 97, 0, 0, 0, 2)]]
def ft_1 : List (List FI) := [[(0, .aload_n 0, 1, 1, 0, 0, 0, 0), (1, .invokespecial 3, 3, 2, 0, 3, 0, 3), (4, .aload_n 0, 1, 3, 0, 0, 0, 0), (5, .ldc 9, 2, 4, 0, 120000, 0, 0), (7, .putfield 10, 3, 5, 0, 0, 0, 0), (10, .return_, 1, 6, 0, 0, 0, 2)]]
def ft_2 : List (List FI) := [[(0, .aload_n 0, 1, 1, 0, 0, 0, 0), (1, .invokespecial 3, 3, 2, 0, 3, 0, 3), (4, .aload_n 0, 1, 3, 0, 0, 0, 0), (5, .bipush 22, 2, 4, 0, 0, 0, 0), (7, .newarray .int, 2, 5, 0, 0, 0, 0), (9, .putfield 9, 3, 6, 0, 1, 0, 0), (12, .aload_n 0, 1, 7, 0, 0, 0, 0), (13, .bipush 22, 2, 8, 0, 0, 0, 0), (15, .newarray .boolean, 2, 9, 0, 0, 0, 0), (17, .putfield 15, 3, 10, 0, 1, 1, 0), (20, .aload_n 0, 1, 11, 0, 0, 0, 0), (21, .bipush 24, 2, 12, 0, 0, 0, 0), (23, .newarray .int, 2, 13, 0, 0, 0, 0), (25, .putfield 19, 3, 14, 0, 1, 3, 0), (28, .aload_n 0, 1, 15, 0, 0, 0, 0), (29, .bipush 24, 2, 16, 0, 0, 0, 0)],
  [(31, .newarray .int, 2, 17, 0, 0, 0, 0), (33, .putfield 22, 3, 18, 0, 1, 4, 0), (36, .return_, 1, 19, 0, 0, 0, 2)]]
def ft_3 : List (List FI) := [[(0, .aload_n 0, 1, 1, 0, 0, 0, 0), (1, .invokespecial 3, 3, 2, 0, 3, 0, 3), (4, .aload_n 0, 1, 3, 0, 0, 0, 0), (5, .sipush 576, 3, 4, 0, 0, 0, 0), (8, .newarray .int, 2, 5, 0, 0, 0, 0), (10, .putfield 9, 3, 6, 0, 2, 1, 0), (13, .aload_n 0, 1, 7, 0, 0, 0, 0), (14, .bipush 24, 2, 8, 0, 0, 0, 0), (16, .newarray .int, 2, 9, 0, 0, 0, 0), (18, .putfield 15, 3, 10, 0, 2, 2, 0), (21, .aload_n 0, 1, 11, 0, 0, 0, 0), (22, .bipush 24, 2, 12, 0, 0, 0, 0), (24, .newarray .int, 2, 13, 0, 0, 0, 0), (26, .putfield 18, 3, 14, 0, 2, 3, 0), (29, .aload_n 0, 1, 15, 0, 0, 0, 0), (30, .aload_n 1, 1, 16, 0, 0, 0, 0)],
  [(31, .putfield 21, 3, 17, 0, 2, 0, 0), (34, .return_, 1, 18, 0, 0, 0, 2)]]
def ft_4 : List (List FI) := [[(0, .aload_n 0, 1, 1, 0, 0, 0, 0), (1, .invokespecial 3, 3, 2, 0, 3, 0, 3), (4, .aload_n 0, 1, 3, 0, 0, 0, 0), (5, .bipush 24, 2, 4, 0, 0, 0, 0), (7, .newarray .int, 2, 5, 0, 0, 0, 0), (9, .putfield 9, 3, 6, 0, 3, 2, 0), (12, .aload_n 0, 1, 7, 0, 0, 0, 0), (13, .bipush 48, 2, 8, 0, 0, 0, 0), (15, .newarray .int, 2, 9, 0, 0, 0, 0), (17, .putfield 15, 3, 10, 0, 3, 3, 0), (20, .aload_n 0, 1, 11, 0, 0, 0, 0), (21, .bipush 24, 2, 12, 0, 0, 0, 0), (23, .newarray .int, 2, 13, 0, 0, 0, 0), (25, .putfield 18, 3, 14, 0, 3, 5, 0), (28, .aload_n 0, 1, 15, 0, 0, 0, 0), (29, .iconst 1, 1, 16, 0, 0, 0, 0)],
  [(30, .newarray .int, 2, 17, 0, 0, 0, 0), (32, .dup, 1, 18, 0, 0, 0, 0), (33, .iconst 0, 1, 19, 0, 0, 0, 0), (34, .iconst 0, 1, 20, 0, 0, 0, 0), (35, .iastore, 1, 21, 0, 0, 0, 0), (36, .putfield 21, 3, 22, 0, 3, 7, 0), (39, .aload_n 0, 1, 23, 0, 0, 0, 0), (40, .iconst 1, 1, 24, 0, 0, 0, 0), (41, .newarray .int, 2, 25, 0, 0, 0, 0), (43, .dup, 1, 26, 0, 0, 0, 0), (44, .iconst 0, 1, 27, 0, 0, 0, 0), (45, .iconst 0, 1, 28, 0, 0, 0, 0), (46, .iastore, 1, 29, 0, 0, 0, 0), (47, .putfield 24, 3, 30, 0, 3, 8, 0), (50, .aload_n 0, 1, 31, 0, 0, 0, 0), (51, .aload_n 1, 1, 32, 0, 0, 0, 0)],
  [(52, .putfield 27, 3, 33, 0, 3, 0, 0), (55, .aload_n 0, 1, 34, 0, 0, 0, 0), (56, .aload_n 2, 1, 35, 0, 0, 0, 0), (57, .putfield 31, 3, 36, 0, 3, 1, 0), (60, .return_, 1, 37, 0, 0, 0, 2)]]
def ft_5 : List (List FI) := [[(0, .aload_n 0, 1, 1, 0, 0, 0, 0), (1, .invokespecial 3, 3, 2, 0, 3, 0, 3), (4, .aload_n 0, 1, 3, 0, 0, 0, 0), (5, .new 9, 3, 4, 0, 4, 0, 0), (8, .dup, 1, 5, 0, 0, 0, 0), (9, .bipush 96, 2, 6, 0, 0, 0, 0), (11, .invokespecial 11, 3, 7, 0, 2, 6, 3), (14, .putfield 14, 3, 8, 0, 5, 2, 0), (17, .aload_n 0, 1, 9, 0, 0, 0, 0), (18, .new 9, 3, 10, 0, 4, 0, 0), (21, .dup, 1, 11, 0, 0, 0, 0), (22, .bipush 24, 2, 12, 0, 0, 0, 0), (24, .invokespecial 11, 3, 13, 0, 2, 6, 3), (27, .putfield 20, 3, 14, 0, 5, 3, 0), (30, .aload_n 0, 1, 15, 0, 0, 0, 0), (31, .new 9, 3, 16, 0, 4, 0, 0)],
  [(34, .dup, 1, 17, 0, 0, 0, 0), (35, .bipush 68, 2, 18, 0, 0, 0, 0), (37, .invokespecial 11, 3, 19, 0, 2, 6, 3), (40, .putfield 23, 3, 20, 0, 5, 4, 0), (43, .aload_n 0, 1, 21, 0, 0, 0, 0), (44, .new 9, 3, 22, 0, 4, 0, 0), (47, .dup, 1, 23, 0, 0, 0, 0), (48, .bipush 48, 2, 24, 0, 0, 0, 0), (50, .invokespecial 11, 3, 25, 0, 2, 6, 3), (53, .putfield 26, 3, 26, 0, 5, 5, 0), (56, .aload_n 0, 1, 27, 0, 0, 0, 0), (57, .new 9, 3, 28, 0, 4, 0, 0), (60, .dup, 1, 29, 0, 0, 0, 0), (61, .bipush 24, 2, 30, 0, 0, 0, 0), (63, .invokespecial 11, 3, 31, 0, 2, 6, 3), (66, .putfield 29, 3, 32, 0, 5, 6, 0)],
  [(69, .aload_n 0, 1, 33, 0, 0, 0, 0), (70, .bipush 12, 2, 34, 0, 0, 0, 0), (72, .newarray .int, 2, 35, 0, 0, 0, 0), (74, .putfield 32, 3, 36, 0, 5, 7, 0), (77, .aload_n 0, 1, 37, 0, 0, 0, 0), (78, .aload_n 1, 1, 38, 0, 0, 0, 0), (79, .putfield 36, 3, 39, 0, 5, 0, 0), (82, .aload_n 0, 1, 40, 0, 0, 0, 0), (83, .aload_n 2, 1, 41, 0, 0, 0, 0), (84, .putfield 40, 3, 42, 0, 5, 1, 0), (87, .return_, 1, 43, 0, 0, 0, 2)]]
def ft_6 : List (List FI) := [[(0, .aload_n 0, 1, 1, 0, 0, 0, 0), (1, .invokespecial 1, 3, 2, 0, 3, 0, 3), (4, .aload_n 0, 1, 3, 0, 0, 0, 0), (5, .iload_n 1, 1, 4, 0, 0, 0, 0), (6, .newarray .int, 2, 5, 0, 0, 0, 0), (8, .putfield 7, 3, 6, 0, 4, 0, 0), (11, .return_, 1, 7, 0, 0, 0, 2)]]
def ft_7 : List (List FI) := [[(0, .aload_n 0, 1, 1, 0, 0, 0, 0), (1, .invokespecial 3, 3, 2, 0, 3, 0, 3), (4, .aload_n 0, 1, 3, 0, 0, 0, 0), (5, .bipush 24, 2, 4, 0, 0, 0, 0), (7, .newarray .int, 2, 5, 0, 0, 0, 0), (9, .putfield 9, 3, 6, 0, 7, 2, 0), (12, .aload_n 0, 1, 7, 0, 0, 0, 0), (13, .new 15, 3, 8, 0, 4, 0, 0), (16, .dup, 1, 9, 0, 0, 0, 0), (17, .bipush 24, 2, 10, 0, 0, 0, 0), (19, .invokespecial 17, 3, 11, 0, 2, 6, 3), (22, .putfield 20, 3, 12, 0, 7, 3, 0), (25, .aload_n 0, 1, 13, 0, 0, 0, 0), (26, .new 24, 3, 14, 0, 6, 0, 0), (29, .dup, 1, 15, 0, 0, 0, 0), (30, .iconst 0, 1, 16, 0, 0, 0, 0)],
  [(31, .invokespecial 26, 3, 17, 0, 2, 8, 3), (34, .putfield 27, 3, 18, 0, 7, 4, 0), (37, .aload_n 0, 1, 19, 0, 0, 0, 0), (38, .aload_n 1, 1, 20, 0, 0, 0, 0), (39, .putfield 31, 3, 21, 0, 7, 0, 0), (42, .aload_n 0, 1, 22, 0, 0, 0, 0), (43, .aload_n 2, 1, 23, 0, 0, 0, 0), (44, .putfield 35, 3, 24, 0, 7, 1, 0), (47, .return_, 1, 25, 0, 0, 0, 2)]]
def ft_8 : List (List FI) := [[(0, .aload_n 0, 1, 1, 0, 0, 0, 0), (1, .invokespecial 1, 3, 2, 0, 3, 0, 3), (4, .aload_n 0, 1, 3, 0, 0, 0, 0), (5, .iload_n 1, 1, 4, 0, 0, 0, 0), (6, .anewarray 7, 3, 5, 0, 2, 0, 0), (9, .putfield 9, 3, 6, 0, 6, 0, 0), (12, .aload_n 0, 1, 7, 0, 0, 0, 0), (13, .iload_n 1, 1, 8, 0, 0, 0, 0), (14, .anewarray 7, 3, 9, 0, 2, 0, 0), (17, .putfield 15, 3, 10, 0, 6, 1, 0), (20, .iconst 1, 1, 11, 0, 0, 0, 0), (21, .newarray .int, 2, 12, 0, 0, 0, 0), (23, .dup, 1, 13, 0, 0, 0, 0), (24, .iconst 0, 1, 14, 0, 0, 0, 0), (25, .iconst 0, 1, 15, 0, 0, 0, 0), (26, .iastore, 1, 16, 0, 0, 0, 0)],
  [(27, .astore_n 2, 1, 17, 0, 0, 0, 0), (28, .iconst 0, 1, 18, 0, 0, 0, 0), (29, .istore_n 3, 1, 19, 0, 0, 0, 0), (30, .iload_n 3, 1, 20, 0, 0, 0, 0), (31, .iload_n 1, 1, 21, 0, 0, 0, 0), (32, .if_icmp .ge 23, 3, 22, 34, 0, 0, 1), (35, .aload_n 0, 1, 23, 0, 0, 0, 0), (36, .getfield 9, 3, 24, 0, 6, 0, 0), (39, .iload_n 3, 1, 25, 0, 0, 0, 0), (40, .aload_n 2, 1, 26, 0, 0, 0, 0), (41, .aastore, 1, 27, 0, 0, 0, 0), (42, .aload_n 0, 1, 28, 0, 0, 0, 0), (43, .getfield 15, 3, 29, 0, 6, 1, 0), (46, .iload_n 3, 1, 30, 0, 0, 0, 0), (47, .aload_n 2, 1, 31, 0, 0, 0, 0), (48, .aastore, 1, 32, 0, 0, 0, 0)],
  [(49, .iinc 3 1, 3, 33, 0, 0, 0, 0), (52, .goto (-22), 3, 34, 19, 0, 0, 1), (55, .return_, 1, 35, 0, 0, 0, 2)]]
def ft_9 : List (List FI) := [[(0, .aload_n 0, 1, 1, 0, 0, 0, 0), (1, .invokespecial 3, 3, 2, 0, 3, 0, 3), (4, .aload_n 0, 1, 3, 0, 0, 0, 0), (5, .bipush 12, 2, 4, 0, 0, 0, 0), (7, .newarray .int, 2, 5, 0, 0, 0, 0), (9, .putfield 9, 3, 6, 0, 8, 1, 0), (12, .aload_n 0, 1, 7, 0, 0, 0, 0), (13, .iconst 1, 1, 8, 0, 0, 0, 0), (14, .newarray .int, 2, 9, 0, 0, 0, 0), (16, .dup, 1, 10, 0, 0, 0, 0), (17, .iconst 0, 1, 11, 0, 0, 0, 0), (18, .iconst 0, 1, 12, 0, 0, 0, 0), (19, .iastore, 1, 13, 0, 0, 0, 0), (20, .putfield 15, 3, 14, 0, 8, 3, 0), (23, .aload_n 0, 1, 15, 0, 0, 0, 0), (24, .iconst 1, 1, 16, 0, 0, 0, 0)],
  [(25, .newarray .int, 2, 17, 0, 0, 0, 0), (27, .dup, 1, 18, 0, 0, 0, 0), (28, .iconst 0, 1, 19, 0, 0, 0, 0), (29, .iconst 0, 1, 20, 0, 0, 0, 0), (30, .iastore, 1, 21, 0, 0, 0, 0), (31, .putfield 18, 3, 22, 0, 8, 4, 0), (34, .aload_n 0, 1, 23, 0, 0, 0, 0), (35, .aload_n 1, 1, 24, 0, 0, 0, 0), (36, .putfield 21, 3, 25, 0, 8, 0, 0), (39, .return_, 1, 26, 0, 0, 0, 2)]]
def ft_10 : List (List FI) := [[(0, .aload_n 0, 1, 1, 0, 0, 0, 0), (1, .invokespecial 3, 3, 2, 0, 3, 0, 3), (4, .aload_n 0, 1, 3, 0, 0, 0, 0), (5, .new 9, 3, 4, 0, 4, 0, 0), (8, .dup, 1, 5, 0, 0, 0, 0), (9, .bipush 24, 2, 6, 0, 0, 0, 0), (11, .invokespecial 11, 3, 7, 0, 2, 6, 3), (14, .putfield 14, 3, 8, 0, 9, 6, 0), (17, .aload_n 0, 1, 9, 0, 0, 0, 0), (18, .new 9, 3, 10, 0, 4, 0, 0), (21, .dup, 1, 11, 0, 0, 0, 0), (22, .bipush 24, 2, 12, 0, 0, 0, 0), (24, .invokespecial 11, 3, 13, 0, 2, 6, 3), (27, .putfield 20, 3, 14, 0, 9, 7, 0), (30, .aload_n 0, 1, 15, 0, 0, 0, 0), (31, .new 23, 3, 16, 0, 6, 0, 0)],
  [(34, .dup, 1, 17, 0, 0, 0, 0), (35, .bipush 16, 2, 18, 0, 0, 0, 0), (37, .invokespecial 25, 3, 19, 0, 2, 8, 3), (40, .putfield 26, 3, 20, 0, 9, 8, 0), (43, .aload_n 0, 1, 21, 0, 0, 0, 0), (44, .new 23, 3, 22, 0, 6, 0, 0), (47, .dup, 1, 23, 0, 0, 0, 0), (48, .bipush 16, 2, 24, 0, 0, 0, 0), (50, .invokespecial 25, 3, 25, 0, 2, 8, 3), (53, .putfield 30, 3, 26, 0, 9, 9, 0), (56, .aload_n 0, 1, 27, 0, 0, 0, 0), (57, .new 23, 3, 28, 0, 6, 0, 0), (60, .dup, 1, 29, 0, 0, 0, 0), (61, .bipush 60, 2, 30, 0, 0, 0, 0), (63, .invokespecial 25, 3, 31, 0, 2, 8, 3), (66, .putfield 33, 3, 32, 0, 9, 10, 0)],
  [(69, .aload_n 0, 1, 33, 0, 0, 0, 0), (70, .new 23, 3, 34, 0, 6, 0, 0), (73, .dup, 1, 35, 0, 0, 0, 0), (74, .bipush 16, 2, 36, 0, 0, 0, 0), (76, .invokespecial 25, 3, 37, 0, 2, 8, 3), (79, .putfield 36, 3, 38, 0, 9, 11, 0), (82, .aload_n 0, 1, 39, 0, 0, 0, 0), (83, .new 23, 3, 40, 0, 6, 0, 0), (86, .dup, 1, 41, 0, 0, 0, 0), (87, .bipush 60, 2, 42, 0, 0, 0, 0), (89, .invokespecial 25, 3, 43, 0, 2, 8, 3), (92, .putfield 39, 3, 44, 0, 9, 12, 0), (95, .aload_n 0, 1, 45, 0, 0, 0, 0), (96, .aload_n 1, 1, 46, 0, 0, 0, 0), (97, .putfield 42, 3, 47, 0, 9, 0, 0), (100, .aload_n 0, 1, 48, 0, 0, 0, 0)],
  [(101, .aload_n 2, 1, 49, 0, 0, 0, 0), (102, .putfield 46, 3, 50, 0, 9, 1, 0), (105, .aload_n 0, 1, 51, 0, 0, 0, 0), (106, .aload_n 3, 1, 52, 0, 0, 0, 0), (107, .putfield 50, 3, 53, 0, 9, 2, 0), (110, .aload_n 0, 1, 54, 0, 0, 0, 0), (111, .aload 4, 2, 55, 0, 0, 0, 0), (113, .putfield 54, 3, 56, 0, 9, 3, 0), (116, .aload_n 0, 1, 57, 0, 0, 0, 0), (117, .aload 5, 2, 58, 0, 0, 0, 0), (119, .putfield 58, 3, 59, 0, 9, 4, 0), (122, .aload_n 0, 1, 60, 0, 0, 0, 0), (123, .aload 6, 2, 61, 0, 0, 0, 0), (125, .putfield 62, 3, 62, 0, 9, 5, 0), (128, .return_, 1, 63, 0, 0, 0, 2)]]
def ft_11 : List (List FI) := [[(0, .iload_n 1, 1, 1, 0, 0, 0, 0), (1, .ifCond .lt 17, 3, 2, 10, 0, 0, 1), (4, .iload_n 1, 1, 3, 0, 0, 0, 0), (5, .iconst 2, 1, 4, 0, 0, 0, 0), (6, .if_icmp .gt 12, 3, 5, 10, 0, 0, 1), (9, .iload_n 2, 1, 6, 0, 0, 0, 0), (10, .ifCond .eq 10, 3, 7, 12, 0, 0, 1), (13, .iload_n 1, 1, 8, 0, 0, 0, 0), (14, .iconst 2, 1, 9, 0, 0, 0, 0), (15, .if_icmp .eq 5, 3, 10, 12, 0, 0, 1), (18, .iconst (-1), 1, 11, 0, 0, 0, 0), (19, .ireturn, 1, 12, 0, 0, 0, 2), (20, .aload_n 0, 1, 13, 0, 0, 0, 0), (21, .getfield 13, 3, 14, 0, 10, 0, 0), (24, .iload_n 1, 1, 15, 0, 0, 0, 0), (25, .iload_n 2, 1, 16, 0, 0, 0, 0)],
  [(26, .invokevirtual 84, 3, 17, 0, 0, 12, 3), (29, .ireturn, 1, 18, 0, 0, 0, 2)]]
def ft_12 : List (List FI) := [[(0, .aload_n 0, 1, 1, 0, 0, 0, 0), (1, .getfield 25, 3, 2, 0, 1, 2, 0), (4, .bipush 10, 2, 3, 0, 0, 0, 0), (6, .if_icmp .lt 5, 3, 4, 6, 0, 0, 1), (9, .iconst (-1), 1, 5, 0, 0, 0, 0), (10, .ireturn, 1, 6, 0, 0, 0, 2), (11, .aload_n 0, 1, 7, 0, 0, 0, 0), (12, .getfield 9, 3, 8, 0, 1, 0, 0), (15, .bipush 12, 2, 9, 0, 0, 0, 0), (17, .aload_n 0, 1, 10, 0, 0, 0, 0), (18, .getfield 25, 3, 11, 0, 1, 2, 0), (21, .iadd, 1, 12, 0, 0, 0, 0), (22, .iload_n 1, 1, 13, 0, 0, 0, 0), (23, .iastore, 1, 14, 0, 0, 0, 0), (24, .aload_n 0, 1, 15, 0, 0, 0, 0), (25, .getfield 15, 3, 16, 0, 1, 1, 0)],
  [(28, .bipush 12, 2, 17, 0, 0, 0, 0), (30, .aload_n 0, 1, 18, 0, 0, 0, 0), (31, .getfield 25, 3, 19, 0, 1, 2, 0), (34, .iadd, 1, 20, 0, 0, 0, 0), (35, .iload_n 2, 1, 21, 0, 0, 0, 0), (36, .bastore, 1, 22, 0, 0, 0, 0), (37, .aload_n 0, 1, 23, 0, 0, 0, 0), (38, .dup, 1, 24, 0, 0, 0, 0), (39, .getfield 25, 3, 25, 0, 1, 2, 0), (42, .iconst 1, 1, 26, 0, 0, 0, 0), (43, .iadd, 1, 27, 0, 0, 0, 0), (44, .putfield 25, 3, 28, 0, 1, 2, 0), (47, .aload_n 0, 1, 29, 0, 0, 0, 0), (48, .getfield 25, 3, 30, 0, 1, 2, 0), (51, .iconst 1, 1, 31, 0, 0, 0, 0), (52, .isub, 1, 32, 0, 0, 0, 0)],
  [(53, .ireturn, 1, 33, 0, 0, 0, 2)]]
def ft_13 : List (List FI) := [[(0, .iload_n 1, 1, 1, 0, 0, 0, 0), (1, .invokestatic 88, 3, 2, 0, 1, 14, 3), (4, .ifCond .eq 10, 3, 3, 6, 0, 0, 1), (7, .iload_n 2, 1, 4, 0, 0, 0, 0), (8, .invokestatic 92, 3, 5, 0, 1, 15, 3), (11, .ifCond .ne 5, 3, 6, 8, 0, 0, 1), (14, .iconst 0, 1, 7, 0, 0, 0, 0), (15, .ireturn, 1, 8, 0, 0, 0, 2), (16, .aload_n 0, 1, 9, 0, 0, 0, 0), (17, .getfield 80, 3, 10, 0, 10, 8, 0), (20, .iload_n 1, 1, 11, 0, 0, 0, 0), (21, .iconst 1, 1, 12, 0, 0, 0, 0), (22, .newarray .int, 2, 13, 0, 0, 0, 0), (24, .dup, 1, 14, 0, 0, 0, 0), (25, .iconst 0, 1, 15, 0, 0, 0, 0), (26, .iload_n 2, 1, 16, 0, 0, 0, 0)],
  [(27, .iastore, 1, 17, 0, 0, 0, 0), (28, .aastore, 1, 18, 0, 0, 0, 0), (29, .iconst 1, 1, 19, 0, 0, 0, 0), (30, .ireturn, 1, 20, 0, 0, 0, 2)]]
def ft_14 : List (List FI) := [[(0, .iload_n 0, 1, 1, 0, 0, 0, 0), (1, .ifCond .lt 13, 3, 2, 7, 0, 0, 1), (4, .iload_n 0, 1, 3, 0, 0, 0, 0), (5, .bipush 16, 2, 4, 0, 0, 0, 0), (7, .if_icmp .ge 7, 3, 5, 7, 0, 0, 1), (10, .iconst 1, 1, 6, 0, 0, 0, 0), (11, .goto 4, 3, 7, 8, 0, 0, 1), (14, .iconst 0, 1, 8, 0, 0, 0, 0), (15, .ireturn, 1, 9, 0, 0, 0, 2)]]
def ft_15 : List (List FI) := [[(0, .iload_n 0, 1, 1, 0, 0, 0, 0), (1, .ifCond .lt 13, 3, 2, 7, 0, 0, 1), (4, .iload_n 0, 1, 3, 0, 0, 0, 0), (5, .bipush 6, 2, 4, 0, 0, 0, 0), (7, .if_icmp .ge 7, 3, 5, 7, 0, 0, 1), (10, .iconst 1, 1, 6, 0, 0, 0, 0), (11, .goto 4, 3, 7, 8, 0, 0, 1), (14, .iconst 0, 1, 8, 0, 0, 0, 0), (15, .ireturn, 1, 9, 0, 0, 0, 2)]]
def ft_16 : List (List FI) := [[(0, .iload_n 1, 1, 1, 0, 0, 0, 0), (1, .invokestatic 88, 3, 2, 0, 1, 14, 3), (4, .ifCond .eq 14, 3, 3, 8, 0, 0, 1), (7, .aload_n 0, 1, 4, 0, 0, 0, 0), (8, .getfield 13, 3, 5, 0, 10, 0, 0), (11, .iload_n 2, 1, 6, 0, 0, 0, 0), (12, .invokevirtual 95, 3, 7, 0, 0, 17, 3), (15, .ifCond .ne 5, 3, 8, 10, 0, 0, 1), (18, .iconst 0, 1, 9, 0, 0, 0, 0), (19, .ireturn, 1, 10, 0, 0, 0, 2), (20, .bipush 12, 2, 11, 0, 0, 0, 0), (22, .iload_n 2, 1, 12, 0, 0, 0, 0), (23, .iadd, 1, 13, 0, 0, 0, 0), (24, .istore 5, 2, 14, 0, 0, 0, 0), (26, .aload_n 0, 1, 15, 0, 0, 0, 0), (27, .getfield 13, 3, 16, 0, 10, 0, 0)],
  [(30, .iload 5, 2, 17, 0, 0, 0, 0), (32, .invokevirtual 98, 3, 18, 0, 0, 18, 3), (35, .istore 6, 2, 19, 0, 0, 0, 0), (37, .iload 6, 2, 20, 0, 0, 0, 0), (39, .ifCond .le 10, 3, 21, 24, 0, 0, 1), (42, .iload_n 3, 1, 22, 0, 0, 0, 0), (43, .invokestatic 88, 3, 23, 0, 1, 14, 3), (46, .ifCond .eq 17, 3, 24, 30, 0, 0, 1), (49, .iload 6, 2, 25, 0, 0, 0, 0), (51, .iconst 1, 1, 26, 0, 0, 0, 0), (52, .if_icmp .le 13, 3, 27, 32, 0, 0, 1), (55, .iload 4, 2, 28, 0, 0, 0, 0), (57, .invokestatic 88, 3, 29, 0, 1, 14, 3), (60, .ifCond .ne 5, 3, 30, 32, 0, 0, 1), (63, .iconst 0, 1, 31, 0, 0, 0, 0), (64, .ireturn, 1, 32, 0, 0, 0, 2)],
  [(65, .aload_n 0, 1, 33, 0, 0, 0, 0), (66, .getfield 74, 3, 34, 0, 10, 7, 0), (69, .iconst 0, 1, 35, 0, 0, 0, 0), (70, .putfield 102, 3, 36, 0, 4, 1, 0), (73, .aload_n 0, 1, 37, 0, 0, 0, 0), (74, .getfield 74, 3, 38, 0, 10, 7, 0), (77, .iload 5, 2, 39, 0, 0, 0, 0), (79, .invokevirtual 106, 3, 40, 0, 0, 19, 3), (82, .iload 6, 2, 41, 0, 0, 0, 0), (84, .ifCond .le 24, 3, 42, 55, 0, 0, 1), (87, .aload_n 0, 1, 43, 0, 0, 0, 0), (88, .getfield 74, 3, 44, 0, 10, 7, 0), (91, .aload_n 0, 1, 45, 0, 0, 0, 0), (92, .getfield 80, 3, 46, 0, 10, 8, 0), (95, .iload_n 3, 1, 47, 0, 0, 0, 0), (96, .aaload, 1, 48, 0, 0, 0, 0)],
  [(97, .iconst 0, 1, 49, 0, 0, 0, 0), (98, .aload_n 0, 1, 50, 0, 0, 0, 0), (99, .getfield 80, 3, 51, 0, 10, 8, 0), (102, .iload_n 3, 1, 52, 0, 0, 0, 0), (103, .aaload, 1, 53, 0, 0, 0, 0), (104, .arraylength, 1, 54, 0, 0, 0, 0), (105, .invokevirtual 109, 3, 55, 0, 0, 21, 3), (108, .iload 6, 2, 56, 0, 0, 0, 0), (110, .iconst 1, 1, 57, 0, 0, 0, 0), (111, .if_icmp .le 26, 3, 58, 71, 0, 0, 1), (114, .aload_n 0, 1, 59, 0, 0, 0, 0), (115, .getfield 74, 3, 60, 0, 10, 7, 0), (118, .aload_n 0, 1, 61, 0, 0, 0, 0), (119, .getfield 80, 3, 62, 0, 10, 8, 0), (122, .iload 4, 2, 63, 0, 0, 0, 0), (124, .aaload, 1, 64, 0, 0, 0, 0)],
  [(125, .iconst 0, 1, 65, 0, 0, 0, 0), (126, .aload_n 0, 1, 66, 0, 0, 0, 0), (127, .getfield 80, 3, 67, 0, 10, 8, 0), (130, .iload 4, 2, 68, 0, 0, 0, 0), (132, .aaload, 1, 69, 0, 0, 0, 0), (133, .arraylength, 1, 70, 0, 0, 0, 0), (134, .invokevirtual 109, 3, 71, 0, 0, 21, 3), (137, .aload_n 0, 1, 72, 0, 0, 0, 0), (138, .iload_n 1, 1, 73, 0, 0, 0, 0), (139, .invokevirtual 113, 3, 74, 0, 0, 22, 3), (142, .ireturn, 1, 75, 0, 0, 0, 2)]]
def ft_17 : List (List FI) := [[(0, .iload_n 1, 1, 1, 0, 0, 0, 0), (1, .ifCond .lt 15, 3, 2, 8, 0, 0, 1), (4, .iload_n 1, 1, 3, 0, 0, 0, 0), (5, .aload_n 0, 1, 4, 0, 0, 0, 0), (6, .getfield 25, 3, 5, 0, 1, 2, 0), (9, .if_icmp .ge 7, 3, 6, 8, 0, 0, 1), (12, .iconst 1, 1, 7, 0, 0, 0, 0), (13, .goto 4, 3, 8, 9, 0, 0, 1), (16, .iconst 0, 1, 9, 0, 0, 0, 0), (17, .ireturn, 1, 10, 0, 0, 0, 2)]]
def ft_18 : List (List FI) := [[(0, .aload_n 0, 1, 1, 0, 0, 0, 0), (1, .getfield 9, 3, 2, 0, 1, 0, 0), (4, .iload_n 1, 1, 3, 0, 0, 0, 0), (5, .iaload, 1, 4, 0, 0, 0, 0), (6, .ireturn, 1, 5, 0, 0, 0, 2)]]
def ft_19 : List (List FI) := [[(0, .aload_n 0, 1, 1, 0, 0, 0, 0), (1, .getfield 13, 3, 2, 0, 4, 1, 0), (4, .aload_n 0, 1, 3, 0, 0, 0, 0), (5, .getfield 7, 3, 4, 0, 4, 0, 0), (8, .arraylength, 1, 5, 0, 0, 0, 0), (9, .if_icmp .ne 22, 3, 6, 17, 0, 0, 1), (12, .aload_n 0, 1, 7, 0, 0, 0, 0), (13, .aload_n 0, 1, 8, 0, 0, 0, 0), (14, .getfield 7, 3, 9, 0, 4, 0, 0), (17, .iconst 2, 1, 10, 0, 0, 0, 0), (18, .aload_n 0, 1, 11, 0, 0, 0, 0), (19, .getfield 13, 3, 12, 0, 4, 1, 0), (22, .imul, 1, 13, 0, 0, 0, 0), (23, .iconst 1, 1, 14, 0, 0, 0, 0), (24, .iadd, 1, 15, 0, 0, 0, 0), (25, .invokestatic 17, 3, 16, 0, 1, 20, 3)],
  [(28, .putfield 7, 3, 17, 0, 4, 0, 0), (31, .aload_n 0, 1, 18, 0, 0, 0, 0), (32, .getfield 7, 3, 19, 0, 4, 0, 0), (35, .aload_n 0, 1, 20, 0, 0, 0, 0), (36, .getfield 13, 3, 21, 0, 4, 1, 0), (39, .iload_n 1, 1, 22, 0, 0, 0, 0), (40, .iastore, 1, 23, 0, 0, 0, 0), (41, .aload_n 0, 1, 24, 0, 0, 0, 0), (42, .dup, 1, 25, 0, 0, 0, 0), (43, .getfield 13, 3, 26, 0, 4, 1, 0), (46, .iconst 1, 1, 27, 0, 0, 0, 0), (47, .iadd, 1, 28, 0, 0, 0, 0), (48, .putfield 13, 3, 29, 0, 4, 1, 0), (51, .return_, 1, 30, 0, 0, 0, 2)]]
def ft_20 : List (List FI) := [[(0, .iload_n 1, 1, 1, 0, 0, 0, 0), (1, .aload_n 0, 1, 2, 0, 0, 0, 0), (2, .arraylength, 1, 3, 0, 0, 0, 0), (3, .if_icmp .ne 11, 3, 4, 8, 0, 0, 1), (6, .aload_n 0, 1, 5, 0, 0, 0, 0), (7, .invokevirtual 316, 3, 6, 0, 8, 0, 3), (10, .checkcast 317, 3, 7, 0, 2, 0, 3), (13, .areturn, 1, 8, 0, 0, 0, 2), (14, .iload_n 1, 1, 9, 0, 0, 0, 0), (15, .newarray .int, 2, 10, 0, 0, 0, 0), (17, .astore_n 2, 1, 11, 0, 0, 0, 0), (18, .aload_n 0, 1, 12, 0, 0, 0, 0), (19, .iconst 0, 1, 13, 0, 0, 0, 0), (20, .aload_n 2, 1, 14, 0, 0, 0, 0), (21, .iconst 0, 1, 15, 0, 0, 0, 0), (22, .aload_n 0, 1, 16, 0, 0, 0, 0)],
  [(23, .arraylength, 1, 17, 0, 0, 0, 0), (24, .iload_n 1, 1, 18, 0, 0, 0, 0), (25, .invokestatic 304, 3, 19, 0, 7, 0, 3), (28, .invokestatic 150, 3, 20, 0, 4, 0, 3), (31, .aload_n 2, 1, 21, 0, 0, 0, 0), (32, .areturn, 1, 22, 0, 0, 0, 2)]]
def ft_21 : List (List FI) := [[(0, .aload_n 0, 1, 1, 0, 0, 0, 0), (1, .getfield 13, 3, 2, 0, 4, 1, 0), (4, .iload_n 3, 1, 3, 0, 0, 0, 0), (5, .iadd, 1, 4, 0, 0, 0, 0), (6, .iload_n 2, 1, 5, 0, 0, 0, 0), (7, .isub, 1, 6, 0, 0, 0, 0), (8, .istore 4, 2, 7, 0, 0, 0, 0), (10, .iload 4, 2, 8, 0, 0, 0, 0), (12, .aload_n 0, 1, 9, 0, 0, 0, 0), (13, .getfield 7, 3, 10, 0, 4, 0, 0), (16, .arraylength, 1, 11, 0, 0, 0, 0), (17, .if_icmp .le 18, 3, 12, 20, 0, 0, 1), (20, .aload_n 0, 1, 13, 0, 0, 0, 0), (21, .aload_n 0, 1, 14, 0, 0, 0, 0), (22, .getfield 7, 3, 15, 0, 4, 0, 0), (25, .iconst 2, 1, 16, 0, 0, 0, 0)],
  [(26, .iload 4, 2, 17, 0, 0, 0, 0), (28, .imul, 1, 18, 0, 0, 0, 0), (29, .invokestatic 17, 3, 19, 0, 1, 20, 3), (32, .putfield 7, 3, 20, 0, 4, 0, 0), (35, .aload_n 1, 1, 21, 0, 0, 0, 0), (36, .iload_n 2, 1, 22, 0, 0, 0, 0), (37, .aload_n 0, 1, 23, 0, 0, 0, 0), (38, .getfield 7, 3, 24, 0, 4, 0, 0), (41, .aload_n 0, 1, 25, 0, 0, 0, 0), (42, .getfield 13, 3, 26, 0, 4, 1, 0), (45, .iload_n 3, 1, 27, 0, 0, 0, 0), (46, .iload_n 2, 1, 28, 0, 0, 0, 0), (47, .isub, 1, 29, 0, 0, 0, 0), (48, .invokestatic 23, 3, 30, 0, 4, 0, 3), (51, .aload_n 0, 1, 31, 0, 0, 0, 0), (52, .iload 4, 2, 32, 0, 0, 0, 0)],
  [(54, .putfield 13, 3, 33, 0, 4, 1, 0), (57, .return_, 1, 34, 0, 0, 0, 2)]]
def ft_22 : List (List FI) := [[(0, .aload_n 0, 1, 1, 0, 0, 0, 0), (1, .getfield 74, 3, 2, 0, 10, 7, 0), (4, .getfield 102, 3, 3, 0, 4, 1, 0), (7, .bipush 24, 2, 4, 0, 0, 0, 0), (9, .if_icmp .le 5, 3, 5, 7, 0, 0, 1), (12, .iconst 0, 1, 6, 0, 0, 0, 0), (13, .ireturn, 1, 7, 0, 0, 0, 2), (14, .aload_n 0, 1, 8, 0, 0, 0, 0), (15, .getfield 13, 3, 9, 0, 10, 0, 0), (18, .aload_n 0, 1, 10, 0, 0, 0, 0), (19, .getfield 74, 3, 11, 0, 10, 7, 0), (22, .getfield 193, 3, 12, 0, 4, 0, 0), (25, .iconst 0, 1, 13, 0, 0, 0, 0), (26, .aload_n 0, 1, 14, 0, 0, 0, 0), (27, .getfield 74, 3, 15, 0, 10, 7, 0), (30, .getfield 102, 3, 16, 0, 4, 1, 0)],
  [(33, .invokevirtual 196, 3, 17, 0, 0, 23, 3), (36, .aload_n 0, 1, 18, 0, 0, 0, 0), (37, .getfield 80, 3, 19, 0, 10, 8, 0), (40, .iload_n 1, 1, 20, 0, 0, 0, 0), (41, .aload_n 0, 1, 21, 0, 0, 0, 0), (42, .getfield 74, 3, 22, 0, 10, 7, 0), (45, .invokevirtual 199, 3, 23, 0, 0, 24, 3), (48, .aastore, 1, 24, 0, 0, 0, 0), (49, .iconst 1, 1, 25, 0, 0, 0, 0), (50, .ireturn, 1, 26, 0, 0, 0, 2)]]
def ft_23 : List (List FI) := [[(0, .iload_n 3, 1, 1, 0, 0, 0, 0), (1, .iload_n 2, 1, 2, 0, 0, 0, 0), (2, .isub, 1, 3, 0, 0, 0, 0), (3, .aload_n 0, 1, 4, 0, 0, 0, 0), (4, .getfield 19, 3, 5, 0, 1, 3, 0), (7, .arraylength, 1, 6, 0, 0, 0, 0), (8, .if_icmp .le 25, 3, 7, 23, 0, 0, 1), (11, .aload_n 0, 1, 8, 0, 0, 0, 0), (12, .iconst 2, 1, 9, 0, 0, 0, 0), (13, .iload_n 3, 1, 10, 0, 0, 0, 0), (14, .iload_n 2, 1, 11, 0, 0, 0, 0), (15, .isub, 1, 12, 0, 0, 0, 0), (16, .imul, 1, 13, 0, 0, 0, 0), (17, .newarray .int, 2, 14, 0, 0, 0, 0), (19, .putfield 19, 3, 15, 0, 1, 3, 0), (22, .aload_n 0, 1, 16, 0, 0, 0, 0)],
  [(23, .iconst 2, 1, 17, 0, 0, 0, 0), (24, .iload_n 3, 1, 18, 0, 0, 0, 0), (25, .iload_n 2, 1, 19, 0, 0, 0, 0), (26, .isub, 1, 20, 0, 0, 0, 0), (27, .imul, 1, 21, 0, 0, 0, 0), (28, .newarray .int, 2, 22, 0, 0, 0, 0), (30, .putfield 22, 3, 23, 0, 1, 4, 0), (33, .iload_n 3, 1, 24, 0, 0, 0, 0), (34, .iconst 1, 1, 25, 0, 0, 0, 0), (35, .isub, 1, 26, 0, 0, 0, 0), (36, .istore 4, 2, 27, 0, 0, 0, 0), (38, .iload 4, 2, 28, 0, 0, 0, 0), (40, .iload_n 2, 1, 29, 0, 0, 0, 0), (41, .if_icmp .lt 218, 3, 30, 150, 0, 0, 1), (44, .aload_n 1, 1, 31, 0, 0, 0, 0), (45, .iload 4, 2, 32, 0, 0, 0, 0)],
  [(47, .iaload, 1, 33, 0, 0, 0, 0), (48, .istore 5, 2, 34, 0, 0, 0, 0), (50, .aload_n 0, 1, 35, 0, 0, 0, 0), (51, .getfield 9, 3, 36, 0, 1, 0, 0), (54, .iload 5, 2, 37, 0, 0, 0, 0), (56, .iaload, 1, 38, 0, 0, 0, 0), (57, .ifCond .le 17, 3, 39, 48, 0, 0, 1), (60, .aload_n 0, 1, 40, 0, 0, 0, 0), (61, .getfield 19, 3, 41, 0, 1, 3, 0), (64, .iload 4, 2, 42, 0, 0, 0, 0), (66, .iconst 1, 1, 43, 0, 0, 0, 0), (67, .iadd, 1, 44, 0, 0, 0, 0), (68, .iload_n 2, 1, 45, 0, 0, 0, 0), (69, .isub, 1, 46, 0, 0, 0, 0), (70, .iaload, 1, 47, 0, 0, 0, 0), (71, .goto 7, 3, 48, 51, 0, 0, 1)],
  [(74, .iload 4, 2, 49, 0, 0, 0, 0), (76, .iconst 1, 1, 50, 0, 0, 0, 0), (77, .iadd, 1, 51, 0, 0, 0, 0), (78, .istore 6, 2, 52, 0, 0, 0, 0), (80, .aload_n 0, 1, 53, 0, 0, 0, 0), (81, .getfield 9, 3, 54, 0, 1, 0, 0), (84, .iload 5, 2, 55, 0, 0, 0, 0), (86, .iaload, 1, 56, 0, 0, 0, 0), (87, .iconst 1, 1, 57, 0, 0, 0, 0), (88, .if_icmp .le 15, 3, 58, 65, 0, 0, 1), (91, .aload_n 0, 1, 59, 0, 0, 0, 0), (92, .getfield 19, 3, 60, 0, 1, 3, 0), (95, .iload 6, 2, 61, 0, 0, 0, 0), (97, .iload_n 2, 1, 62, 0, 0, 0, 0), (98, .isub, 1, 63, 0, 0, 0, 0), (99, .iaload, 1, 64, 0, 0, 0, 0)],
  [(100, .goto 5, 3, 65, 66, 0, 0, 1), (103, .iload 6, 2, 66, 0, 0, 0, 0), (105, .istore 7, 2, 67, 0, 0, 0, 0), (107, .aload_n 0, 1, 68, 0, 0, 0, 0), (108, .getfield 19, 3, 69, 0, 1, 3, 0), (111, .iload 4, 2, 70, 0, 0, 0, 0), (113, .iload_n 2, 1, 71, 0, 0, 0, 0), (114, .isub, 1, 72, 0, 0, 0, 0), (115, .iload 7, 2, 73, 0, 0, 0, 0), (117, .iastore, 1, 74, 0, 0, 0, 0), (118, .aload_n 0, 1, 75, 0, 0, 0, 0), (119, .getfield 15, 3, 76, 0, 1, 1, 0), (122, .iload 5, 2, 77, 0, 0, 0, 0), (124, .baload, 1, 78, 0, 0, 0, 0), (125, .ifCond .eq 128, 3, 79, 148, 0, 0, 1), (128, .iload 4, 2, 80, 0, 0, 0, 0)],
  [(130, .iconst 1, 1, 81, 0, 0, 0, 0), (131, .iadd, 1, 82, 0, 0, 0, 0), (132, .istore 8, 2, 83, 0, 0, 0, 0), (134, .iload 6, 2, 84, 0, 0, 0, 0), (136, .istore 9, 2, 85, 0, 0, 0, 0), (138, .iload 8, 2, 86, 0, 0, 0, 0), (140, .iload 6, 2, 87, 0, 0, 0, 0), (142, .if_icmp .ge 30, 3, 88, 101, 0, 0, 1), (145, .iload 9, 2, 89, 0, 0, 0, 0), (147, .iload 7, 2, 90, 0, 0, 0, 0), (149, .if_icmp .ge 23, 3, 91, 101, 0, 0, 1), (152, .aload_n 1, 1, 92, 0, 0, 0, 0), (153, .iload 8, 2, 93, 0, 0, 0, 0), (155, .iaload, 1, 94, 0, 0, 0, 0), (156, .aload_n 1, 1, 95, 0, 0, 0, 0), (157, .iload 9, 2, 96, 0, 0, 0, 0)],
  [(159, .iaload, 1, 97, 0, 0, 0, 0), (160, .if_icmp .ne 12, 3, 98, 101, 0, 0, 1), (163, .iinc 8 1, 3, 99, 0, 0, 0, 0), (166, .iinc 9 1, 3, 100, 0, 0, 0, 0), (169, .goto (-31), 3, 101, 85, 0, 0, 1), (172, .iload 8, 2, 102, 0, 0, 0, 0), (174, .iload 6, 2, 103, 0, 0, 0, 0), (176, .if_icmp .ge 77, 3, 104, 148, 0, 0, 1), (179, .iload 9, 2, 105, 0, 0, 0, 0), (181, .iload 7, 2, 106, 0, 0, 0, 0), (183, .if_icmp .ge 70, 3, 107, 148, 0, 0, 1), (186, .aload_n 1, 1, 108, 0, 0, 0, 0), (187, .iload 8, 2, 109, 0, 0, 0, 0), (189, .iaload, 1, 110, 0, 0, 0, 0), (190, .aload_n 1, 1, 111, 0, 0, 0, 0), (191, .iload 9, 2, 112, 0, 0, 0, 0)],
  [(193, .iaload, 1, 113, 0, 0, 0, 0), (194, .if_icmp .le 59, 3, 114, 148, 0, 0, 1), (197, .iload 6, 2, 115, 0, 0, 0, 0), (199, .iload 4, 2, 116, 0, 0, 0, 0), (201, .isub, 1, 117, 0, 0, 0, 0), (202, .iconst 1, 1, 118, 0, 0, 0, 0), (203, .isub, 1, 119, 0, 0, 0, 0), (204, .istore 10, 2, 120, 0, 0, 0, 0), (206, .aload_n 1, 1, 121, 0, 0, 0, 0), (207, .iload 4, 2, 122, 0, 0, 0, 0), (209, .iconst 1, 1, 123, 0, 0, 0, 0), (210, .iadd, 1, 124, 0, 0, 0, 0), (211, .aload_n 0, 1, 125, 0, 0, 0, 0), (212, .getfield 22, 3, 126, 0, 1, 4, 0), (215, .iconst 0, 1, 127, 0, 0, 0, 0), (216, .iload 10, 2, 128, 0, 0, 0, 0)],
  [(218, .invokestatic 29, 3, 129, 0, 4, 0, 3), (221, .aload_n 1, 1, 130, 0, 0, 0, 0), (222, .iload 6, 2, 131, 0, 0, 0, 0), (224, .aload_n 1, 1, 132, 0, 0, 0, 0), (225, .iload 4, 2, 133, 0, 0, 0, 0), (227, .iconst 1, 1, 134, 0, 0, 0, 0), (228, .iadd, 1, 135, 0, 0, 0, 0), (229, .iload 7, 2, 136, 0, 0, 0, 0), (231, .iload 6, 2, 137, 0, 0, 0, 0), (233, .isub, 1, 138, 0, 0, 0, 0), (234, .invokestatic 29, 3, 139, 0, 4, 0, 3), (237, .aload_n 0, 1, 140, 0, 0, 0, 0), (238, .getfield 22, 3, 141, 0, 1, 4, 0), (241, .iconst 0, 1, 142, 0, 0, 0, 0), (242, .aload_n 1, 1, 143, 0, 0, 0, 0), (243, .iload 7, 2, 144, 0, 0, 0, 0)],
  [(245, .iload 10, 2, 145, 0, 0, 0, 0), (247, .isub, 1, 146, 0, 0, 0, 0), (248, .iload 10, 2, 147, 0, 0, 0, 0), (250, .invokestatic 29, 3, 148, 0, 4, 0, 3), (253, .iinc 4 (-1), 3, 149, 0, 0, 0, 0), (256, .goto (-218), 3, 150, 27, 0, 0, 1), (259, .return_, 1, 151, 0, 0, 0, 2)]]
def ft_24 : List (List FI) := [[(0, .aload_n 0, 1, 1, 0, 0, 0, 0), (1, .getfield 7, 3, 2, 0, 4, 0, 0), (4, .aload_n 0, 1, 3, 0, 0, 0, 0), (5, .getfield 13, 3, 4, 0, 4, 1, 0), (8, .invokestatic 17, 3, 5, 0, 1, 20, 3), (11, .areturn, 1, 6, 0, 0, 0, 2)]]
def ft_25 : List (List FI) := [[(0, .iload_n 1, 1, 1, 0, 0, 0, 0), (1, .invokestatic 88, 3, 2, 0, 1, 14, 3), (4, .ifCond .eq 13, 3, 3, 9, 0, 0, 1), (7, .aload_n 0, 1, 4, 0, 0, 0, 0), (8, .getfield 80, 3, 5, 0, 10, 8, 0), (11, .iload_n 1, 1, 6, 0, 0, 0, 0), (12, .aaload, 1, 7, 0, 0, 0, 0), (13, .arraylength, 1, 8, 0, 0, 0, 0), (14, .goto 4, 3, 9, 10, 0, 0, 1), (17, .iconst (-1), 1, 10, 0, 0, 0, 0), (18, .ireturn, 1, 11, 0, 0, 0, 2)]]
def ft_26 : List (List FI) := [[(0, .iload_n 1, 1, 1, 0, 0, 0, 0), (1, .invokestatic 88, 3, 2, 0, 1, 14, 3), (4, .ifCond .eq 18, 3, 3, 12, 0, 0, 1), (7, .iload_n 2, 1, 4, 0, 0, 0, 0), (8, .ifCond .lt 14, 3, 5, 12, 0, 0, 1), (11, .iload_n 2, 1, 6, 0, 0, 0, 0), (12, .aload_n 0, 1, 7, 0, 0, 0, 0), (13, .getfield 80, 3, 8, 0, 10, 8, 0), (16, .iload_n 1, 1, 9, 0, 0, 0, 0), (17, .aaload, 1, 10, 0, 0, 0, 0), (18, .arraylength, 1, 11, 0, 0, 0, 0), (19, .if_icmp .lt 5, 3, 12, 14, 0, 0, 1), (22, .iconst (-1), 1, 13, 0, 0, 0, 0), (23, .ireturn, 1, 14, 0, 0, 0, 2), (24, .aload_n 0, 1, 15, 0, 0, 0, 0), (25, .getfield 80, 3, 16, 0, 10, 8, 0)],
  [(28, .iload_n 1, 1, 17, 0, 0, 0, 0), (29, .aaload, 1, 18, 0, 0, 0, 0), (30, .iload_n 2, 1, 19, 0, 0, 0, 0), (31, .iaload, 1, 20, 0, 0, 0, 0), (32, .istore_n 3, 1, 21, 0, 0, 0, 0), (33, .iload_n 3, 1, 22, 0, 0, 0, 0), (34, .bipush 12, 2, 23, 0, 0, 0, 0), (36, .if_icmp .ge 10, 3, 24, 28, 0, 0, 1), (39, .bipush 100, 2, 25, 0, 0, 0, 0), (41, .iload_n 3, 1, 26, 0, 0, 0, 0), (42, .iadd, 1, 27, 0, 0, 0, 0), (43, .goto 7, 3, 28, 31, 0, 0, 1), (46, .iload_n 3, 1, 29, 0, 0, 0, 0), (47, .bipush 12, 2, 30, 0, 0, 0, 0), (49, .isub, 1, 31, 0, 0, 0, 0), (50, .ireturn, 1, 32, 0, 0, 0, 2)]]
def ft_27 : List (List FI) := [[(0, .iload_n 1, 1, 1, 0, 0, 0, 0), (1, .invokestatic 88, 3, 2, 0, 1, 14, 3), (4, .ifCond .eq 32, 3, 3, 18, 0, 0, 1), (7, .iload_n 2, 1, 4, 0, 0, 0, 0), (8, .invokestatic 88, 3, 5, 0, 1, 14, 3), (11, .ifCond .eq 25, 3, 6, 18, 0, 0, 1), (14, .aload_n 0, 1, 7, 0, 0, 0, 0), (15, .getfield 80, 3, 8, 0, 10, 8, 0), (18, .iload_n 1, 1, 9, 0, 0, 0, 0), (19, .aaload, 1, 10, 0, 0, 0, 0), (20, .aload_n 0, 1, 11, 0, 0, 0, 0), (21, .getfield 80, 3, 12, 0, 10, 8, 0), (24, .iload_n 2, 1, 13, 0, 0, 0, 0), (25, .aaload, 1, 14, 0, 0, 0, 0), (26, .invokestatic 116, 3, 15, 0, 1, 28, 3), (29, .ifCond .eq 7, 3, 16, 18, 0, 0, 1)],
  [(32, .iconst 1, 1, 17, 0, 0, 0, 0), (33, .goto 4, 3, 18, 19, 0, 0, 1), (36, .iconst 0, 1, 19, 0, 0, 0, 0), (37, .ireturn, 1, 20, 0, 0, 0, 2)]]
def ft_28 : List (List FI) := [[(0, .aload_n 0, 1, 1, 0, 0, 0, 0), (1, .arraylength, 1, 2, 0, 0, 0, 0), (2, .aload_n 1, 1, 3, 0, 0, 0, 0), (3, .arraylength, 1, 4, 0, 0, 0, 0), (4, .if_icmp .ne 19, 3, 5, 15, 0, 0, 1), (7, .aload_n 0, 1, 6, 0, 0, 0, 0), (8, .iconst 0, 1, 7, 0, 0, 0, 0), (9, .aload_n 1, 1, 8, 0, 0, 0, 0), (10, .iconst 0, 1, 9, 0, 0, 0, 0), (11, .aload_n 0, 1, 10, 0, 0, 0, 0), (12, .arraylength, 1, 11, 0, 0, 0, 0), (13, .invokestatic 207, 3, 12, 0, 1, 29, 3), (16, .ifCond .eq 7, 3, 13, 15, 0, 0, 1), (19, .iconst 1, 1, 14, 0, 0, 0, 0), (20, .goto 4, 3, 15, 16, 0, 0, 1), (23, .iconst 0, 1, 16, 0, 0, 0, 0)],
  [(24, .ireturn, 1, 17, 0, 0, 0, 2)]]
def ft_29 : List (List FI) := [[(0, .iload_n 1, 1, 1, 0, 0, 0, 0), (1, .iload 4, 2, 2, 0, 0, 0, 0), (3, .iadd, 1, 3, 0, 0, 0, 0), (4, .aload_n 0, 1, 4, 0, 0, 0, 0), (5, .arraylength, 1, 5, 0, 0, 0, 0), (6, .if_icmp .gt 12, 3, 6, 12, 0, 0, 1), (9, .iload_n 3, 1, 7, 0, 0, 0, 0), (10, .iload 4, 2, 8, 0, 0, 0, 0), (12, .iadd, 1, 9, 0, 0, 0, 0), (13, .aload_n 2, 1, 10, 0, 0, 0, 0), (14, .arraylength, 1, 11, 0, 0, 0, 0), (15, .if_icmp .le 5, 3, 12, 14, 0, 0, 1), (18, .iconst 0, 1, 13, 0, 0, 0, 0), (19, .ireturn, 1, 14, 0, 0, 0, 2), (20, .iconst 0, 1, 15, 0, 0, 0, 0), (21, .istore 5, 2, 16, 0, 0, 0, 0)],
  [(23, .iload 5, 2, 17, 0, 0, 0, 0), (25, .iload 4, 2, 18, 0, 0, 0, 0), (27, .if_icmp .ge 26, 3, 19, 34, 0, 0, 1), (30, .aload_n 0, 1, 20, 0, 0, 0, 0), (31, .iload_n 1, 1, 21, 0, 0, 0, 0), (32, .iload 5, 2, 22, 0, 0, 0, 0), (34, .iadd, 1, 23, 0, 0, 0, 0), (35, .iaload, 1, 24, 0, 0, 0, 0), (36, .aload_n 2, 1, 25, 0, 0, 0, 0), (37, .iload_n 3, 1, 26, 0, 0, 0, 0), (38, .iload 5, 2, 27, 0, 0, 0, 0), (40, .iadd, 1, 28, 0, 0, 0, 0), (41, .iaload, 1, 29, 0, 0, 0, 0), (42, .if_icmp .eq 5, 3, 30, 32, 0, 0, 1), (45, .iconst 0, 1, 31, 0, 0, 0, 0), (46, .ireturn, 1, 32, 0, 0, 0, 2)],
  [(47, .iinc 5 1, 3, 33, 0, 0, 0, 0), (50, .goto (-27), 3, 34, 16, 0, 0, 1), (53, .iconst 1, 1, 35, 0, 0, 0, 0), (54, .ireturn, 1, 36, 0, 0, 0, 2)]]
def ft_30 : List (List FI) := [[(0, .iload_n 1, 1, 1, 0, 0, 0, 0), (1, .invokestatic 88, 3, 2, 0, 1, 14, 3), (4, .ifCond .eq 36, 3, 3, 20, 0, 0, 1), (7, .iload_n 2, 1, 4, 0, 0, 0, 0), (8, .invokestatic 88, 3, 5, 0, 1, 14, 3), (11, .ifCond .eq 29, 3, 6, 20, 0, 0, 1), (14, .aload_n 0, 1, 7, 0, 0, 0, 0), (15, .getfield 24, 3, 8, 0, 10, 1, 0), (18, .aload_n 0, 1, 9, 0, 0, 0, 0), (19, .getfield 80, 3, 10, 0, 10, 8, 0), (22, .iload_n 1, 1, 11, 0, 0, 0, 0), (23, .aaload, 1, 12, 0, 0, 0, 0), (24, .aload_n 0, 1, 13, 0, 0, 0, 0), (25, .getfield 80, 3, 14, 0, 10, 8, 0), (28, .iload_n 2, 1, 15, 0, 0, 0, 0), (29, .aaload, 1, 16, 0, 0, 0, 0)],
  [(30, .invokevirtual 120, 3, 17, 0, 0, 31, 3), (33, .ifCond .eq 7, 3, 18, 20, 0, 0, 1), (36, .iconst 1, 1, 19, 0, 0, 0, 0), (37, .goto 4, 3, 20, 21, 0, 0, 1), (40, .iconst 0, 1, 21, 0, 0, 0, 0), (41, .ireturn, 1, 22, 0, 0, 0, 2)]]
def ft_31 : List (List FI) := [[(0, .aload_n 1, 1, 1, 0, 0, 0, 0), (1, .arraylength, 1, 2, 0, 0, 0, 0), (2, .bipush 24, 2, 3, 0, 0, 0, 0), (4, .if_icmp .gt 10, 3, 4, 8, 0, 0, 1), (7, .aload_n 2, 1, 5, 0, 0, 0, 0), (8, .arraylength, 1, 6, 0, 0, 0, 0), (9, .bipush 24, 2, 7, 0, 0, 0, 0), (11, .if_icmp .le 5, 3, 8, 10, 0, 0, 1), (14, .iconst 0, 1, 9, 0, 0, 0, 0), (15, .ireturn, 1, 10, 0, 0, 0, 2), (16, .aload_n 0, 1, 11, 0, 0, 0, 0), (17, .aload_n 1, 1, 12, 0, 0, 0, 0), (18, .aload_n 0, 1, 13, 0, 0, 0, 0), (19, .getfield 15, 3, 14, 0, 2, 2, 0), (22, .invokevirtual 25, 3, 15, 0, 0, 32, 3), (25, .aload_n 0, 1, 16, 0, 0, 0, 0)],
  [(26, .aload_n 2, 1, 17, 0, 0, 0, 0), (27, .aload_n 0, 1, 18, 0, 0, 0, 0), (28, .getfield 18, 3, 19, 0, 2, 3, 0), (31, .invokevirtual 25, 3, 20, 0, 0, 32, 3), (34, .aload_n 1, 1, 21, 0, 0, 0, 0), (35, .arraylength, 1, 22, 0, 0, 0, 0), (36, .iconst 1, 1, 23, 0, 0, 0, 0), (37, .isub, 1, 24, 0, 0, 0, 0), (38, .istore_n 3, 1, 25, 0, 0, 0, 0), (39, .iload_n 3, 1, 26, 0, 0, 0, 0), (40, .ifCond .lt 52, 3, 27, 56, 0, 0, 1), (43, .aload_n 2, 1, 28, 0, 0, 0, 0), (44, .arraylength, 1, 29, 0, 0, 0, 0), (45, .iconst 1, 1, 30, 0, 0, 0, 0), (46, .isub, 1, 31, 0, 0, 0, 0), (47, .istore 4, 2, 32, 0, 0, 0, 0)],
  [(49, .iload 4, 2, 33, 0, 0, 0, 0), (51, .ifCond .lt 35, 3, 34, 54, 0, 0, 1), (54, .aload_n 0, 1, 35, 0, 0, 0, 0), (55, .getfield 9, 3, 36, 0, 2, 1, 0), (58, .iload_n 3, 1, 37, 0, 0, 0, 0), (59, .bipush 24, 2, 38, 0, 0, 0, 0), (61, .imul, 1, 39, 0, 0, 0, 0), (62, .iload 4, 2, 40, 0, 0, 0, 0), (64, .iadd, 1, 41, 0, 0, 0, 0), (65, .aload_n 0, 1, 42, 0, 0, 0, 0), (66, .aload_n 1, 1, 43, 0, 0, 0, 0), (67, .iload_n 3, 1, 44, 0, 0, 0, 0), (68, .iaload, 1, 45, 0, 0, 0, 0), (69, .aload_n 2, 1, 46, 0, 0, 0, 0), (70, .iload 4, 2, 47, 0, 0, 0, 0), (72, .iaload, 1, 48, 0, 0, 0, 0)],
  [(73, .iload_n 3, 1, 49, 0, 0, 0, 0), (74, .iload 4, 2, 50, 0, 0, 0, 0), (76, .invokevirtual 29, 3, 51, 0, 0, 34, 3), (79, .iastore, 1, 52, 0, 0, 0, 0), (80, .iinc 4 (-1), 3, 53, 0, 0, 0, 0), (83, .goto (-34), 3, 54, 32, 0, 0, 1), (86, .iinc 3 (-1), 3, 55, 0, 0, 0, 0), (89, .goto (-50), 3, 56, 25, 0, 0, 1), (92, .aload_n 0, 1, 57, 0, 0, 0, 0), (93, .getfield 9, 3, 58, 0, 2, 1, 0), (96, .iconst 0, 1, 59, 0, 0, 0, 0), (97, .iaload, 1, 60, 0, 0, 0, 0), (98, .iconst 2, 1, 61, 0, 0, 0, 0), (99, .if_icmp .ne 7, 3, 62, 64, 0, 0, 1), (102, .iconst 1, 1, 63, 0, 0, 0, 0), (103, .goto 4, 3, 64, 65, 0, 0, 1)],
  [(106, .iconst 0, 1, 65, 0, 0, 0, 0), (107, .ireturn, 1, 66, 0, 0, 0, 2)]]
def ft_32 : List (List FI) := [[(0, .iconst 0, 1, 1, 0, 0, 0, 0), (1, .istore_n 3, 1, 2, 0, 0, 0, 0), (2, .iload_n 3, 1, 3, 0, 0, 0, 0), (3, .aload_n 1, 1, 4, 0, 0, 0, 0), (4, .arraylength, 1, 5, 0, 0, 0, 0), (5, .if_icmp .ge 41, 3, 6, 28, 0, 0, 1), (8, .aload_n 2, 1, 7, 0, 0, 0, 0), (9, .iload_n 3, 1, 8, 0, 0, 0, 0), (10, .aload_n 0, 1, 9, 0, 0, 0, 0), (11, .getfield 21, 3, 10, 0, 2, 0, 0), (14, .aload_n 1, 1, 11, 0, 0, 0, 0), (15, .iload_n 3, 1, 12, 0, 0, 0, 0), (16, .iaload, 1, 13, 0, 0, 0, 0), (17, .invokevirtual 33, 3, 14, 0, 0, 18, 3), (20, .iconst 1, 1, 15, 0, 0, 0, 0), (21, .if_icmp .le 17, 3, 16, 24, 0, 0, 1)],
  [(24, .aload_n 0, 1, 17, 0, 0, 0, 0), (25, .getfield 21, 3, 18, 0, 2, 0, 0), (28, .aload_n 1, 1, 19, 0, 0, 0, 0), (29, .iload_n 3, 1, 20, 0, 0, 0, 0), (30, .iconst 1, 1, 21, 0, 0, 0, 0), (31, .iadd, 1, 22, 0, 0, 0, 0), (32, .invokevirtual 39, 3, 23, 0, 0, 33, 3), (35, .goto 4, 3, 24, 25, 0, 0, 1), (38, .iload_n 3, 1, 25, 0, 0, 0, 0), (39, .iastore, 1, 26, 0, 0, 0, 0), (40, .iinc 3 1, 3, 27, 0, 0, 0, 0), (43, .goto (-41), 3, 28, 2, 0, 0, 1), (46, .return_, 1, 29, 0, 0, 0, 2)]]
def ft_33 : List (List FI) := [[(0, .iconst 1, 1, 1, 0, 0, 0, 0), (1, .istore_n 3, 1, 2, 0, 0, 0, 0), (2, .iload_n 2, 1, 3, 0, 0, 0, 0), (3, .istore 4, 2, 4, 0, 0, 0, 0), (5, .iload_n 3, 1, 5, 0, 0, 0, 0), (6, .ifCond .le 30, 3, 6, 23, 0, 0, 1), (9, .iload 4, 2, 7, 0, 0, 0, 0), (11, .aload_n 1, 1, 8, 0, 0, 0, 0), (12, .arraylength, 1, 9, 0, 0, 0, 0), (13, .if_icmp .ge 23, 3, 10, 23, 0, 0, 1), (16, .iload_n 3, 1, 11, 0, 0, 0, 0), (17, .aload_n 0, 1, 12, 0, 0, 0, 0), (18, .getfield 9, 3, 13, 0, 1, 0, 0), (21, .aload_n 1, 1, 14, 0, 0, 0, 0), (22, .iload 4, 2, 15, 0, 0, 0, 0), (24, .iaload, 1, 16, 0, 0, 0, 0)],
  [(25, .iaload, 1, 17, 0, 0, 0, 0), (26, .iconst 1, 1, 18, 0, 0, 0, 0), (27, .isub, 1, 19, 0, 0, 0, 0), (28, .iadd, 1, 20, 0, 0, 0, 0), (29, .istore_n 3, 1, 21, 0, 0, 0, 0), (30, .iinc 4 1, 3, 22, 0, 0, 0, 0), (33, .goto (-28), 3, 23, 4, 0, 0, 1), (36, .iload 4, 2, 24, 0, 0, 0, 0), (38, .ireturn, 1, 25, 0, 0, 0, 2)]]
def ft_34 : List (List FI) := [[(0, .iload_n 1, 1, 1, 0, 0, 0, 0), (1, .bipush 12, 2, 2, 0, 0, 0, 0), (3, .if_icmp .ge 14, 3, 3, 10, 0, 0, 1), (6, .iload_n 1, 1, 4, 0, 0, 0, 0), (7, .iload_n 2, 1, 5, 0, 0, 0, 0), (8, .if_icmp .ne 7, 3, 6, 8, 0, 0, 1), (11, .iconst 1, 1, 7, 0, 0, 0, 0), (12, .goto 4, 3, 8, 9, 0, 0, 1), (15, .iconst 0, 1, 9, 0, 0, 0, 0), (16, .ireturn, 1, 10, 0, 0, 0, 2), (17, .aload_n 0, 1, 11, 0, 0, 0, 0), (18, .getfield 21, 3, 12, 0, 2, 0, 0), (21, .iload_n 1, 1, 13, 0, 0, 0, 0), (22, .invokevirtual 33, 3, 14, 0, 0, 18, 3), (25, .istore 5, 2, 15, 0, 0, 0, 0), (27, .iload 5, 2, 16, 0, 0, 0, 0)],
  [(29, .ifCond .le 17, 3, 17, 26, 0, 0, 1), (32, .aload_n 0, 1, 18, 0, 0, 0, 0), (33, .iload_n 3, 1, 19, 0, 0, 0, 0), (34, .iconst 1, 1, 20, 0, 0, 0, 0), (35, .iadd, 1, 21, 0, 0, 0, 0), (36, .iload 4, 2, 22, 0, 0, 0, 0), (38, .invokevirtual 43, 3, 23, 0, 0, 35, 3), (41, .ifCond .eq 5, 3, 24, 26, 0, 0, 1), (44, .iconst 2, 1, 25, 0, 0, 0, 0), (45, .ireturn, 1, 26, 0, 0, 0, 2), (46, .iload 5, 2, 27, 0, 0, 0, 0), (48, .iconst 1, 1, 28, 0, 0, 0, 0), (49, .if_icmp .le 20, 3, 29, 39, 0, 0, 1), (52, .aload_n 0, 1, 30, 0, 0, 0, 0), (53, .aload_n 0, 1, 31, 0, 0, 0, 0), (54, .getfield 15, 3, 32, 0, 2, 2, 0)],
  [(57, .iload_n 3, 1, 33, 0, 0, 0, 0), (58, .iaload, 1, 34, 0, 0, 0, 0), (59, .iload 4, 2, 35, 0, 0, 0, 0), (61, .invokevirtual 43, 3, 36, 0, 0, 35, 3), (64, .ifCond .eq 5, 3, 37, 39, 0, 0, 1), (67, .iconst 2, 1, 38, 0, 0, 0, 0), (68, .ireturn, 1, 39, 0, 0, 0, 2), (69, .iload_n 2, 1, 40, 0, 0, 0, 0), (70, .bipush 12, 2, 41, 0, 0, 0, 0), (72, .if_icmp .lt 8, 3, 42, 45, 0, 0, 1), (75, .iload_n 1, 1, 43, 0, 0, 0, 0), (76, .iload_n 2, 1, 44, 0, 0, 0, 0), (77, .if_icmp .ge 5, 3, 45, 47, 0, 0, 1), (80, .iconst 0, 1, 46, 0, 0, 0, 0), (81, .ireturn, 1, 47, 0, 0, 0, 2), (82, .iload_n 1, 1, 48, 0, 0, 0, 0)],
  [(83, .iload_n 2, 1, 49, 0, 0, 0, 0), (84, .if_icmp .ne 17, 3, 50, 58, 0, 0, 1), (87, .aload_n 0, 1, 51, 0, 0, 0, 0), (88, .iload 5, 2, 52, 0, 0, 0, 0), (90, .iload_n 3, 1, 53, 0, 0, 0, 0), (91, .iload 4, 2, 54, 0, 0, 0, 0), (93, .invokevirtual 47, 3, 55, 0, 0, 36, 3), (96, .ifCond .eq 5, 3, 56, 58, 0, 0, 1), (99, .iconst 1, 1, 57, 0, 0, 0, 0), (100, .ireturn, 1, 58, 0, 0, 0, 2), (101, .aload_n 0, 1, 59, 0, 0, 0, 0), (102, .getfield 21, 3, 60, 0, 2, 0, 0), (105, .iload_n 2, 1, 61, 0, 0, 0, 0), (106, .invokevirtual 33, 3, 62, 0, 0, 18, 3), (109, .istore 6, 2, 63, 0, 0, 0, 0), (111, .iload 6, 2, 64, 0, 0, 0, 0)],
  [(113, .ifCond .le 18, 3, 65, 75, 0, 0, 1), (116, .aload_n 0, 1, 66, 0, 0, 0, 0), (117, .iload_n 3, 1, 67, 0, 0, 0, 0), (118, .iload 4, 2, 68, 0, 0, 0, 0), (120, .iconst 1, 1, 69, 0, 0, 0, 0), (121, .iadd, 1, 70, 0, 0, 0, 0), (122, .invokevirtual 43, 3, 71, 0, 0, 35, 3), (125, .iconst 2, 1, 72, 0, 0, 0, 0), (126, .if_icmp .eq 5, 3, 73, 75, 0, 0, 1), (129, .iconst 0, 1, 74, 0, 0, 0, 0), (130, .ireturn, 1, 75, 0, 0, 0, 2), (131, .iload 6, 2, 76, 0, 0, 0, 0), (133, .iconst 1, 1, 77, 0, 0, 0, 0), (134, .if_icmp .le 21, 3, 78, 89, 0, 0, 1), (137, .aload_n 0, 1, 79, 0, 0, 0, 0), (138, .iload_n 3, 1, 80, 0, 0, 0, 0)],
  [(139, .aload_n 0, 1, 81, 0, 0, 0, 0), (140, .getfield 18, 3, 82, 0, 2, 3, 0), (143, .iload 4, 2, 83, 0, 0, 0, 0), (145, .iaload, 1, 84, 0, 0, 0, 0), (146, .invokevirtual 43, 3, 85, 0, 0, 35, 3), (149, .iconst 2, 1, 86, 0, 0, 0, 0), (150, .if_icmp .eq 5, 3, 87, 89, 0, 0, 1), (153, .iconst 0, 1, 88, 0, 0, 0, 0), (154, .ireturn, 1, 89, 0, 0, 0, 2), (155, .iload_n 1, 1, 90, 0, 0, 0, 0), (156, .iload_n 2, 1, 91, 0, 0, 0, 0), (157, .if_icmp .gt 14, 3, 92, 98, 0, 0, 1), (160, .aload_n 0, 1, 93, 0, 0, 0, 0), (161, .iload_n 1, 1, 94, 0, 0, 0, 0), (162, .iload_n 3, 1, 95, 0, 0, 0, 0), (163, .iload 4, 2, 96, 0, 0, 0, 0)],
  [(165, .invokevirtual 51, 3, 97, 0, 0, 37, 3), (168, .ifCond .eq 7, 3, 98, 100, 0, 0, 1), (171, .iconst 2, 1, 99, 0, 0, 0, 0), (172, .goto 4, 3, 100, 101, 0, 0, 1), (175, .iconst 0, 1, 101, 0, 0, 0, 0), (176, .ireturn, 1, 102, 0, 0, 0, 2)]]
def ft_35 : List (List FI) := [[(0, .aload_n 0, 1, 1, 0, 0, 0, 0), (1, .getfield 9, 3, 2, 0, 2, 1, 0), (4, .iload_n 1, 1, 3, 0, 0, 0, 0), (5, .bipush 24, 2, 4, 0, 0, 0, 0), (7, .imul, 1, 5, 0, 0, 0, 0), (8, .iload_n 2, 1, 6, 0, 0, 0, 0), (9, .iadd, 1, 7, 0, 0, 0, 0), (10, .iaload, 1, 8, 0, 0, 0, 0), (11, .ireturn, 1, 9, 0, 0, 0, 2)]]
def ft_36 : List (List FI) := [[(0, .iload_n 1, 1, 1, 0, 0, 0, 0), (1, .iconst 1, 1, 2, 0, 0, 0, 0), (2, .if_icmp .lt 17, 3, 3, 13, 0, 0, 1), (5, .aload_n 0, 1, 4, 0, 0, 0, 0), (6, .iload_n 2, 1, 5, 0, 0, 0, 0), (7, .iconst 1, 1, 6, 0, 0, 0, 0), (8, .iadd, 1, 7, 0, 0, 0, 0), (9, .iload_n 3, 1, 8, 0, 0, 0, 0), (10, .iconst 1, 1, 9, 0, 0, 0, 0), (11, .iadd, 1, 10, 0, 0, 0, 0), (12, .invokevirtual 43, 3, 11, 0, 0, 35, 3), (15, .iconst 1, 1, 12, 0, 0, 0, 0), (16, .if_icmp .ne 32, 3, 13, 30, 0, 0, 1), (19, .iload_n 1, 1, 14, 0, 0, 0, 0), (20, .iconst 2, 1, 15, 0, 0, 0, 0), (21, .if_icmp .lt 23, 3, 16, 28, 0, 0, 1)],
  [(24, .aload_n 0, 1, 17, 0, 0, 0, 0), (25, .aload_n 0, 1, 18, 0, 0, 0, 0), (26, .getfield 15, 3, 19, 0, 2, 2, 0), (29, .iload_n 2, 1, 20, 0, 0, 0, 0), (30, .iaload, 1, 21, 0, 0, 0, 0), (31, .aload_n 0, 1, 22, 0, 0, 0, 0), (32, .getfield 18, 3, 23, 0, 2, 3, 0), (35, .iload_n 3, 1, 24, 0, 0, 0, 0), (36, .iaload, 1, 25, 0, 0, 0, 0), (37, .invokevirtual 43, 3, 26, 0, 0, 35, 3), (40, .iconst 1, 1, 27, 0, 0, 0, 0), (41, .if_icmp .ne 7, 3, 28, 30, 0, 0, 1), (44, .iconst 1, 1, 29, 0, 0, 0, 0), (45, .goto 4, 3, 30, 31, 0, 0, 1), (48, .iconst 0, 1, 31, 0, 0, 0, 0), (49, .ireturn, 1, 32, 0, 0, 0, 2)]]
def ft_37 : List (List FI) := [[(0, .aload_n 0, 1, 1, 0, 0, 0, 0), (1, .iload_n 2, 1, 2, 0, 0, 0, 0), (2, .iconst 1, 1, 3, 0, 0, 0, 0), (3, .iadd, 1, 4, 0, 0, 0, 0), (4, .iload_n 3, 1, 5, 0, 0, 0, 0), (5, .iconst 1, 1, 6, 0, 0, 0, 0), (6, .iadd, 1, 7, 0, 0, 0, 0), (7, .invokevirtual 43, 3, 8, 0, 0, 35, 3), (10, .istore 4, 2, 9, 0, 0, 0, 0), (12, .aload_n 0, 1, 10, 0, 0, 0, 0), (13, .getfield 21, 3, 11, 0, 2, 0, 0), (16, .iload_n 1, 1, 12, 0, 0, 0, 0), (17, .invokevirtual 33, 3, 13, 0, 0, 18, 3), (20, .iconst 2, 1, 14, 0, 0, 0, 0), (21, .if_icmp .ge 15, 3, 15, 22, 0, 0, 1), (24, .iload 4, 2, 16, 0, 0, 0, 0)],
  [(26, .iconst 2, 1, 17, 0, 0, 0, 0), (27, .if_icmp .ne 7, 3, 18, 20, 0, 0, 1), (30, .iconst 1, 1, 19, 0, 0, 0, 0), (31, .goto 4, 3, 20, 21, 0, 0, 1), (34, .iconst 0, 1, 21, 0, 0, 0, 0), (35, .ireturn, 1, 22, 0, 0, 0, 2), (36, .aload_n 0, 1, 23, 0, 0, 0, 0), (37, .aload_n 0, 1, 24, 0, 0, 0, 0), (38, .getfield 15, 3, 25, 0, 2, 2, 0), (41, .iload_n 2, 1, 26, 0, 0, 0, 0), (42, .iaload, 1, 27, 0, 0, 0, 0), (43, .aload_n 0, 1, 28, 0, 0, 0, 0), (44, .getfield 18, 3, 29, 0, 2, 3, 0), (47, .iload_n 3, 1, 30, 0, 0, 0, 0), (48, .iaload, 1, 31, 0, 0, 0, 0), (49, .invokevirtual 43, 3, 32, 0, 0, 35, 3)],
  [(52, .istore 5, 2, 33, 0, 0, 0, 0), (54, .aload_n 0, 1, 34, 0, 0, 0, 0), (55, .getfield 21, 3, 35, 0, 2, 0, 0), (58, .iload_n 1, 1, 36, 0, 0, 0, 0), (59, .invokevirtual 54, 3, 37, 0, 0, 38, 3), (62, .ifCond .ne 27, 3, 38, 51, 0, 0, 1), (65, .iload 4, 2, 39, 0, 0, 0, 0), (67, .iconst 2, 1, 40, 0, 0, 0, 0), (68, .if_icmp .eq 15, 3, 41, 47, 0, 0, 1), (71, .iload 4, 2, 42, 0, 0, 0, 0), (73, .iconst 1, 1, 43, 0, 0, 0, 0), (74, .if_icmp .ne 13, 3, 44, 49, 0, 0, 1), (77, .iload 5, 2, 45, 0, 0, 0, 0), (79, .iconst 2, 1, 46, 0, 0, 0, 0), (80, .if_icmp .ne 7, 3, 47, 49, 0, 0, 1), (83, .iconst 1, 1, 48, 0, 0, 0, 0)],
  [(84, .goto 4, 3, 49, 50, 0, 0, 1), (87, .iconst 0, 1, 50, 0, 0, 0, 0), (88, .ireturn, 1, 51, 0, 0, 0, 2), (89, .aload_n 0, 1, 52, 0, 0, 0, 0), (90, .iload_n 2, 1, 53, 0, 0, 0, 0), (91, .iconst 1, 1, 54, 0, 0, 0, 0), (92, .iadd, 1, 55, 0, 0, 0, 0), (93, .aload_n 0, 1, 56, 0, 0, 0, 0), (94, .getfield 18, 3, 57, 0, 2, 3, 0), (97, .iload_n 3, 1, 58, 0, 0, 0, 0), (98, .iaload, 1, 59, 0, 0, 0, 0), (99, .invokevirtual 43, 3, 60, 0, 0, 35, 3), (102, .istore 6, 2, 61, 0, 0, 0, 0), (104, .aload_n 0, 1, 62, 0, 0, 0, 0), (105, .aload_n 0, 1, 63, 0, 0, 0, 0), (106, .getfield 15, 3, 64, 0, 2, 2, 0)],
  [(109, .iload_n 2, 1, 65, 0, 0, 0, 0), (110, .iaload, 1, 66, 0, 0, 0, 0), (111, .iload_n 3, 1, 67, 0, 0, 0, 0), (112, .iconst 1, 1, 68, 0, 0, 0, 0), (113, .iadd, 1, 69, 0, 0, 0, 0), (114, .invokevirtual 43, 3, 70, 0, 0, 35, 3), (117, .istore 7, 2, 71, 0, 0, 0, 0), (119, .iload 4, 2, 72, 0, 0, 0, 0), (121, .iconst 1, 1, 73, 0, 0, 0, 0), (122, .if_icmp .ne 15, 3, 74, 81, 0, 0, 1), (125, .iload 5, 2, 75, 0, 0, 0, 0), (127, .iconst 2, 1, 76, 0, 0, 0, 0), (128, .if_icmp .ne 7, 3, 77, 79, 0, 0, 1), (131, .iconst 1, 1, 78, 0, 0, 0, 0), (132, .goto 4, 3, 79, 80, 0, 0, 1), (135, .iconst 0, 1, 80, 0, 0, 0, 0)],
  [(136, .ireturn, 1, 81, 0, 0, 0, 2), (137, .iload 6, 2, 82, 0, 0, 0, 0), (139, .iconst 1, 1, 83, 0, 0, 0, 0), (140, .if_icmp .ne 15, 3, 84, 91, 0, 0, 1), (143, .iload 7, 2, 85, 0, 0, 0, 0), (145, .iconst 2, 1, 86, 0, 0, 0, 0), (146, .if_icmp .ne 7, 3, 87, 89, 0, 0, 1), (149, .iconst 1, 1, 88, 0, 0, 0, 0), (150, .goto 4, 3, 89, 90, 0, 0, 1), (153, .iconst 0, 1, 90, 0, 0, 0, 0), (154, .ireturn, 1, 91, 0, 0, 0, 2), (155, .iload 7, 2, 92, 0, 0, 0, 0), (157, .iconst 1, 1, 93, 0, 0, 0, 0), (158, .if_icmp .ne 15, 3, 94, 101, 0, 0, 1), (161, .iload 6, 2, 95, 0, 0, 0, 0), (163, .iconst 2, 1, 96, 0, 0, 0, 0)],
  [(164, .if_icmp .ne 7, 3, 97, 99, 0, 0, 1), (167, .iconst 1, 1, 98, 0, 0, 0, 0), (168, .goto 4, 3, 99, 100, 0, 0, 1), (171, .iconst 0, 1, 100, 0, 0, 0, 0), (172, .ireturn, 1, 101, 0, 0, 0, 2), (173, .iload 5, 2, 102, 0, 0, 0, 0), (175, .iconst 1, 1, 103, 0, 0, 0, 0), (176, .if_icmp .ne 15, 3, 104, 111, 0, 0, 1), (179, .iload 4, 2, 105, 0, 0, 0, 0), (181, .iconst 2, 1, 106, 0, 0, 0, 0), (182, .if_icmp .ne 7, 3, 107, 109, 0, 0, 1), (185, .iconst 1, 1, 108, 0, 0, 0, 0), (186, .goto 4, 3, 109, 110, 0, 0, 1), (189, .iconst 0, 1, 110, 0, 0, 0, 0), (190, .ireturn, 1, 111, 0, 0, 0, 2), (191, .iload 4, 2, 112, 0, 0, 0, 0)],
  [(193, .iconst 2, 1, 113, 0, 0, 0, 0), (194, .if_icmp .eq 9, 3, 114, 117, 0, 0, 1), (197, .iload 7, 2, 115, 0, 0, 0, 0), (199, .iconst 2, 1, 116, 0, 0, 0, 0), (200, .if_icmp .ne 19, 3, 117, 125, 0, 0, 1), (203, .iload 6, 2, 118, 0, 0, 0, 0), (205, .iconst 2, 1, 119, 0, 0, 0, 0), (206, .if_icmp .eq 9, 3, 120, 123, 0, 0, 1), (209, .iload 5, 2, 121, 0, 0, 0, 0), (211, .iconst 2, 1, 122, 0, 0, 0, 0), (212, .if_icmp .ne 7, 3, 123, 125, 0, 0, 1), (215, .iconst 1, 1, 124, 0, 0, 0, 0), (216, .goto 4, 3, 125, 126, 0, 0, 1), (219, .iconst 0, 1, 126, 0, 0, 0, 0), (220, .ireturn, 1, 127, 0, 0, 0, 2)]]
def ft_38 : List (List FI) := [[(0, .aload_n 0, 1, 1, 0, 0, 0, 0), (1, .getfield 15, 3, 2, 0, 1, 1, 0), (4, .iload_n 1, 1, 3, 0, 0, 0, 0), (5, .baload, 1, 4, 0, 0, 0, 0), (6, .ireturn, 1, 5, 0, 0, 0, 2)]]
def ft_39 : List (List FI) := [[(0, .iload_n 1, 1, 1, 0, 0, 0, 0), (1, .invokestatic 88, 3, 2, 0, 1, 14, 3), (4, .ifCond .eq 10, 3, 3, 6, 0, 0, 1), (7, .iload_n 2, 1, 4, 0, 0, 0, 0), (8, .invokestatic 88, 3, 5, 0, 1, 14, 3), (11, .ifCond .ne 5, 3, 6, 8, 0, 0, 1), (14, .iconst (-1), 1, 7, 0, 0, 0, 0), (15, .ireturn, 1, 8, 0, 0, 0, 2), (16, .aload_n 0, 1, 9, 0, 0, 0, 0), (17, .getfield 33, 3, 10, 0, 10, 2, 0), (20, .aload_n 0, 1, 11, 0, 0, 0, 0), (21, .getfield 80, 3, 12, 0, 10, 8, 0), (24, .iload_n 1, 1, 13, 0, 0, 0, 0), (25, .aaload, 1, 14, 0, 0, 0, 0), (26, .aload_n 0, 1, 15, 0, 0, 0, 0), (27, .getfield 80, 3, 16, 0, 10, 8, 0)],
  [(30, .iload_n 2, 1, 17, 0, 0, 0, 0), (31, .aaload, 1, 18, 0, 0, 0, 0), (32, .iconst 0, 1, 19, 0, 0, 0, 0), (33, .invokevirtual 123, 3, 20, 0, 0, 40, 3), (36, .ireturn, 1, 21, 0, 0, 0, 2)]]
def ft_40 : List (List FI) := [[(0, .aload_n 0, 1, 1, 0, 0, 0, 0), (1, .aload_n 1, 1, 2, 0, 0, 0, 0), (2, .putfield 21, 3, 3, 0, 3, 7, 0), (5, .aload_n 0, 1, 4, 0, 0, 0, 0), (6, .aload_n 2, 1, 5, 0, 0, 0, 0), (7, .putfield 24, 3, 6, 0, 3, 8, 0), (10, .aload_n 0, 1, 7, 0, 0, 0, 0), (11, .iload_n 3, 1, 8, 0, 0, 0, 0), (12, .putfield 35, 3, 9, 0, 3, 9, 0), (15, .aload_n 0, 1, 10, 0, 0, 0, 0), (16, .iconst 0, 1, 11, 0, 0, 0, 0), (17, .putfield 39, 3, 12, 0, 3, 10, 0), (20, .aload_n 0, 1, 13, 0, 0, 0, 0), (21, .iconst 0, 1, 14, 0, 0, 0, 0), (22, .putfield 42, 3, 15, 0, 3, 4, 0), (25, .aload_n 0, 1, 16, 0, 0, 0, 0)],
  [(26, .iconst 0, 1, 17, 0, 0, 0, 0), (27, .putfield 45, 3, 18, 0, 3, 6, 0), (30, .aload_n 0, 1, 19, 0, 0, 0, 0), (31, .getfield 9, 3, 20, 0, 3, 2, 0), (34, .iconst 0, 1, 21, 0, 0, 0, 0), (35, .iload_n 3, 1, 22, 0, 0, 0, 0), (36, .iastore, 1, 23, 0, 0, 0, 0), (37, .iconst 0, 1, 24, 0, 0, 0, 0), (38, .istore 4, 2, 25, 0, 0, 0, 0), (40, .iconst 0, 1, 26, 0, 0, 0, 0), (41, .istore 5, 2, 27, 0, 0, 0, 0), (43, .iload 5, 2, 28, 0, 0, 0, 0), (45, .ldc 48, 2, 29, 0, 1000000, 0, 0), (47, .if_icmp .ge 126, 3, 30, 91, 0, 0, 1), (50, .iload 4, 2, 31, 0, 0, 0, 0), (52, .iconst (-1), 1, 32, 0, 0, 0, 0)],
  [(53, .if_icmp .eq 120, 3, 33, 91, 0, 0, 1), (56, .iload 4, 2, 34, 0, 0, 0, 0), (58, .aload_n 0, 1, 35, 0, 0, 0, 0), (59, .getfield 21, 3, 36, 0, 3, 7, 0), (62, .arraylength, 1, 37, 0, 0, 0, 0), (63, .if_icmp .lt 16, 3, 38, 44, 0, 0, 1), (66, .aload_n 0, 1, 39, 0, 0, 0, 0), (67, .invokevirtual 49, 3, 40, 0, 0, 41, 3), (70, .aload_n 0, 1, 41, 0, 0, 0, 0), (71, .invokevirtual 52, 3, 42, 0, 0, 42, 3), (74, .istore 4, 2, 43, 0, 0, 0, 0), (76, .goto 91, 3, 44, 89, 0, 0, 1), (79, .aload_n 0, 1, 45, 0, 0, 0, 0), (80, .getfield 9, 3, 46, 0, 3, 2, 0), (83, .iload 4, 2, 47, 0, 0, 0, 0), (85, .iaload, 1, 48, 0, 0, 0, 0)],
  [(86, .istore 6, 2, 49, 0, 0, 0, 0), (88, .aload_n 0, 1, 50, 0, 0, 0, 0), (89, .getfield 27, 3, 51, 0, 3, 0, 0), (92, .aload_n 0, 1, 52, 0, 0, 0, 0), (93, .getfield 21, 3, 53, 0, 3, 7, 0), (96, .iload 4, 2, 54, 0, 0, 0, 0), (98, .invokevirtual 56, 3, 55, 0, 0, 33, 3), (101, .iload 4, 2, 56, 0, 0, 0, 0), (103, .isub, 1, 57, 0, 0, 0, 0), (104, .istore 7, 2, 58, 0, 0, 0, 0), (106, .aload_n 0, 1, 59, 0, 0, 0, 0), (107, .getfield 27, 3, 60, 0, 3, 0, 0), (110, .aload_n 0, 1, 61, 0, 0, 0, 0), (111, .getfield 24, 3, 62, 0, 3, 8, 0), (114, .iload 6, 2, 63, 0, 0, 0, 0), (116, .invokevirtual 56, 3, 64, 0, 0, 33, 3)],
  [(119, .iload 6, 2, 65, 0, 0, 0, 0), (121, .isub, 1, 66, 0, 0, 0, 0), (122, .istore 8, 2, 67, 0, 0, 0, 0), (124, .aload_n 0, 1, 68, 0, 0, 0, 0), (125, .getfield 31, 3, 69, 0, 3, 1, 0), (128, .iload 7, 2, 70, 0, 0, 0, 0), (130, .iload 8, 2, 71, 0, 0, 0, 0), (132, .iadd, 1, 72, 0, 0, 0, 0), (133, .invokevirtual 62, 3, 73, 0, 0, 43, 3), (136, .ifCond .ne 5, 3, 74, 76, 0, 0, 1), (139, .iconst (-1), 1, 75, 0, 0, 0, 0), (140, .ireturn, 1, 76, 0, 0, 0, 2), (141, .aload_n 0, 1, 77, 0, 0, 0, 0), (142, .iload 4, 2, 78, 0, 0, 0, 0), (144, .iload 6, 2, 79, 0, 0, 0, 0), (146, .iload 8, 2, 80, 0, 0, 0, 0)],
  [(148, .invokevirtual 68, 3, 81, 0, 0, 44, 3), (151, .ifCond .eq 10, 3, 82, 86, 0, 0, 1), (154, .iload 4, 2, 83, 0, 0, 0, 0), (156, .iconst 1, 1, 84, 0, 0, 0, 0), (157, .iadd, 1, 85, 0, 0, 0, 0), (158, .goto 7, 3, 86, 88, 0, 0, 1), (161, .aload_n 0, 1, 87, 0, 0, 0, 0), (162, .invokevirtual 52, 3, 88, 0, 0, 42, 3), (165, .istore 4, 2, 89, 0, 0, 0, 0), (167, .iinc 5 1, 3, 90, 0, 0, 0, 0), (170, .goto (-127), 3, 91, 27, 0, 0, 1), (173, .aload_n 0, 1, 92, 0, 0, 0, 0), (174, .getfield 45, 3, 93, 0, 3, 6, 0), (177, .ireturn, 1, 94, 0, 0, 0, 2)]]
def ft_41 : List (List FI) := [[(0, .iconst 0, 1, 1, 0, 0, 0, 0), (1, .istore_n 1, 1, 2, 0, 0, 0, 0), (2, .iload_n 1, 1, 3, 0, 0, 0, 0), (3, .aload_n 0, 1, 4, 0, 0, 0, 0), (4, .getfield 45, 3, 5, 0, 3, 6, 0), (7, .if_icmp .ge 23, 3, 6, 16, 0, 0, 1), (10, .aload_n 0, 1, 7, 0, 0, 0, 0), (11, .getfield 18, 3, 8, 0, 3, 5, 0), (14, .iload_n 1, 1, 9, 0, 0, 0, 0), (15, .iaload, 1, 10, 0, 0, 0, 0), (16, .aload_n 0, 1, 11, 0, 0, 0, 0), (17, .getfield 39, 3, 12, 0, 3, 10, 0), (20, .if_icmp .ne 4, 3, 13, 14, 0, 0, 1), (23, .return_, 1, 14, 0, 0, 0, 2), (24, .iinc 1 1, 3, 15, 0, 0, 0, 0), (27, .goto (-25), 3, 16, 2, 0, 0, 1)],
  [(30, .aload_n 0, 1, 17, 0, 0, 0, 0), (31, .getfield 45, 3, 18, 0, 3, 6, 0), (34, .aload_n 0, 1, 19, 0, 0, 0, 0), (35, .getfield 18, 3, 20, 0, 3, 5, 0), (38, .arraylength, 1, 21, 0, 0, 0, 0), (39, .if_icmp .ne 20, 3, 22, 31, 0, 0, 1), (42, .aload_n 0, 1, 23, 0, 0, 0, 0), (43, .aload_n 0, 1, 24, 0, 0, 0, 0), (44, .getfield 18, 3, 25, 0, 3, 5, 0), (47, .iconst 2, 1, 26, 0, 0, 0, 0), (48, .aload_n 0, 1, 27, 0, 0, 0, 0), (49, .getfield 45, 3, 28, 0, 3, 6, 0), (52, .imul, 1, 29, 0, 0, 0, 0), (53, .invokestatic 83, 3, 30, 0, 1, 20, 3), (56, .putfield 18, 3, 31, 0, 3, 5, 0), (59, .aload_n 0, 1, 32, 0, 0, 0, 0)],
  [(60, .getfield 18, 3, 33, 0, 3, 5, 0), (63, .aload_n 0, 1, 34, 0, 0, 0, 0), (64, .getfield 45, 3, 35, 0, 3, 6, 0), (67, .aload_n 0, 1, 36, 0, 0, 0, 0), (68, .getfield 39, 3, 37, 0, 3, 10, 0), (71, .iastore, 1, 38, 0, 0, 0, 0), (72, .aload_n 0, 1, 39, 0, 0, 0, 0), (73, .dup, 1, 40, 0, 0, 0, 0), (74, .getfield 45, 3, 41, 0, 3, 6, 0), (77, .iconst 1, 1, 42, 0, 0, 0, 0), (78, .iadd, 1, 43, 0, 0, 0, 0), (79, .putfield 45, 3, 44, 0, 3, 6, 0), (82, .return_, 1, 45, 0, 0, 0, 2)]]
def ft_42 : List (List FI) := [[(0, .aload_n 0, 1, 1, 0, 0, 0, 0), (1, .getfield 42, 3, 2, 0, 3, 4, 0), (4, .ifCond .ne 5, 3, 3, 5, 0, 0, 1), (7, .iconst (-1), 1, 4, 0, 0, 0, 0), (8, .ireturn, 1, 5, 0, 0, 0, 2), (9, .aload_n 0, 1, 6, 0, 0, 0, 0), (10, .dup, 1, 7, 0, 0, 0, 0), (11, .getfield 42, 3, 8, 0, 3, 4, 0), (14, .iconst 2, 1, 9, 0, 0, 0, 0), (15, .isub, 1, 10, 0, 0, 0, 0), (16, .putfield 42, 3, 11, 0, 3, 4, 0), (19, .aload_n 0, 1, 12, 0, 0, 0, 0), (20, .getfield 15, 3, 13, 0, 3, 3, 0), (23, .aload_n 0, 1, 14, 0, 0, 0, 0), (24, .getfield 42, 3, 15, 0, 3, 4, 0), (27, .iaload, 1, 16, 0, 0, 0, 0)],
  [(28, .istore_n 1, 1, 17, 0, 0, 0, 0), (29, .aload_n 0, 1, 18, 0, 0, 0, 0), (30, .aload_n 0, 1, 19, 0, 0, 0, 0), (31, .getfield 15, 3, 20, 0, 3, 3, 0), (34, .aload_n 0, 1, 21, 0, 0, 0, 0), (35, .getfield 42, 3, 22, 0, 3, 4, 0), (38, .iconst 1, 1, 23, 0, 0, 0, 0), (39, .iadd, 1, 24, 0, 0, 0, 0), (40, .iaload, 1, 25, 0, 0, 0, 0), (41, .putfield 39, 3, 26, 0, 3, 10, 0), (44, .aload_n 0, 1, 27, 0, 0, 0, 0), (45, .getfield 9, 3, 28, 0, 3, 2, 0), (48, .iload_n 1, 1, 29, 0, 0, 0, 0), (49, .iaload, 1, 30, 0, 0, 0, 0), (50, .istore_n 2, 1, 31, 0, 0, 0, 0), (51, .aload_n 0, 1, 32, 0, 0, 0, 0)],
  [(52, .getfield 9, 3, 33, 0, 3, 2, 0), (55, .iload_n 1, 1, 34, 0, 0, 0, 0), (56, .iconst 1, 1, 35, 0, 0, 0, 0), (57, .iadd, 1, 36, 0, 0, 0, 0), (58, .aload_n 0, 1, 37, 0, 0, 0, 0), (59, .getfield 27, 3, 38, 0, 3, 0, 0), (62, .aload_n 0, 1, 39, 0, 0, 0, 0), (63, .getfield 24, 3, 40, 0, 3, 8, 0), (66, .iload_n 2, 1, 41, 0, 0, 0, 0), (67, .iconst 1, 1, 42, 0, 0, 0, 0), (68, .iadd, 1, 43, 0, 0, 0, 0), (69, .invokevirtual 56, 3, 44, 0, 0, 33, 3), (72, .iastore, 1, 45, 0, 0, 0, 0), (73, .aload_n 0, 1, 46, 0, 0, 0, 0), (74, .getfield 9, 3, 47, 0, 3, 2, 0), (77, .aload_n 0, 1, 48, 0, 0, 0, 0)],
  [(78, .getfield 27, 3, 49, 0, 3, 0, 0), (81, .aload_n 0, 1, 50, 0, 0, 0, 0), (82, .getfield 21, 3, 51, 0, 3, 7, 0), (85, .iload_n 1, 1, 52, 0, 0, 0, 0), (86, .iconst 1, 1, 53, 0, 0, 0, 0), (87, .iadd, 1, 54, 0, 0, 0, 0), (88, .invokevirtual 56, 3, 55, 0, 0, 33, 3), (91, .iload_n 2, 1, 56, 0, 0, 0, 0), (92, .iconst 1, 1, 57, 0, 0, 0, 0), (93, .iadd, 1, 58, 0, 0, 0, 0), (94, .iastore, 1, 59, 0, 0, 0, 0), (95, .iload_n 1, 1, 60, 0, 0, 0, 0), (96, .iconst 1, 1, 61, 0, 0, 0, 0), (97, .iadd, 1, 62, 0, 0, 0, 0), (98, .ireturn, 1, 63, 0, 0, 0, 2)]]
def ft_43 : List (List FI) := [[(0, .iload_n 1, 1, 1, 0, 0, 0, 0), (1, .aload_n 0, 1, 2, 0, 0, 0, 0), (2, .getfield 10, 3, 3, 0, 0, 0, 0), (5, .if_icmp .le 8, 3, 4, 7, 0, 0, 1), (8, .aload_n 0, 1, 5, 0, 0, 0, 0), (9, .iconst 1, 1, 6, 0, 0, 0, 0), (10, .putfield 16, 3, 7, 0, 0, 1, 0), (13, .aload_n 0, 1, 8, 0, 0, 0, 0), (14, .getfield 16, 3, 9, 0, 0, 1, 0), (17, .ifCond .eq 5, 3, 10, 12, 0, 0, 1), (20, .iconst 0, 1, 11, 0, 0, 0, 0), (21, .ireturn, 1, 12, 0, 0, 0, 2), (22, .aload_n 0, 1, 13, 0, 0, 0, 0), (23, .dup, 1, 14, 0, 0, 0, 0), (24, .getfield 10, 3, 15, 0, 0, 0, 0), (27, .iload_n 1, 1, 16, 0, 0, 0, 0)],
  [(28, .isub, 1, 17, 0, 0, 0, 0), (29, .putfield 10, 3, 18, 0, 0, 0, 0), (32, .iconst 1, 1, 19, 0, 0, 0, 0), (33, .ireturn, 1, 20, 0, 0, 0, 2)]]
def ft_44 : List (List FI) := [[(0, .aload_n 0, 1, 1, 0, 0, 0, 0), (1, .getfield 21, 3, 2, 0, 3, 7, 0), (4, .iload_n 1, 1, 3, 0, 0, 0, 0), (5, .iaload, 1, 4, 0, 0, 0, 0), (6, .istore 4, 2, 5, 0, 0, 0, 0), (8, .iload 4, 2, 6, 0, 0, 0, 0), (10, .bipush 12, 2, 7, 0, 0, 0, 0), (12, .if_icmp .ge 75, 3, 8, 50, 0, 0, 1), (15, .iconst 1, 1, 9, 0, 0, 0, 0), (16, .aload_n 0, 1, 10, 0, 0, 0, 0), (17, .iload_n 2, 1, 11, 0, 0, 0, 0), (18, .iload_n 3, 1, 12, 0, 0, 0, 0), (19, .invokevirtual 72, 3, 13, 0, 0, 45, 3), (22, .iadd, 1, 14, 0, 0, 0, 0), (23, .aload_n 0, 1, 15, 0, 0, 0, 0), (24, .getfield 35, 3, 16, 0, 3, 9, 0)],
  [(27, .isub, 1, 17, 0, 0, 0, 0), (28, .istore 5, 2, 18, 0, 0, 0, 0), (30, .aload_n 0, 1, 19, 0, 0, 0, 0), (31, .getfield 39, 3, 20, 0, 3, 10, 0), (34, .iconst 5, 1, 21, 0, 0, 0, 0), (35, .iload 4, 2, 22, 0, 0, 0, 0), (37, .imul, 1, 23, 0, 0, 0, 0), (38, .ishr, 1, 24, 0, 0, 0, 0), (39, .bipush 31, 2, 25, 0, 0, 0, 0), (41, .iand, 1, 26, 0, 0, 0, 0), (42, .istore 6, 2, 27, 0, 0, 0, 0), (44, .aload_n 0, 1, 28, 0, 0, 0, 0), (45, .dup, 1, 29, 0, 0, 0, 0), (46, .getfield 39, 3, 30, 0, 3, 10, 0), (49, .iload 6, 2, 31, 0, 0, 0, 0), (51, .ifCond .ne 13, 3, 32, 38, 0, 0, 1)],
  [(54, .iload 5, 2, 33, 0, 0, 0, 0), (56, .iconst 5, 1, 34, 0, 0, 0, 0), (57, .iload 4, 2, 35, 0, 0, 0, 0), (59, .imul, 1, 36, 0, 0, 0, 0), (60, .ishl, 1, 37, 0, 0, 0, 0), (61, .goto 4, 3, 38, 39, 0, 0, 1), (64, .iconst 0, 1, 39, 0, 0, 0, 0), (65, .ior, 1, 40, 0, 0, 0, 0), (66, .putfield 39, 3, 41, 0, 3, 10, 0), (69, .iload 6, 2, 42, 0, 0, 0, 0), (71, .ifCond .eq 10, 3, 43, 46, 0, 0, 1), (74, .iload 6, 2, 44, 0, 0, 0, 0), (76, .iload 5, 2, 45, 0, 0, 0, 0), (78, .if_icmp .ne 7, 3, 46, 48, 0, 0, 1), (81, .iconst 1, 1, 47, 0, 0, 0, 0), (82, .goto 4, 3, 48, 49, 0, 0, 1)],
  [(85, .iconst 0, 1, 49, 0, 0, 0, 0), (86, .ireturn, 1, 50, 0, 0, 0, 2), (87, .iload 4, 2, 51, 0, 0, 0, 0), (89, .aload_n 0, 1, 52, 0, 0, 0, 0), (90, .getfield 24, 3, 53, 0, 3, 8, 0), (93, .iload_n 2, 1, 54, 0, 0, 0, 0), (94, .iaload, 1, 55, 0, 0, 0, 0), (95, .if_icmp .eq 5, 3, 56, 58, 0, 0, 1), (98, .iconst 0, 1, 57, 0, 0, 0, 0), (99, .ireturn, 1, 58, 0, 0, 0, 2), (100, .aload_n 0, 1, 59, 0, 0, 0, 0), (101, .getfield 27, 3, 60, 0, 3, 0, 0), (104, .iload 4, 2, 61, 0, 0, 0, 0), (106, .invokevirtual 76, 3, 62, 0, 0, 18, 3), (109, .ifCond .le 14, 3, 63, 72, 0, 0, 1), (112, .aload_n 0, 1, 64, 0, 0, 0, 0)],
  [(113, .getfield 9, 3, 65, 0, 3, 2, 0), (116, .iload_n 1, 1, 66, 0, 0, 0, 0), (117, .iconst 1, 1, 67, 0, 0, 0, 0), (118, .iadd, 1, 68, 0, 0, 0, 0), (119, .iload_n 2, 1, 69, 0, 0, 0, 0), (120, .iconst 1, 1, 70, 0, 0, 0, 0), (121, .iadd, 1, 71, 0, 0, 0, 0), (122, .iastore, 1, 72, 0, 0, 0, 0), (123, .aload_n 0, 1, 73, 0, 0, 0, 0), (124, .getfield 27, 3, 74, 0, 3, 0, 0), (127, .iload 4, 2, 75, 0, 0, 0, 0), (129, .invokevirtual 76, 3, 76, 0, 0, 18, 3), (132, .iconst 1, 1, 77, 0, 0, 0, 0), (133, .if_icmp .le 36, 3, 78, 97, 0, 0, 1), (136, .aload_n 0, 1, 79, 0, 0, 0, 0), (137, .getfield 9, 3, 80, 0, 3, 2, 0)],
  [(140, .aload_n 0, 1, 81, 0, 0, 0, 0), (141, .getfield 27, 3, 82, 0, 3, 0, 0), (144, .aload_n 0, 1, 83, 0, 0, 0, 0), (145, .getfield 21, 3, 84, 0, 3, 7, 0), (148, .iload_n 1, 1, 85, 0, 0, 0, 0), (149, .iconst 1, 1, 86, 0, 0, 0, 0), (150, .iadd, 1, 87, 0, 0, 0, 0), (151, .invokevirtual 56, 3, 88, 0, 0, 33, 3), (154, .aload_n 0, 1, 89, 0, 0, 0, 0), (155, .getfield 27, 3, 90, 0, 3, 0, 0), (158, .aload_n 0, 1, 91, 0, 0, 0, 0), (159, .getfield 24, 3, 92, 0, 3, 8, 0), (162, .iload_n 2, 1, 93, 0, 0, 0, 0), (163, .iconst 1, 1, 94, 0, 0, 0, 0), (164, .iadd, 1, 95, 0, 0, 0, 0), (165, .invokevirtual 56, 3, 96, 0, 0, 33, 3)],
  [(168, .iastore, 1, 97, 0, 0, 0, 0), (169, .aload_n 0, 1, 98, 0, 0, 0, 0), (170, .getfield 27, 3, 99, 0, 3, 0, 0), (173, .iload 4, 2, 100, 0, 0, 0, 0), (175, .invokevirtual 80, 3, 101, 0, 0, 38, 3), (178, .ifCond .eq 38, 3, 102, 123, 0, 0, 1), (181, .aload_n 0, 1, 103, 0, 0, 0, 0), (182, .getfield 15, 3, 104, 0, 3, 3, 0), (185, .aload_n 0, 1, 105, 0, 0, 0, 0), (186, .getfield 42, 3, 106, 0, 3, 4, 0), (189, .iload_n 1, 1, 107, 0, 0, 0, 0), (190, .iastore, 1, 108, 0, 0, 0, 0), (191, .aload_n 0, 1, 109, 0, 0, 0, 0), (192, .getfield 15, 3, 110, 0, 3, 3, 0), (195, .aload_n 0, 1, 111, 0, 0, 0, 0), (196, .getfield 42, 3, 112, 0, 3, 4, 0)],
  [(199, .iconst 1, 1, 113, 0, 0, 0, 0), (200, .iadd, 1, 114, 0, 0, 0, 0), (201, .aload_n 0, 1, 115, 0, 0, 0, 0), (202, .getfield 39, 3, 116, 0, 3, 10, 0), (205, .iastore, 1, 117, 0, 0, 0, 0), (206, .aload_n 0, 1, 118, 0, 0, 0, 0), (207, .dup, 1, 119, 0, 0, 0, 0), (208, .getfield 42, 3, 120, 0, 3, 4, 0), (211, .iconst 2, 1, 121, 0, 0, 0, 0), (212, .iadd, 1, 122, 0, 0, 0, 0), (213, .putfield 42, 3, 123, 0, 3, 4, 0), (216, .iconst 1, 1, 124, 0, 0, 0, 0), (217, .ireturn, 1, 125, 0, 0, 0, 2)]]
def ft_45 : List (List FI) := [[(0, .aload_n 0, 1, 1, 0, 0, 0, 0), (1, .getfield 35, 3, 2, 0, 3, 9, 0), (4, .istore_n 3, 1, 3, 0, 0, 0, 0), (5, .iload_n 3, 1, 4, 0, 0, 0, 0), (6, .iload_n 1, 1, 5, 0, 0, 0, 0), (7, .if_icmp .ge 53, 3, 6, 33, 0, 0, 1), (10, .iconst 0, 1, 7, 0, 0, 0, 0), (11, .istore 4, 2, 8, 0, 0, 0, 0), (13, .iload 4, 2, 9, 0, 0, 0, 0), (15, .iload_n 2, 1, 10, 0, 0, 0, 0), (16, .if_icmp .ge 30, 3, 11, 26, 0, 0, 1), (19, .aload_n 0, 1, 12, 0, 0, 0, 0), (20, .getfield 24, 3, 13, 0, 3, 8, 0), (23, .iload_n 3, 1, 14, 0, 0, 0, 0), (24, .iload 4, 2, 15, 0, 0, 0, 0), (26, .iadd, 1, 16, 0, 0, 0, 0)],
  [(27, .iaload, 1, 17, 0, 0, 0, 0), (28, .aload_n 0, 1, 18, 0, 0, 0, 0), (29, .getfield 24, 3, 19, 0, 3, 8, 0), (32, .iload_n 1, 1, 20, 0, 0, 0, 0), (33, .iload 4, 2, 21, 0, 0, 0, 0), (35, .iadd, 1, 22, 0, 0, 0, 0), (36, .iaload, 1, 23, 0, 0, 0, 0), (37, .if_icmp .ne 9, 3, 24, 26, 0, 0, 1), (40, .iinc 4 1, 3, 25, 0, 0, 0, 0), (43, .goto (-30), 3, 26, 8, 0, 0, 1), (46, .iload 4, 2, 27, 0, 0, 0, 0), (48, .iload_n 2, 1, 28, 0, 0, 0, 0), (49, .if_icmp .ne 5, 3, 29, 31, 0, 0, 1), (52, .iload_n 3, 1, 30, 0, 0, 0, 0), (53, .ireturn, 1, 31, 0, 0, 0, 2), (54, .iinc 3 1, 3, 32, 0, 0, 0, 0)],
  [(57, .goto (-52), 3, 33, 3, 0, 0, 1), (60, .iload_n 1, 1, 34, 0, 0, 0, 0), (61, .ireturn, 1, 35, 0, 0, 0, 2)]]
def ft_46 : List (List FI) := [[(0, .iload_n 1, 1, 1, 0, 0, 0, 0), (1, .invokestatic 88, 3, 2, 0, 1, 14, 3), (4, .ifCond .eq 26, 3, 3, 12, 0, 0, 1), (7, .iload_n 2, 1, 4, 0, 0, 0, 0), (8, .invokestatic 88, 3, 5, 0, 1, 14, 3), (11, .ifCond .eq 19, 3, 6, 12, 0, 0, 1), (14, .iload 4, 2, 7, 0, 0, 0, 0), (16, .invokestatic 92, 3, 8, 0, 1, 15, 3), (19, .ifCond .eq 11, 3, 9, 12, 0, 0, 1), (22, .iload 5, 2, 10, 0, 0, 0, 0), (24, .invokestatic 88, 3, 11, 0, 1, 14, 3), (27, .ifCond .ne 5, 3, 12, 14, 0, 0, 1), (30, .iconst 0, 1, 13, 0, 0, 0, 0), (31, .ireturn, 1, 14, 0, 0, 0, 2), (32, .aload_n 0, 1, 15, 0, 0, 0, 0), (33, .getfield 80, 3, 16, 0, 10, 8, 0)],
  [(36, .iload_n 2, 1, 17, 0, 0, 0, 0), (37, .aaload, 1, 18, 0, 0, 0, 0), (38, .astore 6, 2, 19, 0, 0, 0, 0), (40, .aload_n 0, 1, 20, 0, 0, 0, 0), (41, .getfield 33, 3, 21, 0, 10, 2, 0), (44, .aload_n 0, 1, 22, 0, 0, 0, 0), (45, .getfield 80, 3, 23, 0, 10, 8, 0), (48, .iload_n 1, 1, 24, 0, 0, 0, 0), (49, .aaload, 1, 25, 0, 0, 0, 0), (50, .aload 6, 2, 26, 0, 0, 0, 0), (52, .iconst 0, 1, 27, 0, 0, 0, 0), (53, .invokevirtual 123, 3, 28, 0, 0, 40, 3), (56, .istore 7, 2, 29, 0, 0, 0, 0), (58, .iload_n 3, 1, 30, 0, 0, 0, 0), (59, .ifCond .lt 9, 3, 31, 34, 0, 0, 1), (62, .iload_n 3, 1, 32, 0, 0, 0, 0)],
  [(63, .iload 7, 2, 33, 0, 0, 0, 0), (65, .if_icmp .lt 5, 3, 34, 36, 0, 0, 1), (68, .iconst 0, 1, 35, 0, 0, 0, 0), (69, .ireturn, 1, 36, 0, 0, 0, 2), (70, .aload_n 0, 1, 37, 0, 0, 0, 0), (71, .getfield 33, 3, 38, 0, 10, 2, 0), (74, .iload_n 3, 1, 39, 0, 0, 0, 0), (75, .iload 4, 2, 40, 0, 0, 0, 0), (77, .invokevirtual 127, 3, 41, 0, 0, 47, 3), (80, .istore 8, 2, 42, 0, 0, 0, 0), (82, .iload 8, 2, 43, 0, 0, 0, 0), (84, .iconst (-1), 1, 44, 0, 0, 0, 0), (85, .if_icmp .ne 5, 3, 45, 47, 0, 0, 1), (88, .iconst 0, 1, 46, 0, 0, 0, 0), (89, .ireturn, 1, 47, 0, 0, 0, 2), (90, .aload_n 0, 1, 48, 0, 0, 0, 0)],
  [(91, .getfield 80, 3, 49, 0, 10, 8, 0), (94, .iload 5, 2, 50, 0, 0, 0, 0), (96, .aload 6, 2, 51, 0, 0, 0, 0), (98, .iload 8, 2, 52, 0, 0, 0, 0), (100, .aload_n 0, 1, 53, 0, 0, 0, 0), (101, .getfield 13, 3, 54, 0, 10, 0, 0), (104, .aload 6, 2, 55, 0, 0, 0, 0), (106, .iload 8, 2, 56, 0, 0, 0, 0), (108, .invokevirtual 131, 3, 57, 0, 0, 33, 3), (111, .invokestatic 135, 3, 58, 0, 1, 48, 3), (114, .aastore, 1, 59, 0, 0, 0, 0), (115, .iconst 1, 1, 60, 0, 0, 0, 0), (116, .ireturn, 1, 61, 0, 0, 0, 2)]]
def ft_47 : List (List FI) := [[(0, .aload_n 0, 1, 1, 0, 0, 0, 0), (1, .getfield 18, 3, 2, 0, 3, 5, 0), (4, .iload_n 1, 1, 3, 0, 0, 0, 0), (5, .iaload, 1, 4, 0, 0, 0, 0), (6, .iconst 5, 1, 5, 0, 0, 0, 0), (7, .iload_n 2, 1, 6, 0, 0, 0, 0), (8, .imul, 1, 7, 0, 0, 0, 0), (9, .ishr, 1, 8, 0, 0, 0, 0), (10, .bipush 31, 2, 9, 0, 0, 0, 0), (12, .iand, 1, 10, 0, 0, 0, 0), (13, .istore_n 3, 1, 11, 0, 0, 0, 0), (14, .iload_n 3, 1, 12, 0, 0, 0, 0), (15, .ifCond .ne 7, 3, 13, 15, 0, 0, 1), (18, .iconst (-1), 1, 14, 0, 0, 0, 0), (19, .goto 11, 3, 15, 21, 0, 0, 1), (22, .aload_n 0, 1, 16, 0, 0, 0, 0)],
  [(23, .getfield 35, 3, 17, 0, 3, 9, 0), (26, .iload_n 3, 1, 18, 0, 0, 0, 0), (27, .iadd, 1, 19, 0, 0, 0, 0), (28, .iconst 1, 1, 20, 0, 0, 0, 0), (29, .isub, 1, 21, 0, 0, 0, 0), (30, .ireturn, 1, 22, 0, 0, 0, 2)]]
def ft_48 : List (List FI) := [[(0, .iload_n 1, 1, 1, 0, 0, 0, 0), (1, .ifCond .ne 9, 3, 2, 6, 0, 0, 1), (4, .iload_n 2, 1, 3, 0, 0, 0, 0), (5, .aload_n 0, 1, 4, 0, 0, 0, 0), (6, .arraylength, 1, 5, 0, 0, 0, 0), (7, .if_icmp .eq 10, 3, 6, 11, 0, 0, 1), (10, .aload_n 0, 1, 7, 0, 0, 0, 0), (11, .iload_n 1, 1, 8, 0, 0, 0, 0), (12, .iload_n 2, 1, 9, 0, 0, 0, 0), (13, .invokestatic 351, 3, 10, 0, 1, 49, 3), (16, .areturn, 1, 11, 0, 0, 0, 2), (17, .aload_n 0, 1, 12, 0, 0, 0, 0), (18, .invokevirtual 316, 3, 13, 0, 8, 0, 3), (21, .checkcast 317, 3, 14, 0, 2, 0, 3), (24, .areturn, 1, 15, 0, 0, 0, 2)]]
def ft_49 : List (List FI) := [[(0, .iload_n 1, 1, 1, 0, 0, 0, 0), (1, .iload_n 2, 1, 2, 0, 0, 0, 0), (2, .invokestatic 343, 3, 3, 0, 1, 50, 3), (5, .iload_n 2, 1, 4, 0, 0, 0, 0), (6, .iload_n 1, 1, 5, 0, 0, 0, 0), (7, .isub, 1, 6, 0, 0, 0, 0), (8, .istore_n 3, 1, 7, 0, 0, 0, 0), (9, .iload_n 3, 1, 8, 0, 0, 0, 0), (10, .newarray .int, 2, 9, 0, 0, 0, 0), (12, .astore 4, 2, 10, 0, 0, 0, 0), (14, .aload_n 0, 1, 11, 0, 0, 0, 0), (15, .iload_n 1, 1, 12, 0, 0, 0, 0), (16, .aload 4, 2, 13, 0, 0, 0, 0), (18, .iconst 0, 1, 14, 0, 0, 0, 0), (19, .aload_n 0, 1, 15, 0, 0, 0, 0), (20, .arraylength, 1, 16, 0, 0, 0, 0)],
  [(21, .iload_n 1, 1, 17, 0, 0, 0, 0), (22, .isub, 1, 18, 0, 0, 0, 0), (23, .iload_n 3, 1, 19, 0, 0, 0, 0), (24, .invokestatic 304, 3, 20, 0, 7, 0, 3), (27, .invokestatic 150, 3, 21, 0, 4, 0, 3), (30, .aload 4, 2, 22, 0, 0, 0, 0), (32, .areturn, 1, 23, 0, 0, 0, 2)]]
def ft_50 : List (List FI) := [[(0, .iload_n 1, 1, 1, 0, 0, 0, 0), (1, .iload_n 0, 1, 2, 0, 0, 0, 0), (2, .if_icmp .ge 35, 3, 3, 17, 0, 0, 1), (5, .athrow, 3, 4, 0, 0, 0, 4), (8, .dup, 1, 5, 0, 0, 0, 0), (9, .athrow, 3, 6, 0, 0, 0, 4), (12, .dup, 1, 7, 0, 0, 0, 0), (13, .athrow, 3, 8, 0, 0, 0, 4), (16, .iload_n 0, 1, 9, 0, 0, 0, 0), (17, .athrow, 3, 10, 0, 0, 0, 4), (20, .ldc_w 337, 3, 11, 0, 0, 0, 0), (23, .athrow, 3, 12, 0, 0, 0, 4), (26, .iload_n 1, 1, 13, 0, 0, 0, 0), (27, .athrow, 3, 14, 0, 0, 0, 4), (30, .athrow, 3, 15, 0, 0, 0, 4), (33, .athrow, 3, 16, 0, 0, 0, 4)],
  [(36, .athrow, 1, 17, 0, 0, 0, 4), (37, .return_, 1, 18, 0, 0, 0, 2)]]
def ft_51 : List (List FI) := [[(0, .iload_n 1, 1, 1, 0, 0, 0, 0), (1, .invokestatic 88, 3, 2, 0, 1, 14, 3), (4, .ifCond .eq 10, 3, 3, 6, 0, 0, 1), (7, .iload_n 2, 1, 4, 0, 0, 0, 0), (8, .invokestatic 88, 3, 5, 0, 1, 14, 3), (11, .ifCond .ne 5, 3, 6, 8, 0, 0, 1), (14, .iconst (-1), 1, 7, 0, 0, 0, 0), (15, .ireturn, 1, 8, 0, 0, 0, 2), (16, .aload_n 0, 1, 9, 0, 0, 0, 0), (17, .getfield 40, 3, 10, 0, 10, 3, 0), (20, .aload_n 0, 1, 11, 0, 0, 0, 0), (21, .getfield 80, 3, 12, 0, 10, 8, 0), (24, .iload_n 1, 1, 13, 0, 0, 0, 0), (25, .aaload, 1, 14, 0, 0, 0, 0), (26, .iconst 0, 1, 15, 0, 0, 0, 0), (27, .aload_n 0, 1, 16, 0, 0, 0, 0)],
  [(28, .getfield 80, 3, 17, 0, 10, 8, 0), (31, .iload_n 2, 1, 18, 0, 0, 0, 0), (32, .aaload, 1, 19, 0, 0, 0, 0), (33, .iconst 0, 1, 20, 0, 0, 0, 0), (34, .invokevirtual 141, 3, 21, 0, 0, 52, 3), (37, .ireturn, 1, 22, 0, 0, 0, 2)]]
def ft_52 : List (List FI) := [[(0, .aload_n 0, 1, 1, 0, 0, 0, 0), (1, .aload_n 1, 1, 2, 0, 0, 0, 0), (2, .iload_n 2, 1, 3, 0, 0, 0, 0), (3, .aload_n 3, 1, 4, 0, 0, 0, 0), (4, .iload 4, 2, 5, 0, 0, 0, 0), (6, .invokevirtual 44, 3, 6, 0, 0, 53, 3), (9, .iconst 0, 1, 7, 0, 0, 0, 0), (10, .istore 5, 2, 8, 0, 0, 0, 0), (12, .iload 5, 2, 9, 0, 0, 0, 0), (14, .ldc 48, 2, 10, 0, 1000000, 0, 0), (16, .if_icmp .ge 107, 3, 11, 62, 0, 0, 1), (19, .aload_n 0, 1, 12, 0, 0, 0, 0), (20, .getfield 49, 3, 13, 0, 5, 8, 0), (23, .iconst (-1), 1, 14, 0, 0, 0, 0), (24, .if_icmp .ne 7, 3, 15, 17, 0, 0, 1), (27, .iconst 3, 1, 16, 0, 0, 0, 0)],
  [(28, .goto 7, 3, 17, 19, 0, 0, 1), (31, .aload_n 0, 1, 18, 0, 0, 0, 0), (32, .invokevirtual 53, 3, 19, 0, 0, 56, 3), (35, .istore 6, 2, 20, 0, 0, 0, 0), (37, .iload 6, 2, 21, 0, 0, 0, 0), (39, .iconst 4, 1, 22, 0, 0, 0, 0), (40, .if_icmp .ne 9, 3, 23, 26, 0, 0, 1), (43, .aload_n 0, 1, 24, 0, 0, 0, 0), (44, .invokevirtual 57, 3, 25, 0, 0, 60, 3), (47, .istore 6, 2, 26, 0, 0, 0, 0), (49, .iload 6, 2, 27, 0, 0, 0, 0), (51, .iconst 2, 1, 28, 0, 0, 0, 0), (52, .if_icmp .ne 6, 3, 29, 31, 0, 0, 1), (55, .bipush 33, 2, 30, 0, 0, 0, 0), (57, .ireturn, 1, 31, 0, 0, 0, 2), (58, .iload 6, 2, 32, 0, 0, 0, 0)],
  [(60, .ifCond .eq 57, 3, 33, 60, 0, 0, 1), (63, .iload 6, 2, 34, 0, 0, 0, 0), (65, .iconst 3, 1, 35, 0, 0, 0, 0), (66, .if_icmp .ne 7, 3, 36, 38, 0, 0, 1), (69, .aload_n 0, 1, 37, 0, 0, 0, 0), (70, .invokevirtual 60, 3, 38, 0, 0, 61, 3), (73, .aload_n 0, 1, 39, 0, 0, 0, 0), (74, .dup, 1, 40, 0, 0, 0, 0), (75, .getfield 63, 3, 41, 0, 5, 11, 0), (78, .iconst 1, 1, 42, 0, 0, 0, 0), (79, .iadd, 1, 43, 0, 0, 0, 0), (80, .putfield 63, 3, 44, 0, 5, 11, 0), (83, .aload_n 0, 1, 45, 0, 0, 0, 0), (84, .getfield 66, 3, 46, 0, 5, 12, 0), (87, .bipush 32, 2, 47, 0, 0, 0, 0), (89, .if_icmp .gt 13, 3, 48, 52, 0, 0, 1)],
  [(92, .aload_n 0, 1, 49, 0, 0, 0, 0), (93, .getfield 63, 3, 50, 0, 5, 11, 0), (96, .sipush 1000, 3, 51, 0, 0, 0, 0), (99, .if_icmp .le 6, 3, 52, 54, 0, 0, 1), (102, .bipush 33, 2, 53, 0, 0, 0, 0), (104, .ireturn, 1, 54, 0, 0, 0, 2), (105, .aload_n 0, 1, 55, 0, 0, 0, 0), (106, .invokevirtual 69, 3, 56, 0, 0, 63, 3), (109, .ifCond .ne 8, 3, 57, 60, 0, 0, 1), (112, .aload_n 0, 1, 58, 0, 0, 0, 0), (113, .getfield 66, 3, 59, 0, 5, 12, 0), (116, .ireturn, 1, 60, 0, 0, 0, 2), (117, .iinc 5 1, 3, 61, 0, 0, 0, 0), (120, .goto (-108), 3, 62, 8, 0, 0, 1), (123, .bipush 33, 2, 63, 0, 0, 0, 0), (125, .ireturn, 1, 64, 0, 0, 0, 2)]]
def ft_53 : List (List FI) := [[(0, .aload_n 0, 1, 1, 0, 0, 0, 0), (1, .getfield 14, 3, 2, 0, 5, 2, 0), (4, .iconst 0, 1, 3, 0, 0, 0, 0), (5, .putfield 89, 3, 4, 0, 4, 1, 0), (8, .aload_n 0, 1, 5, 0, 0, 0, 0), (9, .getfield 20, 3, 6, 0, 5, 3, 0), (12, .iconst 0, 1, 7, 0, 0, 0, 0), (13, .putfield 89, 3, 8, 0, 4, 1, 0), (16, .aload_n 0, 1, 9, 0, 0, 0, 0), (17, .getfield 23, 3, 10, 0, 5, 4, 0), (20, .iconst 0, 1, 11, 0, 0, 0, 0), (21, .putfield 89, 3, 12, 0, 4, 1, 0), (24, .aload_n 0, 1, 13, 0, 0, 0, 0), (25, .getfield 26, 3, 14, 0, 5, 5, 0), (28, .iconst 0, 1, 15, 0, 0, 0, 0), (29, .putfield 89, 3, 16, 0, 4, 1, 0)],
  [(32, .aload_n 0, 1, 17, 0, 0, 0, 0), (33, .getfield 29, 3, 18, 0, 5, 6, 0), (36, .iconst 0, 1, 19, 0, 0, 0, 0), (37, .putfield 89, 3, 20, 0, 4, 1, 0), (40, .aload_n 0, 1, 21, 0, 0, 0, 0), (41, .iconst 0, 1, 22, 0, 0, 0, 0), (42, .putfield 63, 3, 23, 0, 5, 11, 0), (45, .aload_n 0, 1, 24, 0, 0, 0, 0), (46, .iconst 0, 1, 25, 0, 0, 0, 0), (47, .putfield 66, 3, 26, 0, 5, 12, 0), (50, .aload_n 0, 1, 27, 0, 0, 0, 0), (51, .iconst (-1), 1, 28, 0, 0, 0, 0), (52, .putfield 49, 3, 29, 0, 5, 8, 0), (55, .aload_n 0, 1, 30, 0, 0, 0, 0), (56, .getfield 32, 3, 31, 0, 5, 7, 0), (59, .iconst (-1), 1, 32, 0, 0, 0, 0)],
  [(60, .invokestatic 92, 3, 33, 0, 1, 54, 3), (63, .iconst 0, 1, 34, 0, 0, 0, 0), (64, .istore 5, 2, 35, 0, 0, 0, 0), (66, .iload 5, 2, 36, 0, 0, 0, 0), (68, .aload_n 1, 1, 37, 0, 0, 0, 0), (69, .arraylength, 1, 38, 0, 0, 0, 0), (70, .if_icmp .ge 38, 3, 39, 58, 0, 0, 1), (73, .aload_n 0, 1, 40, 0, 0, 0, 0), (74, .getfield 14, 3, 41, 0, 5, 2, 0), (77, .aload_n 1, 1, 42, 0, 0, 0, 0), (78, .iload 5, 2, 43, 0, 0, 0, 0), (80, .iaload, 1, 44, 0, 0, 0, 0), (81, .bipush 12, 2, 45, 0, 0, 0, 0), (83, .if_icmp .ge 12, 3, 46, 52, 0, 0, 1), (86, .aload_n 1, 1, 47, 0, 0, 0, 0), (87, .iload 5, 2, 48, 0, 0, 0, 0)],
  [(89, .iaload, 1, 49, 0, 0, 0, 0), (90, .iload_n 2, 1, 50, 0, 0, 0, 0), (91, .iadd, 1, 51, 0, 0, 0, 0), (92, .goto 7, 3, 52, 55, 0, 0, 1), (95, .aload_n 1, 1, 53, 0, 0, 0, 0), (96, .iload 5, 2, 54, 0, 0, 0, 0), (98, .iaload, 1, 55, 0, 0, 0, 0), (99, .invokevirtual 76, 3, 56, 0, 0, 19, 3), (102, .iinc 5 1, 3, 57, 0, 0, 0, 0), (105, .goto (-39), 3, 58, 35, 0, 0, 1), (108, .aload_n 0, 1, 59, 0, 0, 0, 0), (109, .getfield 14, 3, 60, 0, 5, 2, 0), (112, .aload_n 3, 1, 61, 0, 0, 0, 0), (113, .iload 4, 2, 62, 0, 0, 0, 0), (115, .aload_n 0, 1, 63, 0, 0, 0, 0), (116, .getfield 36, 3, 64, 0, 5, 0, 0)],
  [(119, .aload_n 3, 1, 65, 0, 0, 0, 0), (120, .iload 4, 2, 66, 0, 0, 0, 0), (122, .invokevirtual 79, 3, 67, 0, 0, 33, 3), (125, .invokevirtual 85, 3, 68, 0, 0, 21, 3), (128, .aload_n 0, 1, 69, 0, 0, 0, 0), (129, .iconst 0, 1, 70, 0, 0, 0, 0), (130, .aload_n 1, 1, 71, 0, 0, 0, 0), (131, .arraylength, 1, 72, 0, 0, 0, 0), (132, .invokevirtual 98, 3, 73, 0, 0, 55, 3), (135, .return_, 1, 74, 0, 0, 0, 2)]]
def ft_54 : List (List FI) := [[(0, .iconst 0, 1, 1, 0, 0, 0, 0), (1, .istore_n 2, 1, 2, 0, 0, 0, 0), (2, .aload_n 0, 1, 3, 0, 0, 0, 0), (3, .arraylength, 1, 4, 0, 0, 0, 0), (4, .istore_n 3, 1, 5, 0, 0, 0, 0), (5, .iload_n 2, 1, 6, 0, 0, 0, 0), (6, .iload_n 3, 1, 7, 0, 0, 0, 0), (7, .if_icmp .ge 13, 3, 8, 14, 0, 0, 1), (10, .aload_n 0, 1, 9, 0, 0, 0, 0), (11, .iload_n 2, 1, 10, 0, 0, 0, 0), (12, .iload_n 1, 1, 11, 0, 0, 0, 0), (13, .iastore, 1, 12, 0, 0, 0, 0), (14, .iinc 2 1, 3, 13, 0, 0, 0, 0), (17, .goto (-12), 3, 14, 5, 0, 0, 1), (20, .return_, 1, 15, 0, 0, 0, 2)]]
def ft_55 : List (List FI) := [[(0, .aload_n 0, 1, 1, 0, 0, 0, 0), (1, .getfield 20, 3, 2, 0, 5, 3, 0), (4, .iload_n 1, 1, 3, 0, 0, 0, 0), (5, .invokevirtual 76, 3, 4, 0, 0, 19, 3), (8, .aload_n 0, 1, 5, 0, 0, 0, 0), (9, .getfield 20, 3, 6, 0, 5, 3, 0), (12, .iload_n 2, 1, 7, 0, 0, 0, 0), (13, .invokevirtual 76, 3, 8, 0, 0, 19, 3), (16, .aload_n 0, 1, 9, 0, 0, 0, 0), (17, .getfield 20, 3, 10, 0, 5, 3, 0), (20, .aload_n 0, 1, 11, 0, 0, 0, 0), (21, .getfield 49, 3, 12, 0, 5, 8, 0), (24, .invokevirtual 76, 3, 13, 0, 0, 19, 3), (27, .aload_n 0, 1, 14, 0, 0, 0, 0), (28, .aload_n 0, 1, 15, 0, 0, 0, 0), (29, .getfield 20, 3, 16, 0, 5, 3, 0)],
  [(32, .getfield 89, 3, 17, 0, 4, 1, 0), (35, .iconst 3, 1, 18, 0, 0, 0, 0), (36, .isub, 1, 19, 0, 0, 0, 0), (37, .putfield 49, 3, 20, 0, 5, 8, 0), (40, .return_, 1, 21, 0, 0, 0, 2)]]
def ft_56 : List (List FI) := [[(0, .aload_n 0, 1, 1, 0, 0, 0, 0), (1, .aload_n 0, 1, 2, 0, 0, 0, 0), (2, .getfield 20, 3, 3, 0, 5, 3, 0), (5, .getfield 73, 3, 4, 0, 4, 0, 0), (8, .aload_n 0, 1, 5, 0, 0, 0, 0), (9, .getfield 49, 3, 6, 0, 5, 8, 0), (12, .iaload, 1, 7, 0, 0, 0, 0), (13, .invokevirtual 102, 3, 8, 0, 0, 57, 3), (16, .istore_n 1, 1, 9, 0, 0, 0, 0), (17, .aload_n 0, 1, 10, 0, 0, 0, 0), (18, .aload_n 0, 1, 11, 0, 0, 0, 0), (19, .getfield 20, 3, 12, 0, 5, 3, 0), (22, .getfield 73, 3, 13, 0, 4, 0, 0), (25, .aload_n 0, 1, 14, 0, 0, 0, 0), (26, .getfield 49, 3, 15, 0, 5, 8, 0), (29, .iconst 1, 1, 16, 0, 0, 0, 0)],
  [(30, .iadd, 1, 17, 0, 0, 0, 0), (31, .iaload, 1, 18, 0, 0, 0, 0), (32, .invokevirtual 102, 3, 19, 0, 0, 57, 3), (35, .istore_n 2, 1, 20, 0, 0, 0, 0), (36, .aload_n 0, 1, 21, 0, 0, 0, 0), (37, .aload_n 0, 1, 22, 0, 0, 0, 0), (38, .getfield 20, 3, 23, 0, 5, 3, 0), (41, .getfield 73, 3, 24, 0, 4, 0, 0), (44, .aload_n 0, 1, 25, 0, 0, 0, 0), (45, .getfield 49, 3, 26, 0, 5, 8, 0), (48, .iconst 2, 1, 27, 0, 0, 0, 0), (49, .iadd, 1, 28, 0, 0, 0, 0), (50, .iaload, 1, 29, 0, 0, 0, 0), (51, .putfield 49, 3, 30, 0, 5, 8, 0), (54, .aload_n 0, 1, 31, 0, 0, 0, 0), (55, .getfield 36, 3, 32, 0, 5, 0, 0)],
  [(58, .aload_n 0, 1, 33, 0, 0, 0, 0), (59, .getfield 14, 3, 34, 0, 5, 2, 0), (62, .getfield 73, 3, 35, 0, 4, 0, 0), (65, .iload_n 1, 1, 36, 0, 0, 0, 0), (66, .invokevirtual 79, 3, 37, 0, 0, 33, 3), (69, .iload_n 1, 1, 38, 0, 0, 0, 0), (70, .isub, 1, 39, 0, 0, 0, 0), (71, .istore_n 3, 1, 40, 0, 0, 0, 0), (72, .aload_n 0, 1, 41, 0, 0, 0, 0), (73, .getfield 36, 3, 42, 0, 5, 0, 0), (76, .aload_n 0, 1, 43, 0, 0, 0, 0), (77, .getfield 14, 3, 44, 0, 5, 2, 0), (80, .getfield 73, 3, 45, 0, 4, 0, 0), (83, .iload_n 2, 1, 46, 0, 0, 0, 0), (84, .invokevirtual 79, 3, 47, 0, 0, 33, 3), (87, .iload_n 2, 1, 48, 0, 0, 0, 0)],
  [(88, .isub, 1, 49, 0, 0, 0, 0), (89, .istore 4, 2, 50, 0, 0, 0, 0), (91, .aload_n 0, 1, 51, 0, 0, 0, 0), (92, .getfield 40, 3, 52, 0, 5, 1, 0), (95, .iload_n 3, 1, 53, 0, 0, 0, 0), (96, .iload 4, 2, 54, 0, 0, 0, 0), (98, .iadd, 1, 55, 0, 0, 0, 0), (99, .invokevirtual 106, 3, 56, 0, 0, 43, 3), (102, .ifCond .ne 5, 3, 57, 59, 0, 0, 1), (105, .iconst 2, 1, 58, 0, 0, 0, 0), (106, .ireturn, 1, 59, 0, 0, 0, 2), (107, .aload_n 0, 1, 60, 0, 0, 0, 0), (108, .getfield 14, 3, 61, 0, 5, 2, 0), (111, .getfield 73, 3, 62, 0, 4, 0, 0), (114, .iload_n 1, 1, 63, 0, 0, 0, 0), (115, .aload_n 0, 1, 64, 0, 0, 0, 0)],
  [(116, .getfield 14, 3, 65, 0, 5, 2, 0), (119, .getfield 73, 3, 66, 0, 4, 0, 0), (122, .iload_n 2, 1, 67, 0, 0, 0, 0), (123, .iload_n 3, 1, 68, 0, 0, 0, 0), (124, .invokestatic 112, 3, 69, 0, 5, 29, 3), (127, .ifCond .eq 5, 3, 70, 72, 0, 0, 1), (130, .iconst 0, 1, 71, 0, 0, 0, 0), (131, .ireturn, 1, 72, 0, 0, 0, 2), (132, .aload_n 0, 1, 73, 0, 0, 0, 0), (133, .getfield 14, 3, 74, 0, 5, 2, 0), (136, .getfield 73, 3, 75, 0, 4, 0, 0), (139, .iload_n 1, 1, 76, 0, 0, 0, 0), (140, .iaload, 1, 77, 0, 0, 0, 0), (141, .istore 5, 2, 78, 0, 0, 0, 0), (143, .aload_n 0, 1, 79, 0, 0, 0, 0), (144, .getfield 14, 3, 80, 0, 5, 2, 0)],
  [(147, .getfield 73, 3, 81, 0, 4, 0, 0), (150, .iload_n 2, 1, 82, 0, 0, 0, 0), (151, .iaload, 1, 83, 0, 0, 0, 0), (152, .istore 6, 2, 84, 0, 0, 0, 0), (154, .iload 5, 2, 85, 0, 0, 0, 0), (156, .bipush 12, 2, 86, 0, 0, 0, 0), (158, .if_icmp .lt 10, 3, 87, 90, 0, 0, 1), (161, .iload 6, 2, 88, 0, 0, 0, 0), (163, .bipush 12, 2, 89, 0, 0, 0, 0), (165, .if_icmp .ge 63, 3, 90, 119, 0, 0, 1), (168, .iload 6, 2, 91, 0, 0, 0, 0), (170, .bipush 12, 2, 92, 0, 0, 0, 0), (172, .if_icmp .ge 17, 3, 93, 99, 0, 0, 1), (175, .iload 5, 2, 94, 0, 0, 0, 0), (177, .bipush 12, 2, 95, 0, 0, 0, 0), (179, .if_icmp .ge 14, 3, 96, 101, 0, 0, 1)],
  [(182, .iload 5, 2, 97, 0, 0, 0, 0), (184, .iload 6, 2, 98, 0, 0, 0, 0), (186, .if_icmp .le 7, 3, 99, 101, 0, 0, 1), (189, .iconst 1, 1, 100, 0, 0, 0, 0), (190, .goto 4, 3, 101, 102, 0, 0, 1), (193, .iconst 0, 1, 102, 0, 0, 0, 0), (194, .istore 7, 2, 103, 0, 0, 0, 0), (196, .aload_n 0, 1, 104, 0, 0, 0, 0), (197, .iload 7, 2, 105, 0, 0, 0, 0), (199, .ifCond .eq 8, 3, 106, 108, 0, 0, 1), (202, .iload 5, 2, 107, 0, 0, 0, 0), (204, .goto 5, 3, 108, 109, 0, 0, 1), (207, .iload 6, 2, 109, 0, 0, 0, 0), (209, .putfield 116, 3, 110, 0, 5, 9, 0), (212, .aload_n 0, 1, 111, 0, 0, 0, 0), (213, .iload 7, 2, 112, 0, 0, 0, 0)],
  [(215, .ifCond .eq 7, 3, 113, 115, 0, 0, 1), (218, .iload_n 2, 1, 114, 0, 0, 0, 0), (219, .goto 4, 3, 115, 116, 0, 0, 1), (222, .iload_n 1, 1, 116, 0, 0, 0, 0), (223, .putfield 119, 3, 117, 0, 5, 10, 0), (226, .iconst 4, 1, 118, 0, 0, 0, 0), (227, .ireturn, 1, 119, 0, 0, 0, 2), (228, .iload 5, 2, 120, 0, 0, 0, 0), (230, .iload 6, 2, 121, 0, 0, 0, 0), (232, .if_icmp .eq 5, 3, 122, 124, 0, 0, 1), (235, .iconst 1, 1, 123, 0, 0, 0, 0), (236, .ireturn, 1, 124, 0, 0, 0, 2), (237, .aload_n 0, 1, 125, 0, 0, 0, 0), (238, .getfield 36, 3, 126, 0, 5, 0, 0), (241, .iload 5, 2, 127, 0, 0, 0, 0), (243, .invokevirtual 122, 3, 128, 0, 0, 38, 3)],
  [(246, .ifCond .eq 9, 3, 129, 133, 0, 0, 1), (249, .aload_n 0, 1, 130, 0, 0, 0, 0), (250, .iload_n 1, 1, 131, 0, 0, 0, 0), (251, .iload_n 2, 1, 132, 0, 0, 0, 0), (252, .invokevirtual 125, 3, 133, 0, 0, 59, 3), (255, .aload_n 0, 1, 134, 0, 0, 0, 0), (256, .getfield 36, 3, 135, 0, 5, 0, 0), (259, .iload 5, 2, 136, 0, 0, 0, 0), (261, .invokevirtual 128, 3, 137, 0, 0, 18, 3), (264, .iconst 1, 1, 138, 0, 0, 0, 0), (265, .if_icmp .le 41, 3, 139, 159, 0, 0, 1), (268, .aload_n 0, 1, 140, 0, 0, 0, 0), (269, .aload_n 0, 1, 141, 0, 0, 0, 0), (270, .getfield 36, 3, 142, 0, 5, 0, 0), (273, .aload_n 0, 1, 143, 0, 0, 0, 0), (274, .getfield 14, 3, 144, 0, 5, 2, 0)],
  [(277, .getfield 73, 3, 145, 0, 4, 0, 0), (280, .iload_n 1, 1, 146, 0, 0, 0, 0), (281, .iconst 1, 1, 147, 0, 0, 0, 0), (282, .iadd, 1, 148, 0, 0, 0, 0), (283, .invokevirtual 79, 3, 149, 0, 0, 33, 3), (286, .aload_n 0, 1, 150, 0, 0, 0, 0), (287, .getfield 36, 3, 151, 0, 5, 0, 0), (290, .aload_n 0, 1, 152, 0, 0, 0, 0), (291, .getfield 14, 3, 153, 0, 5, 2, 0), (294, .getfield 73, 3, 154, 0, 4, 0, 0), (297, .iload_n 2, 1, 155, 0, 0, 0, 0), (298, .iconst 1, 1, 156, 0, 0, 0, 0), (299, .iadd, 1, 157, 0, 0, 0, 0), (300, .invokevirtual 79, 3, 158, 0, 0, 33, 3), (303, .invokevirtual 98, 3, 159, 0, 0, 55, 3), (306, .aload_n 0, 1, 160, 0, 0, 0, 0)],
  [(307, .getfield 36, 3, 161, 0, 5, 0, 0), (310, .iload 5, 2, 162, 0, 0, 0, 0), (312, .invokevirtual 128, 3, 163, 0, 0, 18, 3), (315, .ifCond .le 13, 3, 164, 172, 0, 0, 1), (318, .aload_n 0, 1, 165, 0, 0, 0, 0), (319, .iload_n 1, 1, 166, 0, 0, 0, 0), (320, .iconst 1, 1, 167, 0, 0, 0, 0), (321, .iadd, 1, 168, 0, 0, 0, 0), (322, .iload_n 2, 1, 169, 0, 0, 0, 0), (323, .iconst 1, 1, 170, 0, 0, 0, 0), (324, .iadd, 1, 171, 0, 0, 0, 0), (325, .invokevirtual 98, 3, 172, 0, 0, 55, 3), (328, .iconst 0, 1, 173, 0, 0, 0, 0), (329, .ireturn, 1, 174, 0, 0, 0, 2)]]
def ft_57 : List (List FI) := [[(0, .aload_n 0, 1, 1, 0, 0, 0, 0), (1, .getfield 36, 3, 2, 0, 5, 0, 0), (4, .aload_n 0, 1, 3, 0, 0, 0, 0), (5, .getfield 14, 3, 4, 0, 5, 2, 0), (8, .getfield 73, 3, 5, 0, 4, 0, 0), (11, .iload_n 1, 1, 6, 0, 0, 0, 0), (12, .invokevirtual 79, 3, 7, 0, 0, 33, 3), (15, .istore_n 2, 1, 8, 0, 0, 0, 0), (16, .iload_n 1, 1, 9, 0, 0, 0, 0), (17, .istore_n 3, 1, 10, 0, 0, 0, 0), (18, .iload_n 3, 1, 11, 0, 0, 0, 0), (19, .iload_n 2, 1, 12, 0, 0, 0, 0), (20, .if_icmp .ge 25, 3, 13, 23, 0, 0, 1), (23, .aload_n 0, 1, 14, 0, 0, 0, 0), (24, .aload_n 0, 1, 15, 0, 0, 0, 0), (25, .getfield 14, 3, 16, 0, 5, 2, 0)],
  [(28, .getfield 73, 3, 17, 0, 4, 0, 0), (31, .iload_n 3, 1, 18, 0, 0, 0, 0), (32, .iaload, 1, 19, 0, 0, 0, 0), (33, .invokevirtual 131, 3, 20, 0, 0, 58, 3), (36, .ifCond .ne 9, 3, 21, 23, 0, 0, 1), (39, .iinc 3 1, 3, 22, 0, 0, 0, 0), (42, .goto (-24), 3, 23, 10, 0, 0, 1), (45, .iload_n 3, 1, 24, 0, 0, 0, 0), (46, .iload_n 2, 1, 25, 0, 0, 0, 0), (47, .if_icmp .ne 5, 3, 26, 28, 0, 0, 1), (50, .iload_n 1, 1, 27, 0, 0, 0, 0), (51, .ireturn, 1, 28, 0, 0, 0, 2), (52, .aload_n 0, 1, 29, 0, 0, 0, 0), (53, .getfield 14, 3, 30, 0, 5, 2, 0), (56, .getfield 89, 3, 31, 0, 4, 1, 0), (59, .istore 4, 2, 32, 0, 0, 0, 0)],
  [(61, .iload_n 1, 1, 33, 0, 0, 0, 0), (62, .istore 5, 2, 34, 0, 0, 0, 0), (64, .iload 5, 2, 35, 0, 0, 0, 0), (66, .iload_n 2, 1, 36, 0, 0, 0, 0), (67, .if_icmp .ge 83, 3, 37, 73, 0, 0, 1), (70, .aload_n 0, 1, 38, 0, 0, 0, 0), (71, .getfield 14, 3, 39, 0, 5, 2, 0), (74, .getfield 73, 3, 40, 0, 4, 0, 0), (77, .iload 5, 2, 41, 0, 0, 0, 0), (79, .iaload, 1, 42, 0, 0, 0, 0), (80, .istore 6, 2, 43, 0, 0, 0, 0), (82, .aload_n 0, 1, 44, 0, 0, 0, 0), (83, .iload 6, 2, 45, 0, 0, 0, 0), (85, .invokevirtual 131, 3, 46, 0, 0, 58, 3), (88, .ifCond .eq 47, 3, 47, 67, 0, 0, 1), (91, .aload_n 0, 1, 48, 0, 0, 0, 0)],
  [(92, .getfield 32, 3, 49, 0, 5, 7, 0), (95, .iload 6, 2, 50, 0, 0, 0, 0), (97, .iaload, 1, 51, 0, 0, 0, 0), (98, .istore 7, 2, 52, 0, 0, 0, 0), (100, .aload_n 0, 1, 53, 0, 0, 0, 0), (101, .getfield 14, 3, 54, 0, 5, 2, 0), (104, .aload_n 0, 1, 55, 0, 0, 0, 0), (105, .getfield 14, 3, 56, 0, 5, 2, 0), (108, .getfield 73, 3, 57, 0, 4, 0, 0), (111, .iload 7, 2, 58, 0, 0, 0, 0), (113, .aload_n 0, 1, 59, 0, 0, 0, 0), (114, .getfield 36, 3, 60, 0, 5, 0, 0), (117, .aload_n 0, 1, 61, 0, 0, 0, 0), (118, .getfield 14, 3, 62, 0, 5, 2, 0), (121, .getfield 73, 3, 63, 0, 4, 0, 0), (124, .iload 7, 2, 64, 0, 0, 0, 0)],
  [(126, .invokevirtual 79, 3, 65, 0, 0, 33, 3), (129, .invokevirtual 85, 3, 66, 0, 0, 21, 3), (132, .goto 12, 3, 67, 71, 0, 0, 1), (135, .aload_n 0, 1, 68, 0, 0, 0, 0), (136, .getfield 14, 3, 69, 0, 5, 2, 0), (139, .iload 6, 2, 70, 0, 0, 0, 0), (141, .invokevirtual 76, 3, 71, 0, 0, 19, 3), (144, .iinc 5 1, 3, 72, 0, 0, 0, 0), (147, .goto (-83), 3, 73, 34, 0, 0, 1), (150, .aload_n 0, 1, 74, 0, 0, 0, 0), (151, .getfield 36, 3, 75, 0, 5, 0, 0), (154, .aload_n 0, 1, 76, 0, 0, 0, 0), (155, .getfield 14, 3, 77, 0, 5, 2, 0), (158, .getfield 73, 3, 78, 0, 4, 0, 0), (161, .iload 4, 2, 79, 0, 0, 0, 0), (163, .aload_n 0, 1, 80, 0, 0, 0, 0)],
  [(164, .getfield 14, 3, 81, 0, 5, 2, 0), (167, .getfield 89, 3, 82, 0, 4, 1, 0), (170, .invokevirtual 134, 3, 83, 0, 0, 23, 3), (173, .iload 4, 2, 84, 0, 0, 0, 0), (175, .ireturn, 1, 85, 0, 0, 0, 2)]]
def ft_58 : List (List FI) := [[(0, .iload_n 1, 1, 1, 0, 0, 0, 0), (1, .bipush 12, 2, 2, 0, 0, 0, 0), (3, .if_icmp .ge 17, 3, 3, 11, 0, 0, 1), (6, .aload_n 0, 1, 4, 0, 0, 0, 0), (7, .getfield 32, 3, 5, 0, 5, 7, 0), (10, .iload_n 1, 1, 6, 0, 0, 0, 0), (11, .iaload, 1, 7, 0, 0, 0, 0), (12, .iconst (-1), 1, 8, 0, 0, 0, 0), (13, .if_icmp .eq 7, 3, 9, 11, 0, 0, 1), (16, .iconst 1, 1, 10, 0, 0, 0, 0), (17, .goto 4, 3, 11, 12, 0, 0, 1), (20, .iconst 0, 1, 12, 0, 0, 0, 0), (21, .ireturn, 1, 13, 0, 0, 0, 2)]]
def ft_59 : List (List FI) := [[(0, .aload_n 0, 1, 1, 0, 0, 0, 0), (1, .getfield 23, 3, 2, 0, 5, 4, 0), (4, .iload_n 1, 1, 3, 0, 0, 0, 0), (5, .invokevirtual 76, 3, 4, 0, 0, 19, 3), (8, .aload_n 0, 1, 5, 0, 0, 0, 0), (9, .getfield 23, 3, 6, 0, 5, 4, 0), (12, .iload_n 2, 1, 7, 0, 0, 0, 0), (13, .invokevirtual 76, 3, 8, 0, 0, 19, 3), (16, .aload_n 0, 1, 9, 0, 0, 0, 0), (17, .getfield 23, 3, 10, 0, 5, 4, 0), (20, .aload_n 0, 1, 11, 0, 0, 0, 0), (21, .getfield 49, 3, 12, 0, 5, 8, 0), (24, .invokevirtual 76, 3, 13, 0, 0, 19, 3), (27, .aload_n 0, 1, 14, 0, 0, 0, 0), (28, .getfield 23, 3, 15, 0, 5, 4, 0), (31, .aload_n 0, 1, 16, 0, 0, 0, 0)],
  [(32, .getfield 20, 3, 17, 0, 5, 3, 0), (35, .getfield 89, 3, 18, 0, 4, 1, 0), (38, .invokevirtual 76, 3, 19, 0, 0, 19, 3), (41, .aload_n 0, 1, 20, 0, 0, 0, 0), (42, .getfield 23, 3, 21, 0, 5, 4, 0), (45, .aload_n 0, 1, 22, 0, 0, 0, 0), (46, .getfield 14, 3, 23, 0, 5, 2, 0), (49, .getfield 89, 3, 24, 0, 4, 1, 0), (52, .invokevirtual 76, 3, 25, 0, 0, 19, 3), (55, .aload_n 0, 1, 26, 0, 0, 0, 0), (56, .getfield 23, 3, 27, 0, 5, 4, 0), (59, .aload_n 0, 1, 28, 0, 0, 0, 0), (60, .getfield 32, 3, 29, 0, 5, 7, 0), (63, .iconst 0, 1, 30, 0, 0, 0, 0), (64, .bipush 12, 2, 31, 0, 0, 0, 0), (66, .invokevirtual 85, 3, 32, 0, 0, 21, 3)],
  [(69, .return_, 1, 33, 0, 0, 0, 2)]]
def ft_60 : List (List FI) := [[(0, .aload_n 0, 1, 1, 0, 0, 0, 0), (1, .getfield 36, 3, 2, 0, 5, 0, 0), (4, .aload_n 0, 1, 3, 0, 0, 0, 0), (5, .getfield 14, 3, 4, 0, 5, 2, 0), (8, .getfield 73, 3, 5, 0, 4, 0, 0), (11, .aload_n 0, 1, 6, 0, 0, 0, 0), (12, .getfield 119, 3, 7, 0, 5, 10, 0), (15, .invokevirtual 79, 3, 8, 0, 0, 33, 3), (18, .istore_n 1, 1, 9, 0, 0, 0, 0), (19, .aload_n 0, 1, 10, 0, 0, 0, 0), (20, .getfield 119, 3, 11, 0, 5, 10, 0), (23, .istore_n 2, 1, 12, 0, 0, 0, 0), (24, .iload_n 2, 1, 13, 0, 0, 0, 0), (25, .iload_n 1, 1, 14, 0, 0, 0, 0), (26, .if_icmp .ge 27, 3, 15, 27, 0, 0, 1), (29, .aload_n 0, 1, 16, 0, 0, 0, 0)],
  [(30, .getfield 14, 3, 17, 0, 5, 2, 0), (33, .getfield 73, 3, 18, 0, 4, 0, 0), (36, .iload_n 2, 1, 19, 0, 0, 0, 0), (37, .iaload, 1, 20, 0, 0, 0, 0), (38, .aload_n 0, 1, 21, 0, 0, 0, 0), (39, .getfield 116, 3, 22, 0, 5, 9, 0), (42, .if_icmp .ne 5, 3, 23, 25, 0, 0, 1), (45, .iconst 1, 1, 24, 0, 0, 0, 0), (46, .ireturn, 1, 25, 0, 0, 0, 2), (47, .iinc 2 1, 3, 26, 0, 0, 0, 0), (50, .goto (-26), 3, 27, 12, 0, 0, 1), (53, .aload_n 0, 1, 28, 0, 0, 0, 0), (54, .getfield 32, 3, 29, 0, 5, 7, 0), (57, .aload_n 0, 1, 30, 0, 0, 0, 0), (58, .getfield 116, 3, 31, 0, 5, 9, 0), (61, .aload_n 0, 1, 32, 0, 0, 0, 0)],
  [(62, .getfield 119, 3, 33, 0, 5, 10, 0), (65, .iastore, 1, 34, 0, 0, 0, 0), (66, .iload_n 1, 1, 35, 0, 0, 0, 0), (67, .aload_n 0, 1, 36, 0, 0, 0, 0), (68, .getfield 119, 3, 37, 0, 5, 10, 0), (71, .isub, 1, 38, 0, 0, 0, 0), (72, .bipush 24, 2, 39, 0, 0, 0, 0), (74, .if_icmp .gt 7, 3, 40, 42, 0, 0, 1), (77, .iconst 1, 1, 41, 0, 0, 0, 0), (78, .goto 4, 3, 42, 43, 0, 0, 1), (81, .iconst 0, 1, 43, 0, 0, 0, 0), (82, .istore_n 2, 1, 44, 0, 0, 0, 0), (83, .iconst 0, 1, 45, 0, 0, 0, 0), (84, .istore_n 3, 1, 46, 0, 0, 0, 0), (85, .iload_n 3, 1, 47, 0, 0, 0, 0), (86, .bipush 12, 2, 48, 0, 0, 0, 0)],
  [(88, .if_icmp .ge 85, 3, 49, 94, 0, 0, 1), (91, .iload_n 2, 1, 50, 0, 0, 0, 0), (92, .ifCond .eq 81, 3, 51, 94, 0, 0, 1), (95, .aload_n 0, 1, 52, 0, 0, 0, 0), (96, .getfield 32, 3, 53, 0, 5, 7, 0), (99, .iload_n 3, 1, 54, 0, 0, 0, 0), (100, .iaload, 1, 55, 0, 0, 0, 0), (101, .iconst (-1), 1, 56, 0, 0, 0, 0), (102, .if_icmp .eq 65, 3, 57, 92, 0, 0, 1), (105, .iload_n 3, 1, 58, 0, 0, 0, 0), (106, .aload_n 0, 1, 59, 0, 0, 0, 0), (107, .getfield 116, 3, 60, 0, 5, 9, 0), (110, .if_icmp .eq 57, 3, 61, 92, 0, 0, 1), (113, .aload_n 0, 1, 62, 0, 0, 0, 0), (114, .getfield 32, 3, 63, 0, 5, 7, 0), (117, .iload_n 3, 1, 64, 0, 0, 0, 0)],
  [(118, .aload_n 0, 1, 65, 0, 0, 0, 0), (119, .aload_n 0, 1, 66, 0, 0, 0, 0), (120, .getfield 32, 3, 67, 0, 5, 7, 0), (123, .iload_n 3, 1, 68, 0, 0, 0, 0), (124, .iaload, 1, 69, 0, 0, 0, 0), (125, .invokevirtual 102, 3, 70, 0, 0, 57, 3), (128, .iastore, 1, 71, 0, 0, 0, 0), (129, .aload_n 0, 1, 72, 0, 0, 0, 0), (130, .getfield 36, 3, 73, 0, 5, 0, 0), (133, .aload_n 0, 1, 74, 0, 0, 0, 0), (134, .getfield 14, 3, 75, 0, 5, 2, 0), (137, .getfield 73, 3, 76, 0, 4, 0, 0), (140, .aload_n 0, 1, 77, 0, 0, 0, 0), (141, .getfield 32, 3, 78, 0, 5, 7, 0), (144, .iload_n 3, 1, 79, 0, 0, 0, 0), (145, .iaload, 1, 80, 0, 0, 0, 0)],
  [(146, .invokevirtual 79, 3, 81, 0, 0, 33, 3), (149, .aload_n 0, 1, 82, 0, 0, 0, 0), (150, .getfield 32, 3, 83, 0, 5, 7, 0), (153, .iload_n 3, 1, 84, 0, 0, 0, 0), (154, .iaload, 1, 85, 0, 0, 0, 0), (155, .isub, 1, 86, 0, 0, 0, 0), (156, .bipush 24, 2, 87, 0, 0, 0, 0), (158, .if_icmp .gt 7, 3, 88, 90, 0, 0, 1), (161, .iconst 1, 1, 89, 0, 0, 0, 0), (162, .goto 4, 3, 90, 91, 0, 0, 1), (165, .iconst 0, 1, 91, 0, 0, 0, 0), (166, .istore_n 2, 1, 92, 0, 0, 0, 0), (167, .iinc 3 1, 3, 93, 0, 0, 0, 0), (170, .goto (-85), 3, 94, 46, 0, 0, 1), (173, .iload_n 2, 1, 95, 0, 0, 0, 0), (174, .ifCond .eq 7, 3, 96, 98, 0, 0, 1)],
  [(177, .iconst 0, 1, 97, 0, 0, 0, 0), (178, .goto 4, 3, 98, 99, 0, 0, 1), (181, .iconst 2, 1, 99, 0, 0, 0, 0), (182, .ireturn, 1, 100, 0, 0, 0, 2)]]
def ft_61 : List (List FI) := [[(0, .iconst 0, 1, 1, 0, 0, 0, 0), (1, .istore_n 1, 1, 2, 0, 0, 0, 0), (2, .iload_n 1, 1, 3, 0, 0, 0, 0), (3, .aload_n 0, 1, 4, 0, 0, 0, 0), (4, .getfield 66, 3, 5, 0, 5, 12, 0), (7, .if_icmp .ge 18, 3, 6, 13, 0, 0, 1), (10, .aload_n 0, 1, 7, 0, 0, 0, 0), (11, .iload_n 1, 1, 8, 0, 0, 0, 0), (12, .invokevirtual 143, 3, 9, 0, 0, 62, 3), (15, .ifCond .eq 4, 3, 10, 11, 0, 0, 1), (18, .return_, 1, 11, 0, 0, 0, 2), (19, .iinc 1 1, 3, 12, 0, 0, 0, 0), (22, .goto (-20), 3, 13, 2, 0, 0, 1), (25, .iconst 0, 1, 14, 0, 0, 0, 0), (26, .istore_n 1, 1, 15, 0, 0, 0, 0), (27, .iload_n 1, 1, 16, 0, 0, 0, 0)],
  [(28, .bipush 12, 2, 17, 0, 0, 0, 0), (30, .if_icmp .ge 74, 3, 18, 53, 0, 0, 1), (33, .aload_n 0, 1, 19, 0, 0, 0, 0), (34, .getfield 32, 3, 20, 0, 5, 7, 0), (37, .iload_n 1, 1, 21, 0, 0, 0, 0), (38, .iaload, 1, 22, 0, 0, 0, 0), (39, .istore_n 2, 1, 23, 0, 0, 0, 0), (40, .aload_n 0, 1, 24, 0, 0, 0, 0), (41, .getfield 29, 3, 25, 0, 5, 6, 0), (44, .iload_n 2, 1, 26, 0, 0, 0, 0), (45, .iconst (-1), 1, 27, 0, 0, 0, 0), (46, .if_icmp .ne 7, 3, 28, 30, 0, 0, 1), (49, .iconst (-1), 1, 29, 0, 0, 0, 0), (50, .goto 10, 3, 30, 33, 0, 0, 1), (53, .aload_n 0, 1, 31, 0, 0, 0, 0), (54, .getfield 26, 3, 32, 0, 5, 5, 0)],
  [(57, .getfield 89, 3, 33, 0, 4, 1, 0), (60, .invokevirtual 76, 3, 34, 0, 0, 19, 3), (63, .iload_n 2, 1, 35, 0, 0, 0, 0), (64, .iconst (-1), 1, 36, 0, 0, 0, 0), (65, .if_icmp .eq 33, 3, 37, 51, 0, 0, 1), (68, .aload_n 0, 1, 38, 0, 0, 0, 0), (69, .getfield 26, 3, 39, 0, 5, 5, 0), (72, .aload_n 0, 1, 40, 0, 0, 0, 0), (73, .getfield 14, 3, 41, 0, 5, 2, 0), (76, .getfield 73, 3, 42, 0, 4, 0, 0), (79, .iload_n 2, 1, 43, 0, 0, 0, 0), (80, .aload_n 0, 1, 44, 0, 0, 0, 0), (81, .getfield 36, 3, 45, 0, 5, 0, 0), (84, .aload_n 0, 1, 46, 0, 0, 0, 0), (85, .getfield 14, 3, 47, 0, 5, 2, 0), (88, .getfield 73, 3, 48, 0, 4, 0, 0)],
  [(91, .iload_n 2, 1, 49, 0, 0, 0, 0), (92, .invokevirtual 79, 3, 50, 0, 0, 33, 3), (95, .invokevirtual 85, 3, 51, 0, 0, 21, 3), (98, .iinc 1 1, 3, 52, 0, 0, 0, 0), (101, .goto (-74), 3, 53, 15, 0, 0, 1), (104, .aload_n 0, 1, 54, 0, 0, 0, 0), (105, .dup, 1, 55, 0, 0, 0, 0), (106, .getfield 66, 3, 56, 0, 5, 12, 0), (109, .iconst 1, 1, 57, 0, 0, 0, 0), (110, .iadd, 1, 58, 0, 0, 0, 0), (111, .putfield 66, 3, 59, 0, 5, 12, 0), (114, .return_, 1, 60, 0, 0, 0, 2)]]
def ft_62 : List (List FI) := [[(0, .iconst 0, 1, 1, 0, 0, 0, 0), (1, .istore_n 2, 1, 2, 0, 0, 0, 0), (2, .iload_n 2, 1, 3, 0, 0, 0, 0), (3, .bipush 12, 2, 4, 0, 0, 0, 0), (5, .if_icmp .ge 97, 3, 5, 56, 0, 0, 1), (8, .aload_n 0, 1, 6, 0, 0, 0, 0), (9, .getfield 32, 3, 7, 0, 5, 7, 0), (12, .iload_n 2, 1, 8, 0, 0, 0, 0), (13, .iaload, 1, 9, 0, 0, 0, 0), (14, .istore_n 3, 1, 10, 0, 0, 0, 0), (15, .aload_n 0, 1, 11, 0, 0, 0, 0), (16, .getfield 29, 3, 12, 0, 5, 6, 0), (19, .getfield 73, 3, 13, 0, 4, 0, 0), (22, .iload_n 1, 1, 14, 0, 0, 0, 0), (23, .bipush 12, 2, 15, 0, 0, 0, 0), (25, .imul, 1, 16, 0, 0, 0, 0)],
  [(26, .iload_n 2, 1, 17, 0, 0, 0, 0), (27, .iadd, 1, 18, 0, 0, 0, 0), (28, .iaload, 1, 19, 0, 0, 0, 0), (29, .istore 4, 2, 20, 0, 0, 0, 0), (31, .iload_n 3, 1, 21, 0, 0, 0, 0), (32, .iconst (-1), 1, 22, 0, 0, 0, 0), (33, .if_icmp .eq 9, 3, 23, 26, 0, 0, 1), (36, .iload 4, 2, 24, 0, 0, 0, 0), (38, .iconst (-1), 1, 25, 0, 0, 0, 0), (39, .if_icmp .ne 11, 3, 26, 31, 0, 0, 1), (42, .iload_n 3, 1, 27, 0, 0, 0, 0), (43, .iload 4, 2, 28, 0, 0, 0, 0), (45, .if_icmp .eq 51, 3, 29, 54, 0, 0, 1), (48, .iconst 0, 1, 30, 0, 0, 0, 0), (49, .ireturn, 1, 31, 0, 0, 0, 2), (50, .aload_n 0, 1, 32, 0, 0, 0, 0)],
  [(51, .getfield 36, 3, 33, 0, 5, 0, 0), (54, .aload_n 0, 1, 34, 0, 0, 0, 0), (55, .getfield 14, 3, 35, 0, 5, 2, 0), (58, .getfield 73, 3, 36, 0, 4, 0, 0), (61, .iload_n 3, 1, 37, 0, 0, 0, 0), (62, .invokevirtual 79, 3, 38, 0, 0, 33, 3), (65, .iload_n 3, 1, 39, 0, 0, 0, 0), (66, .isub, 1, 40, 0, 0, 0, 0), (67, .istore 5, 2, 41, 0, 0, 0, 0), (69, .aload_n 0, 1, 42, 0, 0, 0, 0), (70, .getfield 14, 3, 43, 0, 5, 2, 0), (73, .getfield 73, 3, 44, 0, 4, 0, 0), (76, .iload_n 3, 1, 45, 0, 0, 0, 0), (77, .aload_n 0, 1, 46, 0, 0, 0, 0), (78, .getfield 26, 3, 47, 0, 5, 5, 0), (81, .getfield 73, 3, 48, 0, 4, 0, 0)],
  [(84, .iload 4, 2, 49, 0, 0, 0, 0), (86, .iload 5, 2, 50, 0, 0, 0, 0), (88, .invokestatic 112, 3, 51, 0, 5, 29, 3), (91, .ifCond .ne 5, 3, 52, 54, 0, 0, 1), (94, .iconst 0, 1, 53, 0, 0, 0, 0), (95, .ireturn, 1, 54, 0, 0, 0, 2), (96, .iinc 2 1, 3, 55, 0, 0, 0, 0), (99, .goto (-97), 3, 56, 2, 0, 0, 1), (102, .iconst 1, 1, 57, 0, 0, 0, 0), (103, .ireturn, 1, 58, 0, 0, 0, 2)]]
def ft_63 : List (List FI) := [[(0, .aload_n 0, 1, 1, 0, 0, 0, 0), (1, .getfield 23, 3, 2, 0, 5, 4, 0), (4, .getfield 89, 3, 3, 0, 4, 1, 0), (7, .bipush 17, 2, 4, 0, 0, 0, 0), (9, .if_icmp .ge 5, 3, 5, 7, 0, 0, 1), (12, .iconst 0, 1, 6, 0, 0, 0, 0), (13, .ireturn, 1, 7, 0, 0, 0, 2), (14, .aload_n 0, 1, 8, 0, 0, 0, 0), (15, .getfield 23, 3, 9, 0, 5, 4, 0), (18, .dup, 1, 10, 0, 0, 0, 0), (19, .getfield 89, 3, 11, 0, 4, 1, 0), (22, .bipush 17, 2, 12, 0, 0, 0, 0), (24, .isub, 1, 13, 0, 0, 0, 0), (25, .putfield 89, 3, 14, 0, 4, 1, 0), (28, .aload_n 0, 1, 15, 0, 0, 0, 0), (29, .getfield 23, 3, 16, 0, 5, 4, 0)],
  [(32, .getfield 89, 3, 17, 0, 4, 1, 0), (35, .istore_n 1, 1, 18, 0, 0, 0, 0), (36, .aload_n 0, 1, 19, 0, 0, 0, 0), (37, .getfield 23, 3, 20, 0, 5, 4, 0), (40, .getfield 73, 3, 21, 0, 4, 0, 0), (43, .iload_n 1, 1, 22, 0, 0, 0, 0), (44, .iaload, 1, 23, 0, 0, 0, 0), (45, .istore_n 2, 1, 24, 0, 0, 0, 0), (46, .aload_n 0, 1, 25, 0, 0, 0, 0), (47, .getfield 23, 3, 26, 0, 5, 4, 0), (50, .getfield 73, 3, 27, 0, 4, 0, 0), (53, .iload_n 1, 1, 28, 0, 0, 0, 0), (54, .iconst 1, 1, 29, 0, 0, 0, 0), (55, .iadd, 1, 30, 0, 0, 0, 0), (56, .iaload, 1, 31, 0, 0, 0, 0), (57, .istore_n 3, 1, 32, 0, 0, 0, 0)],
  [(58, .aload_n 0, 1, 33, 0, 0, 0, 0), (59, .aload_n 0, 1, 34, 0, 0, 0, 0), (60, .getfield 23, 3, 35, 0, 5, 4, 0), (63, .getfield 73, 3, 36, 0, 4, 0, 0), (66, .iload_n 1, 1, 37, 0, 0, 0, 0), (67, .iconst 2, 1, 38, 0, 0, 0, 0), (68, .iadd, 1, 39, 0, 0, 0, 0), (69, .iaload, 1, 40, 0, 0, 0, 0), (70, .putfield 49, 3, 41, 0, 5, 8, 0), (73, .aload_n 0, 1, 42, 0, 0, 0, 0), (74, .getfield 20, 3, 43, 0, 5, 3, 0), (77, .aload_n 0, 1, 44, 0, 0, 0, 0), (78, .getfield 23, 3, 45, 0, 5, 4, 0), (81, .getfield 73, 3, 46, 0, 4, 0, 0), (84, .iload_n 1, 1, 47, 0, 0, 0, 0), (85, .iconst 3, 1, 48, 0, 0, 0, 0)],
  [(86, .iadd, 1, 49, 0, 0, 0, 0), (87, .iaload, 1, 50, 0, 0, 0, 0), (88, .putfield 89, 3, 51, 0, 4, 1, 0), (91, .aload_n 0, 1, 52, 0, 0, 0, 0), (92, .getfield 14, 3, 53, 0, 5, 2, 0), (95, .aload_n 0, 1, 54, 0, 0, 0, 0), (96, .getfield 23, 3, 55, 0, 5, 4, 0), (99, .getfield 73, 3, 56, 0, 4, 0, 0), (102, .iload_n 1, 1, 57, 0, 0, 0, 0), (103, .iconst 4, 1, 58, 0, 0, 0, 0), (104, .iadd, 1, 59, 0, 0, 0, 0), (105, .iaload, 1, 60, 0, 0, 0, 0), (106, .putfield 89, 3, 61, 0, 4, 1, 0), (109, .aload_n 0, 1, 62, 0, 0, 0, 0), (110, .getfield 23, 3, 63, 0, 5, 4, 0), (113, .getfield 73, 3, 64, 0, 4, 0, 0)],
  [(116, .iload_n 1, 1, 65, 0, 0, 0, 0), (117, .iconst 5, 1, 66, 0, 0, 0, 0), (118, .iadd, 1, 67, 0, 0, 0, 0), (119, .aload_n 0, 1, 68, 0, 0, 0, 0), (120, .getfield 32, 3, 69, 0, 5, 7, 0), (123, .iconst 0, 1, 70, 0, 0, 0, 0), (124, .bipush 12, 2, 71, 0, 0, 0, 0), (126, .invokestatic 137, 3, 72, 0, 4, 0, 3), (129, .aload_n 0, 1, 73, 0, 0, 0, 0), (130, .aload_n 0, 1, 74, 0, 0, 0, 0), (131, .getfield 36, 3, 75, 0, 5, 0, 0), (134, .aload_n 0, 1, 76, 0, 0, 0, 0), (135, .getfield 14, 3, 77, 0, 5, 2, 0), (138, .getfield 73, 3, 78, 0, 4, 0, 0), (141, .iload_n 2, 1, 79, 0, 0, 0, 0), (142, .iconst 1, 1, 80, 0, 0, 0, 0)],
  [(143, .iadd, 1, 81, 0, 0, 0, 0), (144, .invokevirtual 79, 3, 82, 0, 0, 33, 3), (147, .iload_n 3, 1, 83, 0, 0, 0, 0), (148, .iconst 1, 1, 84, 0, 0, 0, 0), (149, .iadd, 1, 85, 0, 0, 0, 0), (150, .invokevirtual 98, 3, 86, 0, 0, 55, 3), (153, .aload_n 0, 1, 87, 0, 0, 0, 0), (154, .iload_n 2, 1, 88, 0, 0, 0, 0), (155, .iconst 1, 1, 89, 0, 0, 0, 0), (156, .iadd, 1, 90, 0, 0, 0, 0), (157, .aload_n 0, 1, 91, 0, 0, 0, 0), (158, .getfield 36, 3, 92, 0, 5, 0, 0), (161, .aload_n 0, 1, 93, 0, 0, 0, 0), (162, .getfield 14, 3, 94, 0, 5, 2, 0), (165, .getfield 73, 3, 95, 0, 4, 0, 0), (168, .iload_n 3, 1, 96, 0, 0, 0, 0)],
  [(169, .iconst 1, 1, 97, 0, 0, 0, 0), (170, .iadd, 1, 98, 0, 0, 0, 0), (171, .invokevirtual 79, 3, 99, 0, 0, 33, 3), (174, .invokevirtual 98, 3, 100, 0, 0, 55, 3), (177, .iconst 1, 1, 101, 0, 0, 0, 0), (178, .ireturn, 1, 102, 0, 0, 0, 2)]]
def ft_64 : List (List FI) := [[(0, .iload_n 1, 1, 1, 0, 0, 0, 0), (1, .invokestatic 88, 3, 2, 0, 1, 14, 3), (4, .ifCond .eq 18, 3, 3, 9, 0, 0, 1), (7, .iload_n 2, 1, 4, 0, 0, 0, 0), (8, .invokestatic 88, 3, 5, 0, 1, 14, 3), (11, .ifCond .eq 11, 3, 6, 9, 0, 0, 1), (14, .iload 4, 2, 7, 0, 0, 0, 0), (16, .invokestatic 88, 3, 8, 0, 1, 14, 3), (19, .ifCond .ne 5, 3, 9, 11, 0, 0, 1), (22, .iconst 0, 1, 10, 0, 0, 0, 0), (23, .ireturn, 1, 11, 0, 0, 0, 2), (24, .aload_n 0, 1, 12, 0, 0, 0, 0), (25, .getfield 40, 3, 13, 0, 10, 3, 0), (28, .aload_n 0, 1, 14, 0, 0, 0, 0), (29, .getfield 80, 3, 15, 0, 10, 8, 0), (32, .iload_n 1, 1, 16, 0, 0, 0, 0)],
  [(33, .aaload, 1, 17, 0, 0, 0, 0), (34, .iconst 0, 1, 18, 0, 0, 0, 0), (35, .aload_n 0, 1, 19, 0, 0, 0, 0), (36, .getfield 80, 3, 20, 0, 10, 8, 0), (39, .iload_n 2, 1, 21, 0, 0, 0, 0), (40, .aaload, 1, 22, 0, 0, 0, 0), (41, .iconst 0, 1, 23, 0, 0, 0, 0), (42, .invokevirtual 141, 3, 24, 0, 0, 52, 3), (45, .istore 5, 2, 25, 0, 0, 0, 0), (47, .iload 5, 2, 26, 0, 0, 0, 0), (49, .bipush 33, 2, 27, 0, 0, 0, 0), (51, .if_icmp .eq 13, 3, 28, 33, 0, 0, 1), (54, .iload_n 3, 1, 29, 0, 0, 0, 0), (55, .ifCond .lt 9, 3, 30, 33, 0, 0, 1), (58, .iload_n 3, 1, 31, 0, 0, 0, 0), (59, .iload 5, 2, 32, 0, 0, 0, 0)],
  [(61, .if_icmp .lt 5, 3, 33, 35, 0, 0, 1), (64, .iconst 0, 1, 34, 0, 0, 0, 0), (65, .ireturn, 1, 35, 0, 0, 0, 2), (66, .aload_n 0, 1, 36, 0, 0, 0, 0), (67, .getfield 74, 3, 37, 0, 10, 7, 0), (70, .iconst 0, 1, 38, 0, 0, 0, 0), (71, .putfield 102, 3, 39, 0, 4, 1, 0), (74, .aload_n 0, 1, 40, 0, 0, 0, 0), (75, .getfield 40, 3, 41, 0, 10, 3, 0), (78, .aload_n 0, 1, 42, 0, 0, 0, 0), (79, .getfield 74, 3, 43, 0, 10, 7, 0), (82, .aload_n 0, 1, 44, 0, 0, 0, 0), (83, .getfield 80, 3, 45, 0, 10, 8, 0), (86, .iload_n 1, 1, 46, 0, 0, 0, 0), (87, .aaload, 1, 47, 0, 0, 0, 0), (88, .iconst 0, 1, 48, 0, 0, 0, 0)],
  [(89, .aload_n 0, 1, 49, 0, 0, 0, 0), (90, .getfield 80, 3, 50, 0, 10, 8, 0), (93, .iload_n 1, 1, 51, 0, 0, 0, 0), (94, .aaload, 1, 52, 0, 0, 0, 0), (95, .arraylength, 1, 53, 0, 0, 0, 0), (96, .iconst 0, 1, 54, 0, 0, 0, 0), (97, .iload_n 3, 1, 55, 0, 0, 0, 0), (98, .invokevirtual 144, 3, 56, 0, 0, 65, 3), (101, .aload_n 0, 1, 57, 0, 0, 0, 0), (102, .iload 4, 2, 58, 0, 0, 0, 0), (104, .invokevirtual 113, 3, 59, 0, 0, 22, 3), (107, .ireturn, 1, 60, 0, 0, 0, 2)]]
def ft_65 : List (List FI) := [[(0, .iload_n 3, 1, 1, 0, 0, 0, 0), (1, .istore 7, 2, 2, 0, 0, 0, 0), (3, .iload 7, 2, 3, 0, 0, 0, 0), (5, .iload 4, 2, 4, 0, 0, 0, 0), (7, .if_icmp .ge 106, 3, 5, 57, 0, 0, 1), (10, .aload_n 2, 1, 6, 0, 0, 0, 0), (11, .iload 7, 2, 7, 0, 0, 0, 0), (13, .iaload, 1, 8, 0, 0, 0, 0), (14, .bipush 12, 2, 9, 0, 0, 0, 0), (16, .if_icmp .ge 13, 3, 10, 16, 0, 0, 1), (19, .aload_n 2, 1, 11, 0, 0, 0, 0), (20, .iload 7, 2, 12, 0, 0, 0, 0), (22, .iaload, 1, 13, 0, 0, 0, 0), (23, .iload 5, 2, 14, 0, 0, 0, 0), (25, .iadd, 1, 15, 0, 0, 0, 0), (26, .goto 7, 3, 16, 19, 0, 0, 1)],
  [(29, .aload_n 2, 1, 17, 0, 0, 0, 0), (30, .iload 7, 2, 18, 0, 0, 0, 0), (32, .iaload, 1, 19, 0, 0, 0, 0), (33, .istore 8, 2, 20, 0, 0, 0, 0), (35, .iconst (-1), 1, 21, 0, 0, 0, 0), (36, .istore 9, 2, 22, 0, 0, 0, 0), (38, .iload 8, 2, 23, 0, 0, 0, 0), (40, .bipush 12, 2, 24, 0, 0, 0, 0), (42, .if_icmp .ge 21, 3, 25, 35, 0, 0, 1), (45, .aload_n 0, 1, 26, 0, 0, 0, 0), (46, .getfield 29, 3, 27, 0, 5, 6, 0), (49, .getfield 73, 3, 28, 0, 4, 0, 0), (52, .iload 6, 2, 29, 0, 0, 0, 0), (54, .bipush 12, 2, 30, 0, 0, 0, 0), (56, .imul, 1, 31, 0, 0, 0, 0), (57, .iload 8, 2, 32, 0, 0, 0, 0)],
  [(59, .iadd, 1, 33, 0, 0, 0, 0), (60, .iaload, 1, 34, 0, 0, 0, 0), (61, .istore 9, 2, 35, 0, 0, 0, 0), (63, .iload 9, 2, 36, 0, 0, 0, 0), (65, .iconst (-1), 1, 37, 0, 0, 0, 0), (66, .if_icmp .ne 12, 3, 38, 42, 0, 0, 1), (69, .aload_n 1, 1, 39, 0, 0, 0, 0), (70, .iload 8, 2, 40, 0, 0, 0, 0), (72, .invokevirtual 76, 3, 41, 0, 0, 19, 3), (75, .goto 32, 3, 42, 55, 0, 0, 1), (78, .aload_n 1, 1, 43, 0, 0, 0, 0), (79, .aload_n 0, 1, 44, 0, 0, 0, 0), (80, .getfield 26, 3, 45, 0, 5, 5, 0), (83, .getfield 73, 3, 46, 0, 4, 0, 0), (86, .iload 9, 2, 47, 0, 0, 0, 0), (88, .aload_n 0, 1, 48, 0, 0, 0, 0)],
  [(89, .getfield 36, 3, 49, 0, 5, 0, 0), (92, .aload_n 0, 1, 50, 0, 0, 0, 0), (93, .getfield 26, 3, 51, 0, 5, 5, 0), (96, .getfield 73, 3, 52, 0, 4, 0, 0), (99, .iload 9, 2, 53, 0, 0, 0, 0), (101, .invokevirtual 79, 3, 54, 0, 0, 33, 3), (104, .invokevirtual 85, 3, 55, 0, 0, 21, 3), (107, .iinc 7 1, 3, 56, 0, 0, 0, 0), (110, .goto (-107), 3, 57, 2, 0, 0, 1), (113, .return_, 1, 58, 0, 0, 0, 2)]]
def ft_66 : List (List FI) := [[(0, .iload_n 1, 1, 1, 0, 0, 0, 0), (1, .invokestatic 88, 3, 2, 0, 1, 14, 3), (4, .ifCond .eq 25, 3, 3, 12, 0, 0, 1), (7, .iload_n 2, 1, 4, 0, 0, 0, 0), (8, .invokestatic 88, 3, 5, 0, 1, 14, 3), (11, .ifCond .eq 18, 3, 6, 12, 0, 0, 1), (14, .aload_n 0, 1, 7, 0, 0, 0, 0), (15, .getfield 65, 3, 8, 0, 10, 5, 0), (18, .getfield 148, 3, 9, 0, 9, 12, 0), (21, .getfield 152, 3, 10, 0, 6, 2, 0), (24, .bipush 60, 2, 11, 0, 0, 0, 0), (26, .if_icmp .lt 5, 3, 12, 14, 0, 0, 1), (29, .iconst 0, 1, 13, 0, 0, 0, 0), (30, .ireturn, 1, 14, 0, 0, 0, 2), (31, .aload_n 0, 1, 15, 0, 0, 0, 0), (32, .getfield 56, 3, 16, 0, 10, 6, 0)],
  [(35, .aload_n 0, 1, 17, 0, 0, 0, 0), (36, .getfield 80, 3, 18, 0, 10, 8, 0), (39, .iload_n 1, 1, 19, 0, 0, 0, 0), (40, .aaload, 1, 20, 0, 0, 0, 0), (41, .aload_n 0, 1, 21, 0, 0, 0, 0), (42, .getfield 80, 3, 22, 0, 10, 8, 0), (45, .iload_n 1, 1, 23, 0, 0, 0, 0), (46, .aaload, 1, 24, 0, 0, 0, 0), (47, .arraylength, 1, 25, 0, 0, 0, 0), (48, .aload_n 0, 1, 26, 0, 0, 0, 0), (49, .getfield 80, 3, 27, 0, 10, 8, 0), (52, .iload_n 2, 1, 28, 0, 0, 0, 0), (53, .aaload, 1, 29, 0, 0, 0, 0), (54, .aload_n 0, 1, 30, 0, 0, 0, 0), (55, .getfield 80, 3, 31, 0, 10, 8, 0), (58, .iload_n 2, 1, 32, 0, 0, 0, 0)],
  [(59, .aaload, 1, 33, 0, 0, 0, 0), (60, .arraylength, 1, 34, 0, 0, 0, 0), (61, .invokevirtual 157, 3, 35, 0, 0, 67, 3), (64, .pop, 1, 36, 0, 0, 0, 0), (65, .aload_n 0, 1, 37, 0, 0, 0, 0), (66, .getfield 65, 3, 38, 0, 10, 5, 0), (69, .getfield 148, 3, 39, 0, 9, 12, 0), (72, .aload_n 0, 1, 40, 0, 0, 0, 0), (73, .getfield 56, 3, 41, 0, 10, 6, 0), (76, .getfield 161, 3, 42, 0, 8, 3, 0), (79, .aload_n 0, 1, 43, 0, 0, 0, 0), (80, .getfield 56, 3, 44, 0, 10, 6, 0), (83, .getfield 164, 3, 45, 0, 8, 4, 0), (86, .invokevirtual 167, 3, 46, 0, 0, 69, 3), (89, .iconst 1, 1, 47, 0, 0, 0, 0), (90, .ireturn, 1, 48, 0, 0, 0, 2)]]
def ft_67 : List (List FI) := [[(0, .aload_n 0, 1, 1, 0, 0, 0, 0), (1, .getfield 9, 3, 2, 0, 8, 1, 0), (4, .iconst (-1), 1, 3, 0, 0, 0, 0), (5, .invokestatic 25, 3, 4, 0, 1, 54, 3), (8, .aload_n 0, 1, 5, 0, 0, 0, 0), (9, .iconst 0, 1, 6, 0, 0, 0, 0), (10, .putfield 31, 3, 7, 0, 8, 2, 0), (13, .aload_n 0, 1, 8, 0, 0, 0, 0), (14, .aload_n 0, 1, 9, 0, 0, 0, 0), (15, .aload_n 1, 1, 10, 0, 0, 0, 0), (16, .iload_n 2, 1, 11, 0, 0, 0, 0), (17, .invokevirtual 35, 3, 12, 0, 0, 68, 3), (20, .putfield 15, 3, 13, 0, 8, 3, 0), (23, .aload_n 0, 1, 14, 0, 0, 0, 0), (24, .aload_n 0, 1, 15, 0, 0, 0, 0), (25, .aload_n 3, 1, 16, 0, 0, 0, 0)],
  [(26, .iload 4, 2, 17, 0, 0, 0, 0), (28, .invokevirtual 35, 3, 18, 0, 0, 68, 3), (31, .putfield 18, 3, 19, 0, 8, 4, 0), (34, .aload_n 0, 1, 20, 0, 0, 0, 0), (35, .getfield 31, 3, 21, 0, 8, 2, 0), (38, .bipush 6, 2, 22, 0, 0, 0, 0), (40, .if_icmp .gt 7, 3, 23, 25, 0, 0, 1), (43, .iconst 1, 1, 24, 0, 0, 0, 0), (44, .goto 4, 3, 25, 26, 0, 0, 1), (47, .iconst 0, 1, 26, 0, 0, 0, 0), (48, .ireturn, 1, 27, 0, 0, 0, 2)]]
def ft_68 : List (List FI) := [[(0, .aload_n 1, 1, 1, 0, 0, 0, 0), (1, .iload_n 2, 1, 2, 0, 0, 0, 0), (2, .invokestatic 39, 3, 3, 0, 1, 20, 3), (5, .astore_n 3, 1, 4, 0, 0, 0, 0), (6, .iconst 0, 1, 5, 0, 0, 0, 0), (7, .istore 4, 2, 6, 0, 0, 0, 0), (9, .iload 4, 2, 7, 0, 0, 0, 0), (11, .aload_n 3, 1, 8, 0, 0, 0, 0), (12, .arraylength, 1, 9, 0, 0, 0, 0), (13, .if_icmp .ge 65, 3, 10, 44, 0, 0, 1), (16, .aload_n 3, 1, 11, 0, 0, 0, 0), (17, .iload 4, 2, 12, 0, 0, 0, 0), (19, .iaload, 1, 13, 0, 0, 0, 0), (20, .istore 5, 2, 14, 0, 0, 0, 0), (22, .iload 5, 2, 15, 0, 0, 0, 0), (24, .bipush 12, 2, 16, 0, 0, 0, 0)],
  [(26, .if_icmp .ge 46, 3, 17, 42, 0, 0, 1), (29, .aload_n 0, 1, 18, 0, 0, 0, 0), (30, .getfield 9, 3, 19, 0, 8, 1, 0), (33, .iload 5, 2, 20, 0, 0, 0, 0), (35, .iaload, 1, 21, 0, 0, 0, 0), (36, .iconst (-1), 1, 22, 0, 0, 0, 0), (37, .if_icmp .ne 24, 3, 23, 35, 0, 0, 1), (40, .aload_n 0, 1, 24, 0, 0, 0, 0), (41, .getfield 9, 3, 25, 0, 8, 1, 0), (44, .iload 5, 2, 26, 0, 0, 0, 0), (46, .aload_n 0, 1, 27, 0, 0, 0, 0), (47, .getfield 31, 3, 28, 0, 8, 2, 0), (50, .iastore, 1, 29, 0, 0, 0, 0), (51, .aload_n 0, 1, 30, 0, 0, 0, 0), (52, .dup, 1, 31, 0, 0, 0, 0), (53, .getfield 31, 3, 32, 0, 8, 2, 0)],
  [(56, .iconst 1, 1, 33, 0, 0, 0, 0), (57, .iadd, 1, 34, 0, 0, 0, 0), (58, .putfield 31, 3, 35, 0, 8, 2, 0), (61, .aload_n 3, 1, 36, 0, 0, 0, 0), (62, .iload 4, 2, 37, 0, 0, 0, 0), (64, .aload_n 0, 1, 38, 0, 0, 0, 0), (65, .getfield 9, 3, 39, 0, 8, 1, 0), (68, .iload 5, 2, 40, 0, 0, 0, 0), (70, .iaload, 1, 41, 0, 0, 0, 0), (71, .iastore, 1, 42, 0, 0, 0, 0), (72, .iinc 4 1, 3, 43, 0, 0, 0, 0), (75, .goto (-66), 3, 44, 6, 0, 0, 1), (78, .aload_n 0, 1, 45, 0, 0, 0, 0), (79, .getfield 21, 3, 46, 0, 8, 0, 0), (82, .aload_n 3, 1, 47, 0, 0, 0, 0), (83, .iconst 0, 1, 48, 0, 0, 0, 0)],
  [(84, .aload_n 3, 1, 49, 0, 0, 0, 0), (85, .arraylength, 1, 50, 0, 0, 0, 0), (86, .invokevirtual 42, 3, 51, 0, 0, 23, 3), (89, .aload_n 3, 1, 52, 0, 0, 0, 0), (90, .areturn, 1, 53, 0, 0, 0, 2)]]
def ft_69 : List (List FI) := [[(0, .aload_n 0, 1, 1, 0, 0, 0, 0), (1, .getfield 18, 3, 2, 0, 6, 2, 0), (4, .aload_n 0, 1, 3, 0, 0, 0, 0), (5, .getfield 9, 3, 4, 0, 6, 0, 0), (8, .arraylength, 1, 5, 0, 0, 0, 0), (9, .if_icmp .ge 23, 3, 6, 18, 0, 0, 1), (12, .aload_n 0, 1, 7, 0, 0, 0, 0), (13, .getfield 9, 3, 8, 0, 6, 0, 0), (16, .aload_n 0, 1, 9, 0, 0, 0, 0), (17, .getfield 18, 3, 10, 0, 6, 2, 0), (20, .aload_n 1, 1, 11, 0, 0, 0, 0), (21, .aastore, 1, 12, 0, 0, 0, 0), (22, .aload_n 0, 1, 13, 0, 0, 0, 0), (23, .getfield 15, 3, 14, 0, 6, 1, 0), (26, .aload_n 0, 1, 15, 0, 0, 0, 0), (27, .getfield 18, 3, 16, 0, 6, 2, 0)],
  [(30, .aload_n 2, 1, 17, 0, 0, 0, 0), (31, .aastore, 1, 18, 0, 0, 0, 0), (32, .aload_n 0, 1, 19, 0, 0, 0, 0), (33, .dup, 1, 20, 0, 0, 0, 0), (34, .getfield 18, 3, 21, 0, 6, 2, 0), (37, .iconst 1, 1, 22, 0, 0, 0, 0), (38, .iadd, 1, 23, 0, 0, 0, 0), (39, .putfield 18, 3, 24, 0, 6, 2, 0), (42, .return_, 1, 25, 0, 0, 0, 2)]]
def ft_70 : List (List FI) := [[(0, .iload_n 1, 1, 1, 0, 0, 0, 0), (1, .ifCond .lt 9, 3, 2, 5, 0, 0, 1), (4, .iload_n 1, 1, 3, 0, 0, 0, 0), (5, .bipush 30, 2, 4, 0, 0, 0, 0), (7, .if_icmp .le 7, 3, 5, 7, 0, 0, 1), (10, .iconst 0, 1, 6, 0, 0, 0, 0), (11, .goto 4, 3, 7, 8, 0, 0, 1), (14, .iload_n 1, 1, 8, 0, 0, 0, 0), (15, .istore_n 2, 1, 9, 0, 0, 0, 0), (16, .iconst 0, 1, 10, 0, 0, 0, 0), (17, .istore_n 3, 1, 11, 0, 0, 0, 0), (18, .iconst 0, 1, 12, 0, 0, 0, 0), (19, .istore 4, 2, 13, 0, 0, 0, 0), (21, .iload 4, 2, 14, 0, 0, 0, 0), (23, .iload_n 2, 1, 15, 0, 0, 0, 0), (24, .if_icmp .ge 31, 3, 16, 28, 0, 0, 1)],
  [(27, .iload_n 3, 1, 17, 0, 0, 0, 0), (28, .ifCond .ne 27, 3, 18, 28, 0, 0, 1), (31, .aload_n 0, 1, 19, 0, 0, 0, 0), (32, .getfield 65, 3, 20, 0, 10, 5, 0), (35, .invokevirtual 170, 3, 21, 0, 0, 71, 3), (38, .ifCond .eq 17, 3, 22, 28, 0, 0, 1), (41, .aload_n 0, 1, 23, 0, 0, 0, 0), (42, .getfield 65, 3, 24, 0, 10, 5, 0), (45, .invokevirtual 174, 3, 25, 0, 0, 72, 3), (48, .istore_n 3, 1, 26, 0, 0, 0, 0), (49, .iinc 4 1, 3, 27, 0, 0, 0, 0), (52, .goto (-31), 3, 28, 13, 0, 0, 1), (55, .aload_n 0, 1, 29, 0, 0, 0, 0), (56, .getfield 65, 3, 30, 0, 10, 5, 0), (59, .getfield 178, 3, 31, 0, 9, 13, 0), (62, .ifCond .eq 5, 3, 32, 34, 0, 0, 1)],
  [(65, .iconst 3, 1, 33, 0, 0, 0, 0), (66, .ireturn, 1, 34, 0, 0, 0, 2), (67, .iload_n 3, 1, 35, 0, 0, 0, 0), (68, .iconst 1, 1, 36, 0, 0, 0, 0), (69, .if_icmp .ne 5, 3, 37, 39, 0, 0, 1), (72, .iconst 2, 1, 38, 0, 0, 0, 0), (73, .ireturn, 1, 39, 0, 0, 0, 2), (74, .aload_n 0, 1, 40, 0, 0, 0, 0), (75, .getfield 65, 3, 41, 0, 10, 5, 0), (78, .getfield 148, 3, 42, 0, 9, 12, 0), (81, .getfield 152, 3, 43, 0, 6, 2, 0), (84, .ifCond .ne 7, 3, 44, 46, 0, 0, 1), (87, .iconst 1, 1, 45, 0, 0, 0, 0), (88, .goto 4, 3, 46, 47, 0, 0, 1), (91, .iconst 0, 1, 47, 0, 0, 0, 0), (92, .ireturn, 1, 48, 0, 0, 0, 2)]]
def ft_71 : List (List FI) := [[(0, .aload_n 0, 1, 1, 0, 0, 0, 0), (1, .getfield 66, 3, 2, 0, 9, 13, 0), (4, .ifCond .ne 17, 3, 3, 9, 0, 0, 1), (7, .aload_n 0, 1, 4, 0, 0, 0, 0), (8, .getfield 39, 3, 5, 0, 9, 12, 0), (11, .getfield 70, 3, 6, 0, 6, 2, 0), (14, .ifCond .le 7, 3, 7, 9, 0, 0, 1), (17, .iconst 1, 1, 8, 0, 0, 0, 0), (18, .goto 4, 3, 9, 10, 0, 0, 1), (21, .iconst 0, 1, 10, 0, 0, 0, 0), (22, .ireturn, 1, 11, 0, 0, 0, 2)]]
def ft_72 : List (List FI) := [[(0, .aload_n 0, 1, 1, 0, 0, 0, 0), (1, .invokevirtual 74, 3, 2, 0, 0, 73, 3), (4, .istore_n 1, 1, 3, 0, 0, 0, 0), (5, .aload_n 0, 1, 4, 0, 0, 0, 0), (6, .getfield 54, 3, 5, 0, 9, 3, 0), (9, .aload_n 0, 1, 6, 0, 0, 0, 0), (10, .getfield 39, 3, 7, 0, 9, 12, 0), (13, .getfield 78, 3, 8, 0, 6, 0, 0), (16, .iload_n 1, 1, 9, 0, 0, 0, 0), (17, .aaload, 1, 10, 0, 0, 0, 0), (18, .aload_n 0, 1, 11, 0, 0, 0, 0), (19, .getfield 36, 3, 12, 0, 9, 11, 0), (22, .invokevirtual 82, 3, 13, 0, 0, 74, 3), (25, .astore_n 2, 1, 14, 0, 0, 0, 0), (26, .aload_n 2, 1, 15, 0, 0, 0, 0), (27, .ifnonnull 7, 3, 16, 18, 0, 0, 1)],
  [(30, .aconst_null, 1, 17, 0, 0, 0, 0), (31, .goto 23, 3, 18, 28, 0, 0, 1), (34, .aload_n 0, 1, 19, 0, 0, 0, 0), (35, .getfield 54, 3, 20, 0, 9, 3, 0), (38, .aload_n 0, 1, 21, 0, 0, 0, 0), (39, .getfield 39, 3, 22, 0, 9, 12, 0), (42, .getfield 88, 3, 23, 0, 6, 1, 0), (45, .iload_n 1, 1, 24, 0, 0, 0, 0), (46, .aaload, 1, 25, 0, 0, 0, 0), (47, .aload_n 0, 1, 26, 0, 0, 0, 0), (48, .getfield 36, 3, 27, 0, 9, 11, 0), (51, .invokevirtual 82, 3, 28, 0, 0, 74, 3), (54, .astore_n 3, 1, 29, 0, 0, 0, 0), (55, .aload_n 2, 1, 30, 0, 0, 0, 0), (56, .ifnull 7, 3, 31, 33, 0, 0, 1), (59, .aload_n 3, 1, 32, 0, 0, 0, 0)],
  [(60, .ifnonnull 8, 3, 33, 36, 0, 0, 1), (63, .aload_n 0, 1, 34, 0, 0, 0, 0), (64, .invokevirtual 91, 3, 35, 0, 0, 77, 3), (67, .ireturn, 1, 36, 0, 0, 0, 2), (68, .aload_n 0, 1, 37, 0, 0, 0, 0), (69, .iload_n 1, 1, 38, 0, 0, 0, 0), (70, .invokevirtual 94, 3, 39, 0, 0, 78, 3), (73, .aload_n 2, 1, 40, 0, 0, 0, 0), (74, .aload_n 3, 1, 41, 0, 0, 0, 0), (75, .invokestatic 97, 3, 42, 0, 5, 28, 3), (78, .ifCond .eq 9, 3, 43, 47, 0, 0, 1), (81, .aload_n 0, 1, 44, 0, 0, 0, 0), (82, .invokevirtual 101, 3, 45, 0, 0, 79, 3), (85, .iconst 0, 1, 46, 0, 0, 0, 0), (86, .ireturn, 1, 47, 0, 0, 0, 2), (87, .aload_n 0, 1, 48, 0, 0, 0, 0)],
  [(88, .getfield 46, 3, 49, 0, 9, 1, 0), (91, .aload_n 2, 1, 50, 0, 0, 0, 0), (92, .aload_n 3, 1, 51, 0, 0, 0, 0), (93, .invokevirtual 104, 3, 52, 0, 0, 31, 3), (96, .istore 4, 2, 53, 0, 0, 0, 0), (98, .iload 4, 2, 54, 0, 0, 0, 0), (100, .ifCond .ne 17, 3, 55, 63, 0, 0, 1), (103, .aload_n 0, 1, 56, 0, 0, 0, 0), (104, .getfield 46, 3, 57, 0, 9, 1, 0), (107, .aload_n 3, 1, 58, 0, 0, 0, 0), (108, .aload_n 2, 1, 59, 0, 0, 0, 0), (109, .invokevirtual 104, 3, 60, 0, 0, 31, 3), (112, .ifCond .ne 5, 3, 61, 63, 0, 0, 1), (115, .iconst 1, 1, 62, 0, 0, 0, 0), (116, .ireturn, 1, 63, 0, 0, 0, 2), (117, .iload 4, 2, 64, 0, 0, 0, 0)],
  [(119, .ifCond .eq 7, 3, 65, 67, 0, 0, 1), (122, .aload_n 2, 1, 66, 0, 0, 0, 0), (123, .goto 4, 3, 67, 68, 0, 0, 1), (126, .aload_n 3, 1, 68, 0, 0, 0, 0), (127, .astore 5, 2, 69, 0, 0, 0, 0), (129, .iload 4, 2, 70, 0, 0, 0, 0), (131, .ifCond .eq 7, 3, 71, 73, 0, 0, 1), (134, .aload_n 3, 1, 72, 0, 0, 0, 0), (135, .goto 4, 3, 73, 74, 0, 0, 1), (138, .aload_n 2, 1, 74, 0, 0, 0, 0), (139, .astore 6, 2, 75, 0, 0, 0, 0), (141, .aload_n 0, 1, 76, 0, 0, 0, 0), (142, .getfield 62, 3, 77, 0, 9, 5, 0), (145, .aload 5, 2, 78, 0, 0, 0, 0), (147, .aload 5, 2, 79, 0, 0, 0, 0), (149, .arraylength, 1, 80, 0, 0, 0, 0)],
  [(150, .aload 6, 2, 81, 0, 0, 0, 0), (152, .aload 6, 2, 82, 0, 0, 0, 0), (154, .arraylength, 1, 83, 0, 0, 0, 0), (155, .invokevirtual 109, 3, 84, 0, 0, 67, 3), (158, .ifCond .ne 8, 3, 85, 88, 0, 0, 1), (161, .aload_n 0, 1, 86, 0, 0, 0, 0), (162, .invokevirtual 91, 3, 87, 0, 0, 77, 3), (165, .ireturn, 1, 88, 0, 0, 0, 2), (166, .aload_n 0, 1, 89, 0, 0, 0, 0), (167, .aload_n 0, 1, 90, 0, 0, 0, 0), (168, .getfield 62, 3, 91, 0, 9, 5, 0), (171, .getfield 115, 3, 92, 0, 8, 3, 0), (174, .invokevirtual 118, 3, 93, 0, 0, 80, 3), (177, .ifCond .eq 15, 3, 94, 99, 0, 0, 1), (180, .aload_n 0, 1, 95, 0, 0, 0, 0), (181, .getfield 26, 3, 96, 0, 9, 8, 0)],
  [(184, .getfield 70, 3, 97, 0, 6, 2, 0), (187, .bipush 16, 2, 98, 0, 0, 0, 0), (189, .if_icmp .lt 8, 3, 99, 102, 0, 0, 1), (192, .aload_n 0, 1, 100, 0, 0, 0, 0), (193, .invokevirtual 91, 3, 101, 0, 0, 77, 3), (196, .ireturn, 1, 102, 0, 0, 0, 2), (197, .aload_n 0, 1, 103, 0, 0, 0, 0), (198, .getfield 26, 3, 104, 0, 9, 8, 0), (201, .aload_n 0, 1, 105, 0, 0, 0, 0), (202, .getfield 62, 3, 106, 0, 9, 5, 0), (205, .getfield 115, 3, 107, 0, 8, 3, 0), (208, .aload_n 0, 1, 108, 0, 0, 0, 0), (209, .getfield 62, 3, 109, 0, 9, 5, 0), (212, .getfield 122, 3, 110, 0, 8, 4, 0), (215, .invokevirtual 124, 3, 111, 0, 0, 69, 3), (218, .aload_n 0, 1, 112, 0, 0, 0, 0)],
  [(219, .invokevirtual 128, 3, 113, 0, 0, 81, 3), (222, .ifCond .ne 8, 3, 114, 117, 0, 0, 1), (225, .aload_n 0, 1, 115, 0, 0, 0, 0), (226, .invokevirtual 91, 3, 116, 0, 0, 77, 3), (229, .ireturn, 1, 117, 0, 0, 0, 2), (230, .aload_n 0, 1, 118, 0, 0, 0, 0), (231, .getfield 30, 3, 119, 0, 9, 9, 0), (234, .getfield 70, 3, 120, 0, 6, 2, 0), (237, .iconst 1, 1, 121, 0, 0, 0, 0), (238, .isub, 1, 122, 0, 0, 0, 0), (239, .istore 7, 2, 123, 0, 0, 0, 0), (241, .iconst 0, 1, 124, 0, 0, 0, 0), (242, .istore 8, 2, 125, 0, 0, 0, 0), (244, .iload 8, 2, 126, 0, 0, 0, 0), (246, .iload 7, 2, 127, 0, 0, 0, 0), (248, .if_icmp .gt 43, 3, 128, 146, 0, 0, 1)],
  [(251, .aload_n 0, 1, 129, 0, 0, 0, 0), (252, .iload 7, 2, 130, 0, 0, 0, 0), (254, .iload 8, 2, 131, 0, 0, 0, 0), (256, .invokevirtual 132, 3, 132, 0, 0, 82, 3), (259, .ifCond .eq 21, 3, 133, 141, 0, 0, 1), (262, .iload 8, 2, 134, 0, 0, 0, 0), (264, .iload 7, 2, 135, 0, 0, 0, 0), (266, .if_icmp .ge 19, 3, 136, 144, 0, 0, 1), (269, .aload_n 0, 1, 137, 0, 0, 0, 0), (270, .iload 8, 2, 138, 0, 0, 0, 0), (272, .iload 7, 2, 139, 0, 0, 0, 0), (274, .invokevirtual 132, 3, 140, 0, 0, 82, 3), (277, .ifCond .ne 8, 3, 141, 144, 0, 0, 1), (280, .aload_n 0, 1, 142, 0, 0, 0, 0), (281, .invokevirtual 91, 3, 143, 0, 0, 77, 3), (284, .ireturn, 1, 144, 0, 0, 0, 2)],
  [(285, .iinc 8 1, 3, 145, 0, 0, 0, 0), (288, .goto (-44), 3, 146, 125, 0, 0, 1), (291, .aload_n 0, 1, 147, 0, 0, 0, 0), (292, .getfield 33, 3, 148, 0, 9, 10, 0), (295, .getfield 70, 3, 149, 0, 6, 2, 0), (298, .bipush 60, 2, 150, 0, 0, 0, 0), (300, .if_icmp .le 8, 3, 151, 154, 0, 0, 1), (303, .aload_n 0, 1, 152, 0, 0, 0, 0), (304, .invokevirtual 91, 3, 153, 0, 0, 77, 3), (307, .ireturn, 1, 154, 0, 0, 0, 2), (308, .aload_n 0, 1, 155, 0, 0, 0, 0), (309, .invokevirtual 101, 3, 156, 0, 0, 79, 3), (312, .aload_n 0, 1, 157, 0, 0, 0, 0), (313, .invokevirtual 136, 3, 158, 0, 0, 84, 3), (316, .iconst 0, 1, 159, 0, 0, 0, 0), (317, .ireturn, 1, 160, 0, 0, 0, 2)]]
def ft_73 : List (List FI) := [[(0, .iconst 0, 1, 1, 0, 0, 0, 0), (1, .istore_n 1, 1, 2, 0, 0, 0, 0), (2, .iconst 1, 1, 3, 0, 0, 0, 0), (3, .istore_n 2, 1, 4, 0, 0, 0, 0), (4, .iload_n 2, 1, 5, 0, 0, 0, 0), (5, .aload_n 0, 1, 6, 0, 0, 0, 0), (6, .getfield 39, 3, 7, 0, 9, 12, 0), (9, .getfield 70, 3, 8, 0, 6, 2, 0), (12, .if_icmp .ge 58, 3, 9, 42, 0, 0, 1), (15, .aload_n 0, 1, 10, 0, 0, 0, 0), (16, .getfield 39, 3, 11, 0, 9, 12, 0), (19, .getfield 78, 3, 12, 0, 6, 0, 0), (22, .iload_n 2, 1, 13, 0, 0, 0, 0), (23, .aaload, 1, 14, 0, 0, 0, 0), (24, .arraylength, 1, 15, 0, 0, 0, 0), (25, .aload_n 0, 1, 16, 0, 0, 0, 0)],
  [(26, .getfield 39, 3, 17, 0, 9, 12, 0), (29, .getfield 88, 3, 18, 0, 6, 1, 0), (32, .iload_n 2, 1, 19, 0, 0, 0, 0), (33, .aaload, 1, 20, 0, 0, 0, 0), (34, .arraylength, 1, 21, 0, 0, 0, 0), (35, .iadd, 1, 22, 0, 0, 0, 0), (36, .istore_n 3, 1, 23, 0, 0, 0, 0), (37, .iload_n 3, 1, 24, 0, 0, 0, 0), (38, .aload_n 0, 1, 25, 0, 0, 0, 0), (39, .getfield 39, 3, 26, 0, 9, 12, 0), (42, .getfield 78, 3, 27, 0, 6, 0, 0), (45, .iload_n 1, 1, 28, 0, 0, 0, 0), (46, .aaload, 1, 29, 0, 0, 0, 0), (47, .arraylength, 1, 30, 0, 0, 0, 0), (48, .aload_n 0, 1, 31, 0, 0, 0, 0), (49, .getfield 39, 3, 32, 0, 9, 12, 0)],
  [(52, .getfield 88, 3, 33, 0, 6, 1, 0), (55, .iload_n 1, 1, 34, 0, 0, 0, 0), (56, .aaload, 1, 35, 0, 0, 0, 0), (57, .arraylength, 1, 36, 0, 0, 0, 0), (58, .iadd, 1, 37, 0, 0, 0, 0), (59, .if_icmp .ge 5, 3, 38, 40, 0, 0, 1), (62, .iload_n 2, 1, 39, 0, 0, 0, 0), (63, .istore_n 1, 1, 40, 0, 0, 0, 0), (64, .iinc 2 1, 3, 41, 0, 0, 0, 0), (67, .goto (-63), 3, 42, 4, 0, 0, 1), (70, .iload_n 1, 1, 43, 0, 0, 0, 0), (71, .ireturn, 1, 44, 0, 0, 0, 2)]]
def ft_74 : List (List FI) := [[(0, .aload_n 1, 1, 1, 0, 0, 0, 0), (1, .arraylength, 1, 2, 0, 0, 0, 0), (2, .bipush 24, 2, 3, 0, 0, 0, 0), (4, .if_icmp .le 5, 3, 4, 6, 0, 0, 1), (7, .aconst_null, 1, 5, 0, 0, 0, 0), (8, .areturn, 1, 6, 0, 0, 0, 2), (9, .aload_n 0, 1, 7, 0, 0, 0, 0), (10, .aload_n 2, 1, 8, 0, 0, 0, 0), (11, .putfield 27, 3, 9, 0, 7, 4, 0), (14, .aload_n 0, 1, 10, 0, 0, 0, 0), (15, .aload_n 1, 1, 11, 0, 0, 0, 0), (16, .arraylength, 1, 12, 0, 0, 0, 0), (17, .putfield 39, 3, 13, 0, 7, 5, 0), (20, .aload_n 0, 1, 14, 0, 0, 0, 0), (21, .iconst 0, 1, 15, 0, 0, 0, 0), (22, .putfield 43, 3, 16, 0, 7, 6, 0)],
  [(25, .aload_n 1, 1, 17, 0, 0, 0, 0), (26, .iconst 0, 1, 18, 0, 0, 0, 0), (27, .aload_n 0, 1, 19, 0, 0, 0, 0), (28, .getfield 9, 3, 20, 0, 7, 2, 0), (31, .iconst 0, 1, 21, 0, 0, 0, 0), (32, .aload_n 0, 1, 22, 0, 0, 0, 0), (33, .getfield 39, 3, 23, 0, 7, 5, 0), (36, .invokestatic 46, 3, 24, 0, 4, 0, 3), (39, .aload_n 0, 1, 25, 0, 0, 0, 0), (40, .iconst 0, 1, 26, 0, 0, 0, 0), (41, .iconst 0, 1, 27, 0, 0, 0, 0), (42, .invokevirtual 52, 3, 28, 0, 0, 75, 3), (45, .ifCond .ne 5, 3, 29, 31, 0, 0, 1), (48, .aconst_null, 1, 30, 0, 0, 0, 0), (49, .areturn, 1, 31, 0, 0, 0, 2), (50, .aload_n 0, 1, 32, 0, 0, 0, 0)],
  [(51, .getfield 43, 3, 33, 0, 7, 6, 0), (54, .ifCond .ne 7, 3, 34, 36, 0, 0, 1), (57, .aload_n 1, 1, 35, 0, 0, 0, 0), (58, .goto 14, 3, 36, 41, 0, 0, 1), (61, .aload_n 0, 1, 37, 0, 0, 0, 0), (62, .getfield 9, 3, 38, 0, 7, 2, 0), (65, .aload_n 0, 1, 39, 0, 0, 0, 0), (66, .getfield 39, 3, 40, 0, 7, 5, 0), (69, .invokestatic 56, 3, 41, 0, 1, 20, 3), (72, .areturn, 1, 42, 0, 0, 0, 2)]]
def ft_75 : List (List FI) := [[(0, .iload_n 2, 1, 1, 0, 0, 0, 0), (1, .bipush 24, 2, 2, 0, 0, 0, 0), (3, .if_icmp .le 5, 3, 3, 5, 0, 0, 1), (6, .iconst 0, 1, 4, 0, 0, 0, 0), (7, .ireturn, 1, 5, 0, 0, 0, 2), (8, .iconst 0, 1, 6, 0, 0, 0, 0), (9, .istore_n 3, 1, 7, 0, 0, 0, 0), (10, .iload_n 3, 1, 8, 0, 0, 0, 0), (11, .sipush 1000, 3, 9, 0, 0, 0, 0), (14, .if_icmp .gt 236, 3, 10, 136, 0, 0, 1), (17, .aload_n 0, 1, 11, 0, 0, 0, 0), (18, .getfield 31, 3, 12, 0, 7, 0, 0), (21, .aload_n 0, 1, 13, 0, 0, 0, 0), (22, .getfield 9, 3, 14, 0, 7, 2, 0), (25, .iload_n 1, 1, 15, 0, 0, 0, 0), (26, .iaload, 1, 16, 0, 0, 0, 0)],
  [(27, .invokevirtual 62, 3, 17, 0, 0, 18, 3), (30, .istore 4, 2, 18, 0, 0, 0, 0), (32, .iload 4, 2, 19, 0, 0, 0, 0), (34, .ifCond .le 18, 3, 20, 31, 0, 0, 1), (37, .aload_n 0, 1, 21, 0, 0, 0, 0), (38, .iload_n 1, 1, 22, 0, 0, 0, 0), (39, .iconst 1, 1, 23, 0, 0, 0, 0), (40, .iadd, 1, 24, 0, 0, 0, 0), (41, .iload_n 2, 1, 25, 0, 0, 0, 0), (42, .iconst 1, 1, 26, 0, 0, 0, 0), (43, .iadd, 1, 27, 0, 0, 0, 0), (44, .invokevirtual 52, 3, 28, 0, 0, 75, 3), (47, .ifCond .ne 5, 3, 29, 31, 0, 0, 1), (50, .iconst 0, 1, 30, 0, 0, 0, 0), (51, .ireturn, 1, 31, 0, 0, 0, 2), (52, .iload 4, 2, 32, 0, 0, 0, 0)],
  [(54, .iconst 1, 1, 33, 0, 0, 0, 0), (55, .if_icmp .le 29, 3, 34, 50, 0, 0, 1), (58, .aload_n 0, 1, 35, 0, 0, 0, 0), (59, .aload_n 0, 1, 36, 0, 0, 0, 0), (60, .getfield 31, 3, 37, 0, 7, 0, 0), (63, .aload_n 0, 1, 38, 0, 0, 0, 0), (64, .getfield 9, 3, 39, 0, 7, 2, 0), (67, .iload_n 1, 1, 40, 0, 0, 0, 0), (68, .iconst 1, 1, 41, 0, 0, 0, 0), (69, .iadd, 1, 42, 0, 0, 0, 0), (70, .invokevirtual 68, 3, 43, 0, 0, 33, 3), (73, .iload_n 2, 1, 44, 0, 0, 0, 0), (74, .iconst 1, 1, 45, 0, 0, 0, 0), (75, .iadd, 1, 46, 0, 0, 0, 0), (76, .invokevirtual 52, 3, 47, 0, 0, 75, 3), (79, .ifCond .ne 5, 3, 48, 50, 0, 0, 1)],
  [(82, .iconst 0, 1, 49, 0, 0, 0, 0), (83, .ireturn, 1, 50, 0, 0, 0, 2), (84, .aload_n 0, 1, 51, 0, 0, 0, 0), (85, .getfield 31, 3, 52, 0, 7, 0, 0), (88, .aload_n 0, 1, 53, 0, 0, 0, 0), (89, .getfield 9, 3, 54, 0, 7, 2, 0), (92, .iload_n 1, 1, 55, 0, 0, 0, 0), (93, .invokevirtual 68, 3, 56, 0, 0, 33, 3), (96, .istore 5, 2, 57, 0, 0, 0, 0), (98, .aload_n 0, 1, 58, 0, 0, 0, 0), (99, .getfield 31, 3, 59, 0, 7, 0, 0), (102, .aload_n 0, 1, 60, 0, 0, 0, 0), (103, .getfield 9, 3, 61, 0, 7, 2, 0), (106, .iload_n 1, 1, 62, 0, 0, 0, 0), (107, .iload 5, 2, 63, 0, 0, 0, 0), (109, .invokevirtual 72, 3, 64, 0, 0, 23, 3)],
  [(112, .iconst (-1), 1, 65, 0, 0, 0, 0), (113, .istore 6, 2, 66, 0, 0, 0, 0), (115, .iconst 0, 1, 67, 0, 0, 0, 0), (116, .istore 7, 2, 68, 0, 0, 0, 0), (118, .iload 7, 2, 69, 0, 0, 0, 0), (120, .aload_n 0, 1, 70, 0, 0, 0, 0), (121, .getfield 27, 3, 71, 0, 7, 4, 0), (124, .getfield 76, 3, 72, 0, 6, 2, 0), (127, .if_icmp .ge 87, 3, 73, 117, 0, 0, 1), (130, .iload 6, 2, 74, 0, 0, 0, 0), (132, .iconst (-1), 1, 75, 0, 0, 0, 0), (133, .if_icmp .ne 81, 3, 76, 117, 0, 0, 1), (136, .aload_n 0, 1, 77, 0, 0, 0, 0), (137, .getfield 27, 3, 78, 0, 7, 4, 0), (140, .getfield 79, 3, 79, 0, 6, 0, 0), (143, .iload 7, 2, 80, 0, 0, 0, 0)],
  [(145, .aaload, 1, 81, 0, 0, 0, 0), (146, .astore 8, 2, 82, 0, 0, 0, 0), (148, .aload 8, 2, 83, 0, 0, 0, 0), (150, .iconst 0, 1, 84, 0, 0, 0, 0), (151, .iaload, 1, 85, 0, 0, 0, 0), (152, .aload_n 0, 1, 86, 0, 0, 0, 0), (153, .getfield 9, 3, 87, 0, 7, 2, 0), (156, .iload_n 1, 1, 88, 0, 0, 0, 0), (157, .iaload, 1, 89, 0, 0, 0, 0), (158, .if_icmp .ne 50, 3, 90, 115, 0, 0, 1), (161, .aload 8, 2, 91, 0, 0, 0, 0), (163, .arraylength, 1, 92, 0, 0, 0, 0), (164, .iload 5, 2, 93, 0, 0, 0, 0), (166, .iload_n 1, 1, 94, 0, 0, 0, 0), (167, .isub, 1, 95, 0, 0, 0, 0), (168, .if_icmp .gt 40, 3, 96, 115, 0, 0, 1)],
  [(171, .aload_n 0, 1, 97, 0, 0, 0, 0), (172, .getfield 35, 3, 98, 0, 7, 1, 0), (175, .aload 8, 2, 99, 0, 0, 0, 0), (177, .aload_n 0, 1, 100, 0, 0, 0, 0), (178, .getfield 9, 3, 101, 0, 7, 2, 0), (181, .iload_n 1, 1, 102, 0, 0, 0, 0), (182, .invokevirtual 83, 3, 103, 0, 0, 40, 3), (185, .istore 9, 2, 104, 0, 0, 0, 0), (187, .iload 9, 2, 105, 0, 0, 0, 0), (189, .iconst (-1), 1, 106, 0, 0, 0, 0), (190, .if_icmp .ne 5, 3, 107, 109, 0, 0, 1), (193, .iconst 0, 1, 108, 0, 0, 0, 0), (194, .ireturn, 1, 109, 0, 0, 0, 2), (195, .iload 9, 2, 110, 0, 0, 0, 0), (197, .ifCond .le 8, 3, 111, 113, 0, 0, 1), (200, .iload 7, 2, 112, 0, 0, 0, 0)],
  [(202, .goto 4, 3, 113, 114, 0, 0, 1), (205, .iconst (-1), 1, 114, 0, 0, 0, 0), (206, .istore 6, 2, 115, 0, 0, 0, 0), (208, .iinc 7 1, 3, 116, 0, 0, 0, 0), (211, .goto (-93), 3, 117, 68, 0, 0, 1), (214, .iload 6, 2, 118, 0, 0, 0, 0), (216, .iconst (-1), 1, 119, 0, 0, 0, 0), (217, .if_icmp .ne 5, 3, 120, 122, 0, 0, 1), (220, .iconst 1, 1, 121, 0, 0, 0, 0), (221, .ireturn, 1, 122, 0, 0, 0, 2), (222, .aload_n 0, 1, 123, 0, 0, 0, 0), (223, .aload_n 0, 1, 124, 0, 0, 0, 0), (224, .getfield 27, 3, 125, 0, 7, 4, 0), (227, .getfield 89, 3, 126, 0, 6, 1, 0), (230, .iload 6, 2, 127, 0, 0, 0, 0), (232, .aaload, 1, 128, 0, 0, 0, 0)],
  [(233, .iload_n 1, 1, 129, 0, 0, 0, 0), (234, .iload 5, 2, 130, 0, 0, 0, 0), (236, .invokevirtual 92, 3, 131, 0, 0, 76, 3), (239, .ifCond .ne 5, 3, 132, 134, 0, 0, 1), (242, .iconst 0, 1, 133, 0, 0, 0, 0), (243, .ireturn, 1, 134, 0, 0, 0, 2), (244, .iinc 3 1, 3, 135, 0, 0, 0, 0), (247, .goto (-237), 3, 136, 7, 0, 0, 1), (250, .iconst 0, 1, 137, 0, 0, 0, 0), (251, .ireturn, 1, 138, 0, 0, 0, 2)]]
def ft_76 : List (List FI) := [[(0, .aload_n 0, 1, 1, 0, 0, 0, 0), (1, .getfield 20, 3, 2, 0, 7, 3, 0), (4, .iconst 0, 1, 3, 0, 0, 0, 0), (5, .putfield 96, 3, 4, 0, 4, 1, 0), (8, .iconst 0, 1, 5, 0, 0, 0, 0), (9, .istore 4, 2, 6, 0, 0, 0, 0), (11, .iload 4, 2, 7, 0, 0, 0, 0), (13, .aload_n 1, 1, 8, 0, 0, 0, 0), (14, .arraylength, 1, 9, 0, 0, 0, 0), (15, .if_icmp .ge 82, 3, 10, 49, 0, 0, 1), (18, .aload_n 1, 1, 11, 0, 0, 0, 0), (19, .iload 4, 2, 12, 0, 0, 0, 0), (21, .iaload, 1, 13, 0, 0, 0, 0), (22, .bipush 12, 2, 14, 0, 0, 0, 0), (24, .if_icmp .ge 18, 3, 15, 23, 0, 0, 1), (27, .aload_n 0, 1, 16, 0, 0, 0, 0)],
  [(28, .getfield 35, 3, 17, 0, 7, 1, 0), (31, .iconst 0, 1, 18, 0, 0, 0, 0), (32, .aload_n 1, 1, 19, 0, 0, 0, 0), (33, .iload 4, 2, 20, 0, 0, 0, 0), (35, .iaload, 1, 21, 0, 0, 0, 0), (36, .invokevirtual 97, 3, 22, 0, 0, 47, 3), (39, .goto 4, 3, 23, 24, 0, 0, 1), (42, .iconst (-1), 1, 24, 0, 0, 0, 0), (43, .istore 5, 2, 25, 0, 0, 0, 0), (45, .iload 5, 2, 26, 0, 0, 0, 0), (47, .iconst (-1), 1, 27, 0, 0, 0, 0), (48, .if_icmp .ne 17, 3, 28, 35, 0, 0, 1), (51, .aload_n 0, 1, 29, 0, 0, 0, 0), (52, .getfield 20, 3, 30, 0, 7, 3, 0), (55, .aload_n 1, 1, 31, 0, 0, 0, 0), (56, .iload 4, 2, 32, 0, 0, 0, 0)],
  [(58, .iaload, 1, 33, 0, 0, 0, 0), (59, .invokevirtual 101, 3, 34, 0, 0, 19, 3), (62, .goto 29, 3, 35, 47, 0, 0, 1), (65, .aload_n 0, 1, 36, 0, 0, 0, 0), (66, .getfield 20, 3, 37, 0, 7, 3, 0), (69, .aload_n 0, 1, 38, 0, 0, 0, 0), (70, .getfield 9, 3, 39, 0, 7, 2, 0), (73, .iload 5, 2, 40, 0, 0, 0, 0), (75, .aload_n 0, 1, 41, 0, 0, 0, 0), (76, .getfield 31, 3, 42, 0, 7, 0, 0), (79, .aload_n 0, 1, 43, 0, 0, 0, 0), (80, .getfield 9, 3, 44, 0, 7, 2, 0), (83, .iload 5, 2, 45, 0, 0, 0, 0), (85, .invokevirtual 68, 3, 46, 0, 0, 33, 3), (88, .invokevirtual 104, 3, 47, 0, 0, 21, 3), (91, .iinc 4 1, 3, 48, 0, 0, 0, 0)],
  [(94, .goto (-83), 3, 49, 6, 0, 0, 1), (97, .aload_n 0, 1, 50, 0, 0, 0, 0), (98, .dup, 1, 51, 0, 0, 0, 0), (99, .getfield 43, 3, 52, 0, 7, 6, 0), (102, .iconst 1, 1, 53, 0, 0, 0, 0), (103, .iadd, 1, 54, 0, 0, 0, 0), (104, .putfield 43, 3, 55, 0, 7, 6, 0), (107, .aload_n 0, 1, 56, 0, 0, 0, 0), (108, .getfield 39, 3, 57, 0, 7, 5, 0), (111, .iload_n 3, 1, 58, 0, 0, 0, 0), (112, .iload_n 2, 1, 59, 0, 0, 0, 0), (113, .isub, 1, 60, 0, 0, 0, 0), (114, .isub, 1, 61, 0, 0, 0, 0), (115, .aload_n 0, 1, 62, 0, 0, 0, 0), (116, .getfield 20, 3, 63, 0, 7, 3, 0), (119, .getfield 96, 3, 64, 0, 4, 1, 0)],
  [(122, .iadd, 1, 65, 0, 0, 0, 0), (123, .istore 4, 2, 66, 0, 0, 0, 0), (125, .aload_n 0, 1, 67, 0, 0, 0, 0), (126, .getfield 43, 3, 68, 0, 7, 6, 0), (129, .sipush 1000, 3, 69, 0, 0, 0, 0), (132, .if_icmp .gt 10, 3, 70, 73, 0, 0, 1), (135, .iload 4, 2, 71, 0, 0, 0, 0), (137, .bipush 24, 2, 72, 0, 0, 0, 0), (139, .if_icmp .le 5, 3, 73, 75, 0, 0, 1), (142, .iconst 0, 1, 74, 0, 0, 0, 0), (143, .ireturn, 1, 75, 0, 0, 0, 2), (144, .aload_n 0, 1, 76, 0, 0, 0, 0), (145, .getfield 9, 3, 77, 0, 7, 2, 0), (148, .iload_n 3, 1, 78, 0, 0, 0, 0), (149, .aload_n 0, 1, 79, 0, 0, 0, 0), (150, .getfield 9, 3, 80, 0, 7, 2, 0)],
  [(153, .iload_n 2, 1, 81, 0, 0, 0, 0), (154, .aload_n 0, 1, 82, 0, 0, 0, 0), (155, .getfield 20, 3, 83, 0, 7, 3, 0), (158, .getfield 96, 3, 84, 0, 4, 1, 0), (161, .iadd, 1, 85, 0, 0, 0, 0), (162, .aload_n 0, 1, 86, 0, 0, 0, 0), (163, .getfield 39, 3, 87, 0, 7, 5, 0), (166, .iload_n 3, 1, 88, 0, 0, 0, 0), (167, .isub, 1, 89, 0, 0, 0, 0), (168, .invokestatic 46, 3, 90, 0, 4, 0, 3), (171, .aload_n 0, 1, 91, 0, 0, 0, 0), (172, .getfield 20, 3, 92, 0, 7, 3, 0), (175, .getfield 107, 3, 93, 0, 4, 0, 0), (178, .iconst 0, 1, 94, 0, 0, 0, 0), (179, .aload_n 0, 1, 95, 0, 0, 0, 0), (180, .getfield 9, 3, 96, 0, 7, 2, 0)],
  [(183, .iload_n 2, 1, 97, 0, 0, 0, 0), (184, .aload_n 0, 1, 98, 0, 0, 0, 0), (185, .getfield 20, 3, 99, 0, 7, 3, 0), (188, .getfield 96, 3, 100, 0, 4, 1, 0), (191, .invokestatic 46, 3, 101, 0, 4, 0, 3), (194, .aload_n 0, 1, 102, 0, 0, 0, 0), (195, .iload 4, 2, 103, 0, 0, 0, 0), (197, .putfield 39, 3, 104, 0, 7, 5, 0), (200, .aload_n 0, 1, 105, 0, 0, 0, 0), (201, .getfield 31, 3, 106, 0, 7, 0, 0), (204, .aload_n 0, 1, 107, 0, 0, 0, 0), (205, .getfield 9, 3, 108, 0, 7, 2, 0), (208, .iload_n 2, 1, 109, 0, 0, 0, 0), (209, .iload_n 2, 1, 110, 0, 0, 0, 0), (210, .aload_n 0, 1, 111, 0, 0, 0, 0), (211, .getfield 20, 3, 112, 0, 7, 3, 0)],
  [(214, .getfield 96, 3, 113, 0, 4, 1, 0), (217, .iadd, 1, 114, 0, 0, 0, 0), (218, .invokevirtual 72, 3, 115, 0, 0, 23, 3), (221, .iconst 1, 1, 116, 0, 0, 0, 0), (222, .ireturn, 1, 117, 0, 0, 0, 2)]]
def ft_77 : List (List FI) := [[(0, .aload_n 0, 1, 1, 0, 0, 0, 0), (1, .iconst 1, 1, 2, 0, 0, 0, 0), (2, .putfield 66, 3, 3, 0, 9, 13, 0), (5, .iconst 2, 1, 4, 0, 0, 0, 0), (6, .ireturn, 1, 5, 0, 0, 0, 2)]]
def ft_78 : List (List FI) := [[(0, .aload_n 0, 1, 1, 0, 0, 0, 0), (1, .getfield 33, 3, 2, 0, 9, 10, 0), (4, .iconst 0, 1, 3, 0, 0, 0, 0), (5, .putfield 70, 3, 4, 0, 6, 2, 0), (8, .iconst 0, 1, 5, 0, 0, 0, 0), (9, .istore_n 2, 1, 6, 0, 0, 0, 0), (10, .iload_n 2, 1, 7, 0, 0, 0, 0), (11, .aload_n 0, 1, 8, 0, 0, 0, 0), (12, .getfield 39, 3, 9, 0, 9, 12, 0), (15, .getfield 70, 3, 10, 0, 6, 2, 0), (18, .if_icmp .ge 39, 3, 11, 29, 0, 0, 1), (21, .iload_n 2, 1, 12, 0, 0, 0, 0), (22, .iload_n 1, 1, 13, 0, 0, 0, 0), (23, .if_icmp .eq 28, 3, 14, 27, 0, 0, 1), (26, .aload_n 0, 1, 15, 0, 0, 0, 0), (27, .getfield 33, 3, 16, 0, 9, 10, 0)],
  [(30, .aload_n 0, 1, 17, 0, 0, 0, 0), (31, .getfield 39, 3, 18, 0, 9, 12, 0), (34, .getfield 78, 3, 19, 0, 6, 0, 0), (37, .iload_n 2, 1, 20, 0, 0, 0, 0), (38, .aaload, 1, 21, 0, 0, 0, 0), (39, .aload_n 0, 1, 22, 0, 0, 0, 0), (40, .getfield 39, 3, 23, 0, 9, 12, 0), (43, .getfield 88, 3, 24, 0, 6, 1, 0), (46, .iload_n 2, 1, 25, 0, 0, 0, 0), (47, .aaload, 1, 26, 0, 0, 0, 0), (48, .invokevirtual 124, 3, 27, 0, 0, 69, 3), (51, .iinc 2 1, 3, 28, 0, 0, 0, 0), (54, .goto (-44), 3, 29, 6, 0, 0, 1), (57, .return_, 1, 30, 0, 0, 0, 2)]]
def ft_79 : List (List FI) := [[(0, .aload_n 0, 1, 1, 0, 0, 0, 0), (1, .getfield 39, 3, 2, 0, 9, 12, 0), (4, .astore_n 1, 1, 3, 0, 0, 0, 0), (5, .aload_n 0, 1, 4, 0, 0, 0, 0), (6, .aload_n 0, 1, 5, 0, 0, 0, 0), (7, .getfield 33, 3, 6, 0, 9, 10, 0), (10, .putfield 39, 3, 7, 0, 9, 12, 0), (13, .aload_n 0, 1, 8, 0, 0, 0, 0), (14, .aload_n 1, 1, 9, 0, 0, 0, 0), (15, .putfield 33, 3, 10, 0, 9, 10, 0), (18, .return_, 1, 11, 0, 0, 0, 2)]]
def ft_80 : List (List FI) := [[(0, .aload_n 0, 1, 1, 0, 0, 0, 0), (1, .getfield 26, 3, 2, 0, 9, 8, 0), (4, .iconst 0, 1, 3, 0, 0, 0, 0), (5, .putfield 70, 3, 4, 0, 6, 2, 0), (8, .iconst 0, 1, 5, 0, 0, 0, 0), (9, .istore_n 2, 1, 6, 0, 0, 0, 0), (10, .iload_n 2, 1, 7, 0, 0, 0, 0), (11, .aload_n 0, 1, 8, 0, 0, 0, 0), (12, .getfield 36, 3, 9, 0, 9, 11, 0), (15, .getfield 70, 3, 10, 0, 6, 2, 0), (18, .if_icmp .ge 125, 3, 11, 76, 0, 0, 1), (21, .aload_n 0, 1, 12, 0, 0, 0, 0), (22, .getfield 36, 3, 13, 0, 9, 11, 0), (25, .getfield 78, 3, 14, 0, 6, 0, 0), (28, .iload_n 2, 1, 15, 0, 0, 0, 0), (29, .aaload, 1, 16, 0, 0, 0, 0)],
  [(30, .astore_n 3, 1, 17, 0, 0, 0, 0), (31, .iconst 0, 1, 18, 0, 0, 0, 0), (32, .istore 4, 2, 19, 0, 0, 0, 0), (34, .iconst 0, 1, 20, 0, 0, 0, 0), (35, .istore 5, 2, 21, 0, 0, 0, 0), (37, .iload 5, 2, 22, 0, 0, 0, 0), (39, .aload_n 3, 1, 23, 0, 0, 0, 0), (40, .arraylength, 1, 24, 0, 0, 0, 0), (41, .if_icmp .ge 55, 3, 25, 53, 0, 0, 1), (44, .iload 4, 2, 26, 0, 0, 0, 0), (46, .ifCond .ne 50, 3, 27, 53, 0, 0, 1), (49, .aload_n 3, 1, 28, 0, 0, 0, 0), (50, .iload 5, 2, 29, 0, 0, 0, 0), (52, .iaload, 1, 30, 0, 0, 0, 0), (53, .aload_n 1, 1, 31, 0, 0, 0, 0), (54, .iconst 0, 1, 32, 0, 0, 0, 0)],
  [(55, .iaload, 1, 33, 0, 0, 0, 0), (56, .if_icmp .ne 34, 3, 34, 51, 0, 0, 1), (59, .aload_n 0, 1, 35, 0, 0, 0, 0), (60, .getfield 42, 3, 36, 0, 9, 0, 0), (63, .aload_n 3, 1, 37, 0, 0, 0, 0), (64, .iload 5, 2, 38, 0, 0, 0, 0), (66, .invokevirtual 139, 3, 39, 0, 0, 33, 3), (69, .iload 5, 2, 40, 0, 0, 0, 0), (71, .isub, 1, 41, 0, 0, 0, 0), (72, .aload_n 1, 1, 42, 0, 0, 0, 0), (73, .arraylength, 1, 43, 0, 0, 0, 0), (74, .if_icmp .lt 16, 3, 44, 51, 0, 0, 1), (77, .aload_n 0, 1, 45, 0, 0, 0, 0), (78, .getfield 50, 3, 46, 0, 9, 2, 0), (81, .aload_n 1, 1, 47, 0, 0, 0, 0), (82, .aload_n 3, 1, 48, 0, 0, 0, 0)],
  [(83, .iload 5, 2, 49, 0, 0, 0, 0), (85, .invokevirtual 145, 3, 50, 0, 0, 40, 3), (88, .istore 4, 2, 51, 0, 0, 0, 0), (90, .iinc 5 1, 3, 52, 0, 0, 0, 0), (93, .goto (-56), 3, 53, 21, 0, 0, 1), (96, .iload 4, 2, 54, 0, 0, 0, 0), (98, .iconst (-1), 1, 55, 0, 0, 0, 0), (99, .if_icmp .ne 5, 3, 56, 58, 0, 0, 1), (102, .iconst 0, 1, 57, 0, 0, 0, 0), (103, .ireturn, 1, 58, 0, 0, 0, 2), (104, .iload 4, 2, 59, 0, 0, 0, 0), (106, .ifCond .le 10, 3, 60, 63, 0, 0, 1), (109, .aload_n 0, 1, 61, 0, 0, 0, 0), (110, .getfield 33, 3, 62, 0, 9, 10, 0), (113, .goto 7, 3, 63, 65, 0, 0, 1), (116, .aload_n 0, 1, 64, 0, 0, 0, 0)],
  [(117, .getfield 26, 3, 65, 0, 9, 8, 0), (120, .astore 5, 2, 66, 0, 0, 0, 0), (122, .aload 5, 2, 67, 0, 0, 0, 0), (124, .aload_n 3, 1, 68, 0, 0, 0, 0), (125, .aload_n 0, 1, 69, 0, 0, 0, 0), (126, .getfield 36, 3, 70, 0, 9, 11, 0), (129, .getfield 88, 3, 71, 0, 6, 1, 0), (132, .iload_n 2, 1, 72, 0, 0, 0, 0), (133, .aaload, 1, 73, 0, 0, 0, 0), (134, .invokevirtual 124, 3, 74, 0, 0, 69, 3), (137, .iinc 2 1, 3, 75, 0, 0, 0, 0), (140, .goto (-130), 3, 76, 6, 0, 0, 1), (143, .iconst 1, 1, 77, 0, 0, 0, 0), (144, .ireturn, 1, 78, 0, 0, 0, 2)]]
def ft_81 : List (List FI) := [[(0, .aload_n 0, 1, 1, 0, 0, 0, 0), (1, .getfield 30, 3, 2, 0, 9, 9, 0), (4, .iconst 0, 1, 3, 0, 0, 0, 0), (5, .putfield 70, 3, 4, 0, 6, 2, 0), (8, .aload_n 0, 1, 5, 0, 0, 0, 0), (9, .getfield 26, 3, 6, 0, 9, 8, 0), (12, .getfield 70, 3, 7, 0, 6, 2, 0), (15, .iconst 1, 1, 8, 0, 0, 0, 0), (16, .isub, 1, 9, 0, 0, 0, 0), (17, .istore_n 1, 1, 10, 0, 0, 0, 0), (18, .iconst 0, 1, 11, 0, 0, 0, 0), (19, .istore_n 2, 1, 12, 0, 0, 0, 0), (20, .iload_n 2, 1, 13, 0, 0, 0, 0), (21, .iload_n 1, 1, 14, 0, 0, 0, 0), (22, .if_icmp .ge 53, 3, 15, 41, 0, 0, 1), (25, .aload_n 0, 1, 16, 0, 0, 0, 0)],
  [(26, .getfield 54, 3, 17, 0, 9, 3, 0), (29, .aload_n 0, 1, 18, 0, 0, 0, 0), (30, .getfield 26, 3, 19, 0, 9, 8, 0), (33, .getfield 88, 3, 20, 0, 6, 1, 0), (36, .iload_n 2, 1, 21, 0, 0, 0, 0), (37, .aaload, 1, 22, 0, 0, 0, 0), (38, .aload_n 0, 1, 23, 0, 0, 0, 0), (39, .getfield 26, 3, 24, 0, 9, 8, 0), (42, .invokevirtual 82, 3, 25, 0, 0, 74, 3), (45, .astore_n 3, 1, 26, 0, 0, 0, 0), (46, .aload_n 3, 1, 27, 0, 0, 0, 0), (47, .ifnonnull 5, 3, 28, 30, 0, 0, 1), (50, .iconst 0, 1, 29, 0, 0, 0, 0), (51, .ireturn, 1, 30, 0, 0, 0, 2), (52, .aload_n 0, 1, 31, 0, 0, 0, 0), (53, .getfield 30, 3, 32, 0, 9, 9, 0)],
  [(56, .aload_n 0, 1, 33, 0, 0, 0, 0), (57, .getfield 26, 3, 34, 0, 9, 8, 0), (60, .getfield 78, 3, 35, 0, 6, 0, 0), (63, .iload_n 2, 1, 36, 0, 0, 0, 0), (64, .aaload, 1, 37, 0, 0, 0, 0), (65, .aload_n 3, 1, 38, 0, 0, 0, 0), (66, .invokevirtual 124, 3, 39, 0, 0, 69, 3), (69, .iinc 2 1, 3, 40, 0, 0, 0, 0), (72, .goto (-52), 3, 41, 12, 0, 0, 1), (75, .aload_n 0, 1, 42, 0, 0, 0, 0), (76, .getfield 30, 3, 43, 0, 9, 9, 0), (79, .aload_n 0, 1, 44, 0, 0, 0, 0), (80, .getfield 26, 3, 45, 0, 9, 8, 0), (83, .getfield 78, 3, 46, 0, 6, 0, 0), (86, .iload_n 1, 1, 47, 0, 0, 0, 0), (87, .aaload, 1, 48, 0, 0, 0, 0)],
  [(88, .aload_n 0, 1, 49, 0, 0, 0, 0), (89, .getfield 26, 3, 50, 0, 9, 8, 0), (92, .getfield 88, 3, 51, 0, 6, 1, 0), (95, .iload_n 1, 1, 52, 0, 0, 0, 0), (96, .aaload, 1, 53, 0, 0, 0, 0), (97, .invokevirtual 124, 3, 54, 0, 0, 69, 3), (100, .iconst 1, 1, 55, 0, 0, 0, 0), (101, .ireturn, 1, 56, 0, 0, 0, 2)]]
def ft_82 : List (List FI) := [[(0, .aload_n 0, 1, 1, 0, 0, 0, 0), (1, .getfield 30, 3, 2, 0, 9, 9, 0), (4, .getfield 78, 3, 3, 0, 6, 0, 0), (7, .iload_n 1, 1, 4, 0, 0, 0, 0), (8, .aaload, 1, 5, 0, 0, 0, 0), (9, .astore_n 3, 1, 6, 0, 0, 0, 0), (10, .aload_n 0, 1, 7, 0, 0, 0, 0), (11, .getfield 30, 3, 8, 0, 9, 9, 0), (14, .getfield 78, 3, 9, 0, 6, 0, 0), (17, .iload_n 2, 1, 10, 0, 0, 0, 0), (18, .aaload, 1, 11, 0, 0, 0, 0), (19, .astore 4, 2, 12, 0, 0, 0, 0), (21, .iconst 0, 1, 13, 0, 0, 0, 0), (22, .istore 5, 2, 14, 0, 0, 0, 0), (24, .iload 5, 2, 15, 0, 0, 0, 0), (26, .aload 4, 2, 16, 0, 0, 0, 0)],
  [(28, .arraylength, 1, 17, 0, 0, 0, 0), (29, .if_icmp .ge 76, 3, 18, 56, 0, 0, 1), (32, .aload 4, 2, 19, 0, 0, 0, 0), (34, .iload 5, 2, 20, 0, 0, 0, 0), (36, .iaload, 1, 21, 0, 0, 0, 0), (37, .aload_n 3, 1, 22, 0, 0, 0, 0), (38, .iconst 0, 1, 23, 0, 0, 0, 0), (39, .iaload, 1, 24, 0, 0, 0, 0), (40, .if_icmp .ne 59, 3, 25, 54, 0, 0, 1), (43, .aload_n 0, 1, 26, 0, 0, 0, 0), (44, .getfield 58, 3, 27, 0, 9, 4, 0), (47, .aload_n 3, 1, 28, 0, 0, 0, 0), (48, .bipush 6, 2, 29, 0, 0, 0, 0), (50, .aload 4, 2, 30, 0, 0, 0, 0), (52, .iload 5, 2, 31, 0, 0, 0, 0), (54, .invokevirtual 151, 3, 32, 0, 0, 52, 3)],
  [(57, .istore 6, 2, 33, 0, 0, 0, 0), (59, .iload 6, 2, 34, 0, 0, 0, 0), (61, .bipush 33, 2, 35, 0, 0, 0, 0), (63, .if_icmp .ne 5, 3, 36, 38, 0, 0, 1), (66, .iconst 0, 1, 37, 0, 0, 0, 0), (67, .ireturn, 1, 38, 0, 0, 0, 2), (68, .iconst 0, 1, 39, 0, 0, 0, 0), (69, .istore 7, 2, 40, 0, 0, 0, 0), (71, .iload 7, 2, 41, 0, 0, 0, 0), (73, .iload 6, 2, 42, 0, 0, 0, 0), (75, .if_icmp .ge 24, 3, 43, 54, 0, 0, 1), (78, .aload_n 0, 1, 44, 0, 0, 0, 0), (79, .iload_n 1, 1, 45, 0, 0, 0, 0), (80, .iload_n 2, 1, 46, 0, 0, 0, 0), (81, .iload 5, 2, 47, 0, 0, 0, 0), (83, .iload 7, 2, 48, 0, 0, 0, 0)],
  [(85, .invokevirtual 156, 3, 49, 0, 0, 83, 3), (88, .ifCond .ne 5, 3, 50, 52, 0, 0, 1), (91, .iconst 0, 1, 51, 0, 0, 0, 0), (92, .ireturn, 1, 52, 0, 0, 0, 2), (93, .iinc 7 1, 3, 53, 0, 0, 0, 0), (96, .goto (-25), 3, 54, 40, 0, 0, 1), (99, .iinc 5 1, 3, 55, 0, 0, 0, 0), (102, .goto (-78), 3, 56, 14, 0, 0, 1), (105, .iconst 1, 1, 57, 0, 0, 0, 0), (106, .ireturn, 1, 58, 0, 0, 0, 2)]]
def ft_83 : List (List FI) := [[(0, .aload_n 0, 1, 1, 0, 0, 0, 0), (1, .getfield 30, 3, 2, 0, 9, 9, 0), (4, .getfield 88, 3, 3, 0, 6, 1, 0), (7, .iload_n 1, 1, 4, 0, 0, 0, 0), (8, .aaload, 1, 5, 0, 0, 0, 0), (9, .astore 5, 2, 6, 0, 0, 0, 0), (11, .aload_n 0, 1, 7, 0, 0, 0, 0), (12, .getfield 30, 3, 8, 0, 9, 9, 0), (15, .getfield 78, 3, 9, 0, 6, 0, 0), (18, .iload_n 2, 1, 10, 0, 0, 0, 0), (19, .aaload, 1, 11, 0, 0, 0, 0), (20, .astore 6, 2, 12, 0, 0, 0, 0), (22, .aload_n 0, 1, 13, 0, 0, 0, 0), (23, .getfield 30, 3, 14, 0, 9, 9, 0), (26, .getfield 88, 3, 15, 0, 6, 1, 0), (29, .iload_n 2, 1, 16, 0, 0, 0, 0)],
  [(30, .aaload, 1, 17, 0, 0, 0, 0), (31, .astore 7, 2, 18, 0, 0, 0, 0), (33, .aload_n 0, 1, 19, 0, 0, 0, 0), (34, .getfield 42, 3, 20, 0, 9, 0, 0), (37, .aload 6, 2, 21, 0, 0, 0, 0), (39, .iload_n 3, 1, 22, 0, 0, 0, 0), (40, .invokevirtual 139, 3, 23, 0, 0, 33, 3), (43, .istore 8, 2, 24, 0, 0, 0, 0), (45, .aload_n 0, 1, 25, 0, 0, 0, 0), (46, .getfield 14, 3, 26, 0, 9, 6, 0), (49, .iconst 0, 1, 27, 0, 0, 0, 0), (50, .putfield 160, 3, 28, 0, 4, 1, 0), (53, .aload_n 0, 1, 29, 0, 0, 0, 0), (54, .getfield 58, 3, 30, 0, 9, 4, 0), (57, .aload_n 0, 1, 31, 0, 0, 0, 0), (58, .getfield 14, 3, 32, 0, 9, 6, 0)],
  [(61, .aload 6, 2, 33, 0, 0, 0, 0), (63, .iconst 0, 1, 34, 0, 0, 0, 0), (64, .iload_n 3, 1, 35, 0, 0, 0, 0), (65, .iconst 0, 1, 36, 0, 0, 0, 0), (66, .iload 4, 2, 37, 0, 0, 0, 0), (68, .invokevirtual 163, 3, 38, 0, 0, 65, 3), (71, .aload_n 0, 1, 39, 0, 0, 0, 0), (72, .getfield 58, 3, 40, 0, 9, 4, 0), (75, .aload_n 0, 1, 41, 0, 0, 0, 0), (76, .getfield 14, 3, 42, 0, 9, 6, 0), (79, .aload 5, 2, 43, 0, 0, 0, 0), (81, .iconst 0, 1, 44, 0, 0, 0, 0), (82, .aload 5, 2, 45, 0, 0, 0, 0), (84, .arraylength, 1, 46, 0, 0, 0, 0), (85, .bipush 6, 2, 47, 0, 0, 0, 0), (87, .iload 4, 2, 48, 0, 0, 0, 0)],
  [(89, .invokevirtual 163, 3, 49, 0, 0, 65, 3), (92, .aload_n 0, 1, 50, 0, 0, 0, 0), (93, .getfield 58, 3, 51, 0, 9, 4, 0), (96, .aload_n 0, 1, 52, 0, 0, 0, 0), (97, .getfield 14, 3, 53, 0, 9, 6, 0), (100, .aload 6, 2, 54, 0, 0, 0, 0), (102, .iload 8, 2, 55, 0, 0, 0, 0), (104, .aload 6, 2, 56, 0, 0, 0, 0), (106, .arraylength, 1, 57, 0, 0, 0, 0), (107, .iconst 0, 1, 58, 0, 0, 0, 0), (108, .iload 4, 2, 59, 0, 0, 0, 0), (110, .invokevirtual 163, 3, 60, 0, 0, 65, 3), (113, .aload_n 0, 1, 61, 0, 0, 0, 0), (114, .getfield 20, 3, 62, 0, 9, 7, 0), (117, .iconst 0, 1, 63, 0, 0, 0, 0), (118, .putfield 160, 3, 64, 0, 4, 1, 0)],
  [(121, .aload_n 0, 1, 65, 0, 0, 0, 0), (122, .getfield 58, 3, 66, 0, 9, 4, 0), (125, .aload_n 0, 1, 67, 0, 0, 0, 0), (126, .getfield 20, 3, 68, 0, 9, 7, 0), (129, .aload 7, 2, 69, 0, 0, 0, 0), (131, .iconst 0, 1, 70, 0, 0, 0, 0), (132, .aload 7, 2, 71, 0, 0, 0, 0), (134, .arraylength, 1, 72, 0, 0, 0, 0), (135, .iconst 0, 1, 73, 0, 0, 0, 0), (136, .iload 4, 2, 74, 0, 0, 0, 0), (138, .invokevirtual 163, 3, 75, 0, 0, 65, 3), (141, .aload_n 0, 1, 76, 0, 0, 0, 0), (142, .getfield 14, 3, 77, 0, 9, 6, 0), (145, .getfield 160, 3, 78, 0, 4, 1, 0), (148, .bipush 24, 2, 79, 0, 0, 0, 0), (150, .if_icmp .gt 15, 3, 80, 85, 0, 0, 1)],
  [(153, .aload_n 0, 1, 81, 0, 0, 0, 0), (154, .getfield 20, 3, 82, 0, 9, 7, 0), (157, .getfield 160, 3, 83, 0, 4, 1, 0), (160, .bipush 24, 2, 84, 0, 0, 0, 0), (162, .if_icmp .le 5, 3, 85, 87, 0, 0, 1), (165, .iconst 0, 1, 86, 0, 0, 0, 0), (166, .ireturn, 1, 87, 0, 0, 0, 2), (167, .aload_n 0, 1, 88, 0, 0, 0, 0), (168, .getfield 42, 3, 89, 0, 9, 0, 0), (171, .aload_n 0, 1, 90, 0, 0, 0, 0), (172, .getfield 14, 3, 91, 0, 9, 6, 0), (175, .getfield 167, 3, 92, 0, 4, 0, 0), (178, .iconst 0, 1, 93, 0, 0, 0, 0), (179, .aload_n 0, 1, 94, 0, 0, 0, 0), (180, .getfield 14, 3, 95, 0, 9, 6, 0), (183, .getfield 160, 3, 96, 0, 4, 1, 0)],
  [(186, .invokevirtual 170, 3, 97, 0, 0, 23, 3), (189, .aload_n 0, 1, 98, 0, 0, 0, 0), (190, .getfield 42, 3, 99, 0, 9, 0, 0), (193, .aload_n 0, 1, 100, 0, 0, 0, 0), (194, .getfield 20, 3, 101, 0, 9, 7, 0), (197, .getfield 167, 3, 102, 0, 4, 0, 0), (200, .iconst 0, 1, 103, 0, 0, 0, 0), (201, .aload_n 0, 1, 104, 0, 0, 0, 0), (202, .getfield 20, 3, 105, 0, 9, 7, 0), (205, .getfield 160, 3, 106, 0, 4, 1, 0), (208, .invokevirtual 170, 3, 107, 0, 0, 23, 3), (211, .aload_n 0, 1, 108, 0, 0, 0, 0), (212, .getfield 62, 3, 109, 0, 9, 5, 0), (215, .aload_n 0, 1, 110, 0, 0, 0, 0), (216, .getfield 14, 3, 111, 0, 9, 6, 0), (219, .getfield 167, 3, 112, 0, 4, 0, 0)],
  [(222, .aload_n 0, 1, 113, 0, 0, 0, 0), (223, .getfield 14, 3, 114, 0, 9, 6, 0), (226, .getfield 160, 3, 115, 0, 4, 1, 0), (229, .aload_n 0, 1, 116, 0, 0, 0, 0), (230, .getfield 20, 3, 117, 0, 9, 7, 0), (233, .getfield 167, 3, 118, 0, 4, 0, 0), (236, .aload_n 0, 1, 119, 0, 0, 0, 0), (237, .getfield 20, 3, 120, 0, 9, 7, 0), (240, .getfield 160, 3, 121, 0, 4, 1, 0), (243, .invokevirtual 109, 3, 122, 0, 0, 67, 3), (246, .ifCond .ne 5, 3, 123, 125, 0, 0, 1), (249, .iconst 0, 1, 124, 0, 0, 0, 0), (250, .ireturn, 1, 125, 0, 0, 0, 2), (251, .aload_n 0, 1, 126, 0, 0, 0, 0), (252, .getfield 33, 3, 127, 0, 9, 10, 0), (255, .aload_n 0, 1, 128, 0, 0, 0, 0)],
  [(256, .getfield 62, 3, 129, 0, 9, 5, 0), (259, .getfield 115, 3, 130, 0, 8, 3, 0), (262, .aload_n 0, 1, 131, 0, 0, 0, 0), (263, .getfield 62, 3, 132, 0, 9, 5, 0), (266, .getfield 122, 3, 133, 0, 8, 4, 0), (269, .invokevirtual 124, 3, 134, 0, 0, 69, 3), (272, .iconst 1, 1, 135, 0, 0, 0, 0), (273, .ireturn, 1, 136, 0, 0, 0, 2)]]
def ft_84 : List (List FI) := [[(0, .aload_n 0, 1, 1, 0, 0, 0, 0), (1, .getfield 36, 3, 2, 0, 9, 11, 0), (4, .astore_n 1, 1, 3, 0, 0, 0, 0), (5, .aload_n 0, 1, 4, 0, 0, 0, 0), (6, .aload_n 0, 1, 5, 0, 0, 0, 0), (7, .getfield 30, 3, 6, 0, 9, 9, 0), (10, .putfield 36, 3, 7, 0, 9, 11, 0), (13, .aload_n 0, 1, 8, 0, 0, 0, 0), (14, .aload_n 1, 1, 9, 0, 0, 0, 0), (15, .putfield 30, 3, 10, 0, 9, 9, 0), (18, .return_, 1, 11, 0, 0, 0, 2)]]
def ft_85 : List (List FI) := [[(0, .aload_n 0, 1, 1, 0, 0, 0, 0), (1, .getfield 65, 3, 2, 0, 10, 5, 0), (4, .getfield 182, 3, 3, 0, 9, 11, 0), (7, .getfield 152, 3, 4, 0, 6, 2, 0), (10, .ireturn, 1, 5, 0, 0, 0, 2)]]
def ft_86 : List (List FI) := [[(0, .aload_n 0, 1, 1, 0, 0, 0, 0), (1, .aload_n 0, 1, 2, 0, 0, 0, 0), (2, .getfield 65, 3, 3, 0, 10, 5, 0), (5, .getfield 182, 3, 4, 0, 9, 11, 0), (8, .iload_n 1, 1, 5, 0, 0, 0, 0), (9, .iload_n 2, 1, 6, 0, 0, 0, 0), (10, .iload_n 3, 1, 7, 0, 0, 0, 0), (11, .invokevirtual 185, 3, 8, 0, 0, 87, 3), (14, .ireturn, 1, 9, 0, 0, 0, 2)]]
def ft_87 : List (List FI) := [[(0, .iload_n 2, 1, 1, 0, 0, 0, 0), (1, .ifCond .lt 19, 3, 2, 9, 0, 0, 1), (4, .iload_n 2, 1, 3, 0, 0, 0, 0), (5, .aload_n 1, 1, 4, 0, 0, 0, 0), (6, .getfield 152, 3, 5, 0, 6, 2, 0), (9, .if_icmp .ge 11, 3, 6, 9, 0, 0, 1), (12, .iload 4, 2, 7, 0, 0, 0, 0), (14, .invokestatic 88, 3, 8, 0, 1, 14, 3), (17, .ifCond .ne 5, 3, 9, 11, 0, 0, 1), (20, .iconst 0, 1, 10, 0, 0, 0, 0), (21, .ireturn, 1, 11, 0, 0, 0, 2), (22, .aload_n 0, 1, 12, 0, 0, 0, 0), (23, .getfield 80, 3, 13, 0, 10, 8, 0), (26, .iload 4, 2, 14, 0, 0, 0, 0), (28, .iload_n 3, 1, 15, 0, 0, 0, 0), (29, .ifCond .eq 12, 3, 16, 21, 0, 0, 1)],
  [(32, .aload_n 1, 1, 17, 0, 0, 0, 0), (33, .getfield 203, 3, 18, 0, 6, 1, 0), (36, .iload_n 2, 1, 19, 0, 0, 0, 0), (37, .aaload, 1, 20, 0, 0, 0, 0), (38, .goto 9, 3, 21, 25, 0, 0, 1), (41, .aload_n 1, 1, 22, 0, 0, 0, 0), (42, .getfield 205, 3, 23, 0, 6, 0, 0), (45, .iload_n 2, 1, 24, 0, 0, 0, 0), (46, .aaload, 1, 25, 0, 0, 0, 0), (47, .aastore, 1, 26, 0, 0, 0, 0), (48, .iconst 1, 1, 27, 0, 0, 0, 0), (49, .ireturn, 1, 28, 0, 0, 0, 2)]]
def ft_88 : List (List FI) := [[(0, .aload_n 0, 1, 1, 0, 0, 0, 0), (1, .getfield 65, 3, 2, 0, 10, 5, 0), (4, .getfield 148, 3, 3, 0, 9, 12, 0), (7, .getfield 152, 3, 4, 0, 6, 2, 0), (10, .ireturn, 1, 5, 0, 0, 0, 2)]]
def ft_89 : List (List FI) := [[(0, .aload_n 0, 1, 1, 0, 0, 0, 0), (1, .aload_n 0, 1, 2, 0, 0, 0, 0), (2, .getfield 65, 3, 3, 0, 10, 5, 0), (5, .getfield 148, 3, 4, 0, 9, 12, 0), (8, .iload_n 1, 1, 5, 0, 0, 0, 0), (9, .iload_n 2, 1, 6, 0, 0, 0, 0), (10, .iload_n 3, 1, 7, 0, 0, 0, 0), (11, .invokevirtual 185, 3, 8, 0, 0, 87, 3), (14, .ireturn, 1, 9, 0, 0, 0, 2)]]
def ft_90 : List (List FI) := [[(0, .iload_n 1, 1, 1, 0, 0, 0, 0), (1, .invokestatic 88, 3, 2, 0, 1, 14, 3), (4, .ifCond .eq 10, 3, 3, 6, 0, 0, 1), (7, .iload_n 2, 1, 4, 0, 0, 0, 0), (8, .invokestatic 88, 3, 5, 0, 1, 14, 3), (11, .ifCond .ne 5, 3, 6, 8, 0, 0, 1), (14, .iconst 0, 1, 7, 0, 0, 0, 0), (15, .ireturn, 1, 8, 0, 0, 0, 2), (16, .aload_n 0, 1, 9, 0, 0, 0, 0), (17, .getfield 49, 3, 10, 0, 10, 4, 0), (20, .aload_n 0, 1, 11, 0, 0, 0, 0), (21, .getfield 80, 3, 12, 0, 10, 8, 0), (24, .iload_n 1, 1, 13, 0, 0, 0, 0), (25, .aaload, 1, 14, 0, 0, 0, 0), (26, .aload_n 0, 1, 15, 0, 0, 0, 0), (27, .getfield 65, 3, 16, 0, 10, 5, 0)],
  [(30, .getfield 182, 3, 17, 0, 9, 11, 0), (33, .invokevirtual 189, 3, 18, 0, 0, 74, 3), (36, .astore_n 3, 1, 19, 0, 0, 0, 0), (37, .aload_n 3, 1, 20, 0, 0, 0, 0), (38, .ifnonnull 5, 3, 21, 23, 0, 0, 1), (41, .iconst 0, 1, 22, 0, 0, 0, 0), (42, .ireturn, 1, 23, 0, 0, 0, 2), (43, .aload_n 0, 1, 24, 0, 0, 0, 0), (44, .getfield 80, 3, 25, 0, 10, 8, 0), (47, .iload_n 2, 1, 26, 0, 0, 0, 0), (48, .aload_n 3, 1, 27, 0, 0, 0, 0), (49, .aastore, 1, 28, 0, 0, 0, 0), (50, .iconst 1, 1, 29, 0, 0, 0, 0), (51, .ireturn, 1, 30, 0, 0, 0, 2)]]
def ft_91 : List (List FI) := [[(0, .iload_n 1, 1, 1, 0, 0, 0, 0), (1, .invokestatic 88, 3, 2, 0, 1, 14, 3), (4, .ifCond .eq 10, 3, 3, 6, 0, 0, 1), (7, .iload_n 2, 1, 4, 0, 0, 0, 0), (8, .invokestatic 88, 3, 5, 0, 1, 14, 3), (11, .ifCond .ne 5, 3, 6, 8, 0, 0, 1), (14, .iconst (-1), 1, 7, 0, 0, 0, 0), (15, .ireturn, 1, 8, 0, 0, 0, 2), (16, .aload_n 0, 1, 9, 0, 0, 0, 0), (17, .getfield 49, 3, 10, 0, 10, 4, 0), (20, .aload_n 0, 1, 11, 0, 0, 0, 0), (21, .getfield 80, 3, 12, 0, 10, 8, 0), (24, .iload_n 1, 1, 13, 0, 0, 0, 0), (25, .aaload, 1, 14, 0, 0, 0, 0), (26, .aload_n 0, 1, 15, 0, 0, 0, 0), (27, .getfield 65, 3, 16, 0, 10, 5, 0)],
  [(30, .getfield 182, 3, 17, 0, 9, 11, 0), (33, .invokevirtual 189, 3, 18, 0, 0, 74, 3), (36, .astore_n 3, 1, 19, 0, 0, 0, 0), (37, .aload_n 3, 1, 20, 0, 0, 0, 0), (38, .ifnonnull 5, 3, 21, 23, 0, 0, 1), (41, .iconst 2, 1, 22, 0, 0, 0, 0), (42, .ireturn, 1, 23, 0, 0, 0, 2), (43, .aload_n 0, 1, 24, 0, 0, 0, 0), (44, .getfield 49, 3, 25, 0, 10, 4, 0), (47, .aload_n 0, 1, 26, 0, 0, 0, 0), (48, .getfield 80, 3, 27, 0, 10, 8, 0), (51, .iload_n 2, 1, 28, 0, 0, 0, 0), (52, .aaload, 1, 29, 0, 0, 0, 0), (53, .aload_n 0, 1, 30, 0, 0, 0, 0), (54, .getfield 65, 3, 31, 0, 10, 5, 0), (57, .getfield 182, 3, 32, 0, 9, 11, 0)],
  [(60, .invokevirtual 189, 3, 33, 0, 0, 74, 3), (63, .astore 4, 2, 34, 0, 0, 0, 0), (65, .aload 4, 2, 35, 0, 0, 0, 0), (67, .ifnonnull 5, 3, 36, 38, 0, 0, 1), (70, .iconst 2, 1, 37, 0, 0, 0, 0), (71, .ireturn, 1, 38, 0, 0, 0, 2), (72, .aload_n 3, 1, 39, 0, 0, 0, 0), (73, .aload 4, 2, 40, 0, 0, 0, 0), (75, .invokestatic 116, 3, 41, 0, 1, 28, 3), (78, .ifCond .eq 5, 3, 42, 44, 0, 0, 1), (81, .iconst 1, 1, 43, 0, 0, 0, 0), (82, .ireturn, 1, 44, 0, 0, 0, 2), (83, .aload_n 0, 1, 45, 0, 0, 0, 0), (84, .getfield 65, 3, 46, 0, 10, 5, 0), (87, .getfield 148, 3, 47, 0, 9, 12, 0), (90, .getfield 152, 3, 48, 0, 6, 2, 0)],
  [(93, .ifCond .ne 7, 3, 49, 51, 0, 0, 1), (96, .iconst 0, 1, 50, 0, 0, 0, 0), (97, .goto 4, 3, 51, 52, 0, 0, 1), (100, .iconst 2, 1, 52, 0, 0, 0, 0), (101, .ireturn, 1, 53, 0, 0, 0, 2)]]
def ft_92 : List (List FI) := [[(0, .aload_n 0, 1, 1, 0, 0, 0, 0), (1, .invokespecial 1, 3, 2, 0, 3, 0, 3), (4, .aload_n 0, 1, 3, 0, 0, 0, 0), (5, .bipush 10, 2, 4, 0, 0, 0, 0), (7, .newarray .int, 2, 5, 0, 0, 0, 0), (9, .putfield 7, 3, 6, 0, 11, 1, 0), (12, .aload_n 0, 1, 7, 0, 0, 0, 0), (13, .bipush 10, 2, 8, 0, 0, 0, 0), (15, .newarray .boolean, 2, 9, 0, 0, 0, 0), (17, .putfield 13, 3, 10, 0, 11, 2, 0), (20, .aload_n 0, 1, 11, 0, 0, 0, 0), (21, .bipush 16, 2, 12, 0, 0, 0, 0), (23, .anewarray 17, 3, 13, 0, 2, 0, 0), (26, .putfield 18, 3, 14, 0, 11, 4, 0), (29, .aload_n 0, 1, 15, 0, 0, 0, 0), (30, .bipush 40, 2, 16, 0, 0, 0, 0)],
  [(32, .anewarray 17, 3, 17, 0, 2, 0, 0), (35, .putfield 22, 3, 18, 0, 11, 5, 0), (38, .aload_n 0, 1, 19, 0, 0, 0, 0), (39, .bipush 40, 2, 20, 0, 0, 0, 0), (41, .anewarray 17, 3, 21, 0, 2, 0, 0), (44, .putfield 25, 3, 22, 0, 11, 6, 0), (47, .aload_n 0, 1, 23, 0, 0, 0, 0), (48, .sipush 4000, 3, 24, 0, 0, 0, 0), (51, .anewarray 17, 3, 25, 0, 2, 0, 0), (54, .putfield 28, 3, 26, 0, 11, 8, 0), (57, .aload_n 0, 1, 27, 0, 0, 0, 0), (58, .sipush 4000, 3, 28, 0, 0, 0, 0), (61, .anewarray 17, 3, 29, 0, 2, 0, 0), (64, .putfield 31, 3, 30, 0, 11, 9, 0), (67, .aload_n 0, 1, 31, 0, 0, 0, 0), (68, .ldc 34, 2, 32, 0, 120000, 0, 0)],
  [(70, .putfield 35, 3, 33, 0, 11, 15, 0), (73, .aload_n 0, 1, 34, 0, 0, 0, 0), (74, .bipush 64, 2, 35, 0, 0, 0, 0), (76, .anewarray 39, 3, 36, 0, 3, 0, 0), (79, .putfield 40, 3, 37, 0, 11, 17, 0), (82, .aload_n 0, 1, 38, 0, 0, 0, 0), (83, .bipush 12, 2, 39, 0, 0, 0, 0), (85, .newarray .int, 2, 40, 0, 0, 0, 0), (87, .putfield 44, 3, 41, 0, 11, 19, 0), (90, .iconst 0, 1, 42, 0, 0, 0, 0), (91, .istore_n 1, 1, 43, 0, 0, 0, 0), (92, .iload_n 1, 1, 44, 0, 0, 0, 0), (93, .bipush 16, 2, 45, 0, 0, 0, 0), (95, .if_icmp .ge 28, 3, 46, 61, 0, 0, 1), (98, .aload_n 0, 1, 47, 0, 0, 0, 0), (99, .getfield 18, 3, 48, 0, 11, 4, 0)],
  [(102, .iload_n 1, 1, 49, 0, 0, 0, 0), (103, .iconst 1, 1, 50, 0, 0, 0, 0), (104, .newarray .int, 2, 51, 0, 0, 0, 0), (106, .aastore, 1, 52, 0, 0, 0, 0), (107, .aload_n 0, 1, 53, 0, 0, 0, 0), (108, .getfield 18, 3, 54, 0, 11, 4, 0), (111, .iload_n 1, 1, 55, 0, 0, 0, 0), (112, .aaload, 1, 56, 0, 0, 0, 0), (113, .iconst 0, 1, 57, 0, 0, 0, 0), (114, .bipush 100, 2, 58, 0, 0, 0, 0), (116, .iastore, 1, 59, 0, 0, 0, 0), (117, .iinc 1 1, 3, 60, 0, 0, 0, 0), (120, .goto (-28), 3, 61, 43, 0, 0, 1), (123, .return_, 1, 62, 0, 0, 0, 2)]]
def ft_93 : List (List FI) := [[(0, .aload_n 0, 1, 1, 0, 0, 0, 0), (1, .iconst 0, 1, 2, 0, 0, 0, 0), (2, .putfield 47, 3, 3, 0, 11, 0, 0), (5, .aload_n 0, 1, 4, 0, 0, 0, 0), (6, .getfield 207, 3, 5, 0, 11, 3, 0), (9, .bipush 10, 2, 6, 0, 0, 0, 0), (11, .if_icmp .eq 21, 3, 7, 17, 0, 0, 1), (14, .iload_n 1, 1, 8, 0, 0, 0, 0), (15, .ifCond .lt 17, 3, 9, 17, 0, 0, 1), (18, .iload_n 1, 1, 10, 0, 0, 0, 0), (19, .iconst 2, 1, 11, 0, 0, 0, 0), (20, .if_icmp .gt 12, 3, 12, 17, 0, 0, 1), (23, .iload_n 2, 1, 13, 0, 0, 0, 0), (24, .ifCond .eq 10, 3, 14, 19, 0, 0, 1), (27, .iload_n 1, 1, 15, 0, 0, 0, 0), (28, .iconst 2, 1, 16, 0, 0, 0, 0)],
  [(29, .if_icmp .ge 5, 3, 17, 19, 0, 0, 1), (32, .iconst (-1), 1, 18, 0, 0, 0, 0), (33, .ireturn, 1, 19, 0, 0, 0, 2), (34, .aload_n 0, 1, 20, 0, 0, 0, 0), (35, .getfield 7, 3, 21, 0, 11, 1, 0), (38, .aload_n 0, 1, 22, 0, 0, 0, 0), (39, .getfield 207, 3, 23, 0, 11, 3, 0), (42, .iload_n 1, 1, 24, 0, 0, 0, 0), (43, .iastore, 1, 25, 0, 0, 0, 0), (44, .aload_n 0, 1, 26, 0, 0, 0, 0), (45, .getfield 13, 3, 27, 0, 11, 2, 0), (48, .aload_n 0, 1, 28, 0, 0, 0, 0), (49, .getfield 207, 3, 29, 0, 11, 3, 0), (52, .iload_n 2, 1, 30, 0, 0, 0, 0), (53, .bastore, 1, 31, 0, 0, 0, 0), (54, .aload_n 0, 1, 32, 0, 0, 0, 0)],
  [(55, .dup, 1, 33, 0, 0, 0, 0), (56, .getfield 207, 3, 34, 0, 11, 3, 0), (59, .iconst 1, 1, 35, 0, 0, 0, 0), (60, .iadd, 1, 36, 0, 0, 0, 0), (61, .putfield 207, 3, 37, 0, 11, 3, 0), (64, .aload_n 0, 1, 38, 0, 0, 0, 0), (65, .getfield 207, 3, 39, 0, 11, 3, 0), (68, .iconst 1, 1, 40, 0, 0, 0, 0), (69, .isub, 1, 41, 0, 0, 0, 0), (70, .ireturn, 1, 42, 0, 0, 0, 2)]]
def ft_94 : List (List FI) := [[(0, .aload_n 0, 1, 1, 0, 0, 0, 0), (1, .iconst 0, 1, 2, 0, 0, 0, 0), (2, .putfield 47, 3, 3, 0, 11, 0, 0), (5, .iload_n 1, 1, 4, 0, 0, 0, 0), (6, .invokestatic 210, 3, 5, 0, 1, 95, 3), (9, .ifCond .eq 13, 3, 6, 11, 0, 0, 1), (12, .iload_n 2, 1, 7, 0, 0, 0, 0), (13, .ifCond .lt 9, 3, 8, 11, 0, 0, 1), (16, .iload_n 2, 1, 9, 0, 0, 0, 0), (17, .bipush 6, 2, 10, 0, 0, 0, 0), (19, .if_icmp .lt 5, 3, 11, 13, 0, 0, 1), (22, .iconst 0, 1, 12, 0, 0, 0, 0), (23, .ireturn, 1, 13, 0, 0, 0, 2), (24, .aload_n 0, 1, 14, 0, 0, 0, 0), (25, .getfield 18, 3, 15, 0, 11, 4, 0), (28, .iload_n 1, 1, 16, 0, 0, 0, 0)],
  [(29, .iconst 1, 1, 17, 0, 0, 0, 0), (30, .newarray .int, 2, 18, 0, 0, 0, 0), (32, .aastore, 1, 19, 0, 0, 0, 0), (33, .aload_n 0, 1, 20, 0, 0, 0, 0), (34, .getfield 18, 3, 21, 0, 11, 4, 0), (37, .iload_n 1, 1, 22, 0, 0, 0, 0), (38, .aaload, 1, 23, 0, 0, 0, 0), (39, .iconst 0, 1, 24, 0, 0, 0, 0), (40, .bipush 100, 2, 25, 0, 0, 0, 0), (42, .iload_n 2, 1, 26, 0, 0, 0, 0), (43, .iadd, 1, 27, 0, 0, 0, 0), (44, .iastore, 1, 28, 0, 0, 0, 0), (45, .iconst 1, 1, 29, 0, 0, 0, 0), (46, .ireturn, 1, 30, 0, 0, 0, 2)]]
def ft_95 : List (List FI) := [[(0, .iload_n 0, 1, 1, 0, 0, 0, 0), (1, .ifCond .lt 13, 3, 2, 7, 0, 0, 1), (4, .iload_n 0, 1, 3, 0, 0, 0, 0), (5, .bipush 16, 2, 4, 0, 0, 0, 0), (7, .if_icmp .ge 7, 3, 5, 7, 0, 0, 1), (10, .iconst 1, 1, 6, 0, 0, 0, 0), (11, .goto 4, 3, 7, 8, 0, 0, 1), (14, .iconst 0, 1, 8, 0, 0, 0, 0), (15, .ireturn, 1, 9, 0, 0, 0, 2)]]
def ft_96 : List (List FI) := [[(0, .aload_n 0, 1, 1, 0, 0, 0, 0), (1, .iconst 0, 1, 2, 0, 0, 0, 0), (2, .putfield 47, 3, 3, 0, 11, 0, 0), (5, .iload_n 1, 1, 4, 0, 0, 0, 0), (6, .invokestatic 210, 3, 5, 0, 1, 95, 3), (9, .ifCond .eq 49, 3, 6, 29, 0, 0, 1), (12, .iload_n 2, 1, 7, 0, 0, 0, 0), (13, .ifCond .lt 45, 3, 8, 29, 0, 0, 1), (16, .iload_n 2, 1, 9, 0, 0, 0, 0), (17, .aload_n 0, 1, 10, 0, 0, 0, 0), (18, .getfield 207, 3, 11, 0, 11, 3, 0), (21, .if_icmp .ge 37, 3, 12, 29, 0, 0, 1), (24, .aload_n 0, 1, 13, 0, 0, 0, 0), (25, .getfield 7, 3, 14, 0, 11, 1, 0), (28, .iload_n 2, 1, 15, 0, 0, 0, 0), (29, .iaload, 1, 16, 0, 0, 0, 0)],
  [(30, .ifCond .le 10, 3, 17, 20, 0, 0, 1), (33, .iload_n 3, 1, 18, 0, 0, 0, 0), (34, .invokestatic 210, 3, 19, 0, 1, 95, 3), (37, .ifCond .eq 21, 3, 20, 29, 0, 0, 1), (40, .aload_n 0, 1, 21, 0, 0, 0, 0), (41, .getfield 7, 3, 22, 0, 11, 1, 0), (44, .iload_n 2, 1, 23, 0, 0, 0, 0), (45, .iaload, 1, 24, 0, 0, 0, 0), (46, .iconst 1, 1, 25, 0, 0, 0, 0), (47, .if_icmp .le 13, 3, 26, 31, 0, 0, 1), (50, .iload 4, 2, 27, 0, 0, 0, 0), (52, .invokestatic 210, 3, 28, 0, 1, 95, 3), (55, .ifCond .ne 5, 3, 29, 31, 0, 0, 1), (58, .iconst 0, 1, 30, 0, 0, 0, 0), (59, .ireturn, 1, 31, 0, 0, 0, 2), (60, .aload_n 0, 1, 32, 0, 0, 0, 0)],
  [(61, .getfield 7, 3, 33, 0, 11, 1, 0), (64, .iload_n 2, 1, 34, 0, 0, 0, 0), (65, .iaload, 1, 35, 0, 0, 0, 0), (66, .ifCond .le 12, 3, 36, 41, 0, 0, 1), (69, .aload_n 0, 1, 37, 0, 0, 0, 0), (70, .getfield 18, 3, 38, 0, 11, 4, 0), (73, .iload_n 3, 1, 39, 0, 0, 0, 0), (74, .aaload, 1, 40, 0, 0, 0, 0), (75, .goto 9, 3, 41, 45, 0, 0, 1), (78, .aload_n 0, 1, 42, 0, 0, 0, 0), (79, .getfield 18, 3, 43, 0, 11, 4, 0), (82, .iconst 0, 1, 44, 0, 0, 0, 0), (83, .aaload, 1, 45, 0, 0, 0, 0), (84, .astore 5, 2, 46, 0, 0, 0, 0), (86, .aload_n 0, 1, 47, 0, 0, 0, 0), (87, .getfield 7, 3, 48, 0, 11, 1, 0)],
  [(90, .iload_n 2, 1, 49, 0, 0, 0, 0), (91, .iaload, 1, 50, 0, 0, 0, 0), (92, .iconst 1, 1, 51, 0, 0, 0, 0), (93, .if_icmp .le 13, 3, 52, 57, 0, 0, 1), (96, .aload_n 0, 1, 53, 0, 0, 0, 0), (97, .getfield 18, 3, 54, 0, 11, 4, 0), (100, .iload 4, 2, 55, 0, 0, 0, 0), (102, .aaload, 1, 56, 0, 0, 0, 0), (103, .goto 5, 3, 57, 58, 0, 0, 1), (106, .aload 5, 2, 58, 0, 0, 0, 0), (108, .astore 6, 2, 59, 0, 0, 0, 0), (110, .aload_n 0, 1, 60, 0, 0, 0, 0), (111, .iload_n 2, 1, 61, 0, 0, 0, 0), (112, .aload 5, 2, 62, 0, 0, 0, 0), (114, .aload 6, 2, 63, 0, 0, 0, 0), (116, .invokevirtual 74, 3, 64, 0, 0, 97, 3)],
  [(119, .astore 7, 2, 65, 0, 0, 0, 0), (121, .aload 7, 2, 66, 0, 0, 0, 0), (123, .arraylength, 1, 67, 0, 0, 0, 0), (124, .bipush 24, 2, 68, 0, 0, 0, 0), (126, .if_icmp .le 5, 3, 69, 71, 0, 0, 1), (129, .iconst 0, 1, 70, 0, 0, 0, 0), (130, .ireturn, 1, 71, 0, 0, 0, 2), (131, .aload_n 0, 1, 72, 0, 0, 0, 0), (132, .getfield 18, 3, 73, 0, 11, 4, 0), (135, .iload_n 1, 1, 74, 0, 0, 0, 0), (136, .aload 7, 2, 75, 0, 0, 0, 0), (138, .aastore, 1, 76, 0, 0, 0, 0), (139, .iconst 1, 1, 77, 0, 0, 0, 0), (140, .ireturn, 1, 78, 0, 0, 0, 2)]]
def ft_97 : List (List FI) := [[(0, .aload_n 0, 1, 1, 0, 0, 0, 0), (1, .getfield 7, 3, 2, 0, 11, 1, 0), (4, .iload_n 1, 1, 3, 0, 0, 0, 0), (5, .iaload, 1, 4, 0, 0, 0, 0), (6, .istore 4, 2, 5, 0, 0, 0, 0), (8, .iload 4, 2, 6, 0, 0, 0, 0), (10, .iconst 2, 1, 7, 0, 0, 0, 0), (11, .if_icmp .ne 25, 3, 8, 20, 0, 0, 1), (14, .aload_n 0, 1, 9, 0, 0, 0, 0), (15, .getfield 13, 3, 10, 0, 11, 2, 0), (18, .iload_n 1, 1, 11, 0, 0, 0, 0), (19, .baload, 1, 12, 0, 0, 0, 0), (20, .ifCond .eq 16, 3, 13, 20, 0, 0, 1), (23, .aload_n 0, 1, 14, 0, 0, 0, 0), (24, .aload_n 2, 1, 15, 0, 0, 0, 0), (25, .aload_n 3, 1, 16, 0, 0, 0, 0)],
  [(26, .invokevirtual 62, 3, 17, 0, 0, 98, 3), (29, .ifCond .le 7, 3, 18, 20, 0, 0, 1), (32, .iconst 1, 1, 19, 0, 0, 0, 0), (33, .goto 4, 3, 20, 21, 0, 0, 1), (36, .iconst 0, 1, 21, 0, 0, 0, 0), (37, .istore 5, 2, 22, 0, 0, 0, 0), (39, .iload 5, 2, 23, 0, 0, 0, 0), (41, .ifCond .eq 7, 3, 24, 26, 0, 0, 1), (44, .aload_n 3, 1, 25, 0, 0, 0, 0), (45, .goto 4, 3, 26, 27, 0, 0, 1), (48, .aload_n 2, 1, 27, 0, 0, 0, 0), (49, .astore 6, 2, 28, 0, 0, 0, 0), (51, .iload 5, 2, 29, 0, 0, 0, 0), (53, .ifCond .eq 7, 3, 30, 32, 0, 0, 1), (56, .aload_n 2, 1, 31, 0, 0, 0, 0), (57, .goto 4, 3, 32, 33, 0, 0, 1)],
  [(60, .aload_n 3, 1, 33, 0, 0, 0, 0), (61, .astore 7, 2, 34, 0, 0, 0, 0), (63, .iconst 1, 1, 35, 0, 0, 0, 0), (64, .iload 4, 2, 36, 0, 0, 0, 0), (66, .ifCond .le 9, 3, 37, 40, 0, 0, 1), (69, .aload 6, 2, 38, 0, 0, 0, 0), (71, .arraylength, 1, 39, 0, 0, 0, 0), (72, .goto 4, 3, 40, 41, 0, 0, 1), (75, .iconst 0, 1, 41, 0, 0, 0, 0), (76, .iadd, 1, 42, 0, 0, 0, 0), (77, .iload 4, 2, 43, 0, 0, 0, 0), (79, .iconst 1, 1, 44, 0, 0, 0, 0), (80, .if_icmp .le 9, 3, 45, 48, 0, 0, 1), (83, .aload 7, 2, 46, 0, 0, 0, 0), (85, .arraylength, 1, 47, 0, 0, 0, 0), (86, .goto 4, 3, 48, 49, 0, 0, 1)],
  [(89, .iconst 0, 1, 49, 0, 0, 0, 0), (90, .iadd, 1, 50, 0, 0, 0, 0), (91, .newarray .int, 2, 51, 0, 0, 0, 0), (93, .astore 8, 2, 52, 0, 0, 0, 0), (95, .aload 8, 2, 53, 0, 0, 0, 0), (97, .iconst 0, 1, 54, 0, 0, 0, 0), (98, .iload_n 1, 1, 55, 0, 0, 0, 0), (99, .iastore, 1, 56, 0, 0, 0, 0), (100, .iconst 0, 1, 57, 0, 0, 0, 0), (101, .istore 9, 2, 58, 0, 0, 0, 0), (103, .iload 4, 2, 59, 0, 0, 0, 0), (105, .ifCond .le 29, 3, 60, 74, 0, 0, 1), (108, .iload 9, 2, 61, 0, 0, 0, 0), (110, .aload 6, 2, 62, 0, 0, 0, 0), (112, .arraylength, 1, 63, 0, 0, 0, 0), (113, .if_icmp .ge 21, 3, 64, 74, 0, 0, 1)],
  [(116, .aload 8, 2, 65, 0, 0, 0, 0), (118, .iconst 1, 1, 66, 0, 0, 0, 0), (119, .iload 9, 2, 67, 0, 0, 0, 0), (121, .iadd, 1, 68, 0, 0, 0, 0), (122, .aload 6, 2, 69, 0, 0, 0, 0), (124, .iload 9, 2, 70, 0, 0, 0, 0), (126, .iaload, 1, 71, 0, 0, 0, 0), (127, .iastore, 1, 72, 0, 0, 0, 0), (128, .iinc 9 1, 3, 73, 0, 0, 0, 0), (131, .goto (-28), 3, 74, 58, 0, 0, 1), (134, .iconst 0, 1, 75, 0, 0, 0, 0), (135, .istore 9, 2, 76, 0, 0, 0, 0), (137, .iload 4, 2, 77, 0, 0, 0, 0), (139, .iconst 1, 1, 78, 0, 0, 0, 0), (140, .if_icmp .le 33, 3, 79, 96, 0, 0, 1), (143, .iload 9, 2, 80, 0, 0, 0, 0)],
  [(145, .aload 7, 2, 81, 0, 0, 0, 0), (147, .arraylength, 1, 82, 0, 0, 0, 0), (148, .if_icmp .ge 25, 3, 83, 96, 0, 0, 1), (151, .aload 8, 2, 84, 0, 0, 0, 0), (153, .iconst 1, 1, 85, 0, 0, 0, 0), (154, .aload 6, 2, 86, 0, 0, 0, 0), (156, .arraylength, 1, 87, 0, 0, 0, 0), (157, .iadd, 1, 88, 0, 0, 0, 0), (158, .iload 9, 2, 89, 0, 0, 0, 0), (160, .iadd, 1, 90, 0, 0, 0, 0), (161, .aload 7, 2, 91, 0, 0, 0, 0), (163, .iload 9, 2, 92, 0, 0, 0, 0), (165, .iaload, 1, 93, 0, 0, 0, 0), (166, .iastore, 1, 94, 0, 0, 0, 0), (167, .iinc 9 1, 3, 95, 0, 0, 0, 0), (170, .goto (-33), 3, 96, 76, 0, 0, 1)],
  [(173, .aload 8, 2, 97, 0, 0, 0, 0), (175, .areturn, 1, 98, 0, 0, 0, 2)]]
def ft_98 : List (List FI) := [[(0, .iconst 0, 1, 1, 0, 0, 0, 0), (1, .istore_n 3, 1, 2, 0, 0, 0, 0), (2, .iload_n 3, 1, 3, 0, 0, 0, 0), (3, .aload_n 1, 1, 4, 0, 0, 0, 0), (4, .arraylength, 1, 5, 0, 0, 0, 0), (5, .if_icmp .ge 83, 3, 6, 56, 0, 0, 1), (8, .iload_n 3, 1, 7, 0, 0, 0, 0), (9, .aload_n 2, 1, 8, 0, 0, 0, 0), (10, .arraylength, 1, 9, 0, 0, 0, 0), (11, .if_icmp .ge 77, 3, 10, 56, 0, 0, 1), (14, .aload_n 1, 1, 11, 0, 0, 0, 0), (15, .iload_n 3, 1, 12, 0, 0, 0, 0), (16, .iaload, 1, 13, 0, 0, 0, 0), (17, .aload_n 2, 1, 14, 0, 0, 0, 0), (18, .iload_n 3, 1, 15, 0, 0, 0, 0), (19, .iaload, 1, 16, 0, 0, 0, 0)],
  [(20, .if_icmp .ne 6, 3, 17, 18, 0, 0, 1), (23, .goto 59, 3, 18, 54, 0, 0, 1), (26, .aload_n 0, 1, 19, 0, 0, 0, 0), (27, .aload_n 1, 1, 20, 0, 0, 0, 0), (28, .iload_n 3, 1, 21, 0, 0, 0, 0), (29, .iaload, 1, 22, 0, 0, 0, 0), (30, .invokevirtual 50, 3, 23, 0, 0, 99, 3), (33, .ifCond .eq 13, 3, 24, 30, 0, 0, 1), (36, .aload_n 1, 1, 25, 0, 0, 0, 0), (37, .iload_n 3, 1, 26, 0, 0, 0, 0), (38, .iaload, 1, 27, 0, 0, 0, 0), (39, .sipush 1000, 3, 28, 0, 0, 0, 0), (42, .isub, 1, 29, 0, 0, 0, 0), (43, .goto 6, 3, 30, 33, 0, 0, 1), (46, .aload_n 1, 1, 31, 0, 0, 0, 0), (47, .iload_n 3, 1, 32, 0, 0, 0, 0)],
  [(48, .iaload, 1, 33, 0, 0, 0, 0), (49, .istore 4, 2, 34, 0, 0, 0, 0), (51, .aload_n 0, 1, 35, 0, 0, 0, 0), (52, .aload_n 2, 1, 36, 0, 0, 0, 0), (53, .iload_n 3, 1, 37, 0, 0, 0, 0), (54, .iaload, 1, 38, 0, 0, 0, 0), (55, .invokevirtual 50, 3, 39, 0, 0, 99, 3), (58, .ifCond .eq 13, 3, 40, 46, 0, 0, 1), (61, .aload_n 2, 1, 41, 0, 0, 0, 0), (62, .iload_n 3, 1, 42, 0, 0, 0, 0), (63, .iaload, 1, 43, 0, 0, 0, 0), (64, .sipush 1000, 3, 44, 0, 0, 0, 0), (67, .isub, 1, 45, 0, 0, 0, 0), (68, .goto 6, 3, 46, 49, 0, 0, 1), (71, .aload_n 2, 1, 47, 0, 0, 0, 0), (72, .iload_n 3, 1, 48, 0, 0, 0, 0)],
  [(73, .iaload, 1, 49, 0, 0, 0, 0), (74, .istore 5, 2, 50, 0, 0, 0, 0), (76, .iload 4, 2, 51, 0, 0, 0, 0), (78, .iload 5, 2, 52, 0, 0, 0, 0), (80, .isub, 1, 53, 0, 0, 0, 0), (81, .ireturn, 1, 54, 0, 0, 0, 2), (82, .iinc 3 1, 3, 55, 0, 0, 0, 0), (85, .goto (-83), 3, 56, 2, 0, 0, 1), (88, .iconst 0, 1, 57, 0, 0, 0, 0), (89, .ireturn, 1, 58, 0, 0, 0, 2)]]
def ft_99 : List (List FI) := [[(0, .iload_n 1, 1, 1, 0, 0, 0, 0), (1, .bipush 100, 2, 2, 0, 0, 0, 0), (3, .if_icmp .lt 7, 3, 3, 5, 0, 0, 1), (6, .iconst 1, 1, 4, 0, 0, 0, 0), (7, .goto 4, 3, 5, 6, 0, 0, 1), (10, .iconst 0, 1, 6, 0, 0, 0, 0), (11, .ireturn, 1, 7, 0, 0, 0, 2)]]
def ft_100 : List (List FI) := [[(0, .aload_n 0, 1, 1, 0, 0, 0, 0), (1, .iconst 0, 1, 2, 0, 0, 0, 0), (2, .putfield 47, 3, 3, 0, 11, 0, 0), (5, .iload_n 1, 1, 4, 0, 0, 0, 0), (6, .invokestatic 210, 3, 5, 0, 1, 95, 3), (9, .ifCond .eq 13, 3, 6, 12, 0, 0, 1), (12, .aload_n 0, 1, 7, 0, 0, 0, 0), (13, .getfield 18, 3, 8, 0, 11, 4, 0), (16, .iload_n 1, 1, 9, 0, 0, 0, 0), (17, .aaload, 1, 10, 0, 0, 0, 0), (18, .arraylength, 1, 11, 0, 0, 0, 0), (19, .goto 4, 3, 12, 13, 0, 0, 1), (22, .iconst (-1), 1, 13, 0, 0, 0, 0), (23, .ireturn, 1, 14, 0, 0, 0, 2)]]
def ft_101 : List (List FI) := [[(0, .aload_n 0, 1, 1, 0, 0, 0, 0), (1, .iconst 0, 1, 2, 0, 0, 0, 0), (2, .putfield 47, 3, 3, 0, 11, 0, 0), (5, .iload_n 1, 1, 4, 0, 0, 0, 0), (6, .invokestatic 210, 3, 5, 0, 1, 95, 3), (9, .ifCond .eq 18, 3, 6, 15, 0, 0, 1), (12, .iload_n 2, 1, 7, 0, 0, 0, 0), (13, .ifCond .lt 14, 3, 8, 15, 0, 0, 1), (16, .iload_n 2, 1, 9, 0, 0, 0, 0), (17, .aload_n 0, 1, 10, 0, 0, 0, 0), (18, .getfield 18, 3, 11, 0, 11, 4, 0), (21, .iload_n 1, 1, 12, 0, 0, 0, 0), (22, .aaload, 1, 13, 0, 0, 0, 0), (23, .arraylength, 1, 14, 0, 0, 0, 0), (24, .if_icmp .lt 7, 3, 15, 17, 0, 0, 1), (27, .iconst (-1), 1, 16, 0, 0, 0, 0)],
  [(28, .goto 11, 3, 17, 23, 0, 0, 1), (31, .aload_n 0, 1, 18, 0, 0, 0, 0), (32, .getfield 18, 3, 19, 0, 11, 4, 0), (35, .iload_n 1, 1, 20, 0, 0, 0, 0), (36, .aaload, 1, 21, 0, 0, 0, 0), (37, .iload_n 2, 1, 22, 0, 0, 0, 0), (38, .iaload, 1, 23, 0, 0, 0, 0), (39, .ireturn, 1, 24, 0, 0, 0, 2)]]
def ft_102 : List (List FI) := [[(0, .aload_n 0, 1, 1, 0, 0, 0, 0), (1, .iconst 0, 1, 2, 0, 0, 0, 0), (2, .putfield 47, 3, 3, 0, 11, 0, 0), (5, .iload_n 1, 1, 4, 0, 0, 0, 0), (6, .invokestatic 210, 3, 5, 0, 1, 95, 3), (9, .ifCond .eq 32, 3, 6, 21, 0, 0, 1), (12, .iload_n 2, 1, 7, 0, 0, 0, 0), (13, .invokestatic 210, 3, 8, 0, 1, 95, 3), (16, .ifCond .eq 25, 3, 9, 21, 0, 0, 1), (19, .aload_n 0, 1, 10, 0, 0, 0, 0), (20, .getfield 18, 3, 11, 0, 11, 4, 0), (23, .iload_n 1, 1, 12, 0, 0, 0, 0), (24, .aaload, 1, 13, 0, 0, 0, 0), (25, .aload_n 0, 1, 14, 0, 0, 0, 0), (26, .getfield 18, 3, 15, 0, 11, 4, 0), (29, .iload_n 2, 1, 16, 0, 0, 0, 0)],
  [(30, .aaload, 1, 17, 0, 0, 0, 0), (31, .invokestatic 84, 3, 18, 0, 1, 103, 3), (34, .ifCond .eq 7, 3, 19, 21, 0, 0, 1), (37, .iconst 1, 1, 20, 0, 0, 0, 0), (38, .goto 4, 3, 21, 22, 0, 0, 1), (41, .iconst 0, 1, 22, 0, 0, 0, 0), (42, .ireturn, 1, 23, 0, 0, 0, 2)]]
def ft_103 : List (List FI) := [[(0, .aload_n 0, 1, 1, 0, 0, 0, 0), (1, .arraylength, 1, 2, 0, 0, 0, 0), (2, .aload_n 1, 1, 3, 0, 0, 0, 0), (3, .arraylength, 1, 4, 0, 0, 0, 0), (4, .if_icmp .ne 7, 3, 5, 7, 0, 0, 1), (7, .iconst 1, 1, 6, 0, 0, 0, 0), (8, .goto 4, 3, 7, 8, 0, 0, 1), (11, .iconst 0, 1, 8, 0, 0, 0, 0), (12, .istore_n 2, 1, 9, 0, 0, 0, 0), (13, .iconst 0, 1, 10, 0, 0, 0, 0), (14, .istore_n 3, 1, 11, 0, 0, 0, 0), (15, .iload_n 2, 1, 12, 0, 0, 0, 0), (16, .ifCond .eq 30, 3, 13, 30, 0, 0, 1), (19, .iload_n 3, 1, 14, 0, 0, 0, 0), (20, .aload_n 0, 1, 15, 0, 0, 0, 0), (21, .arraylength, 1, 16, 0, 0, 0, 0)],
  [(22, .if_icmp .ge 24, 3, 17, 30, 0, 0, 1), (25, .aload_n 0, 1, 18, 0, 0, 0, 0), (26, .iload_n 3, 1, 19, 0, 0, 0, 0), (27, .iaload, 1, 20, 0, 0, 0, 0), (28, .aload_n 1, 1, 21, 0, 0, 0, 0), (29, .iload_n 3, 1, 22, 0, 0, 0, 0), (30, .iaload, 1, 23, 0, 0, 0, 0), (31, .if_icmp .ne 7, 3, 24, 26, 0, 0, 1), (34, .iconst 1, 1, 25, 0, 0, 0, 0), (35, .goto 4, 3, 26, 27, 0, 0, 1), (38, .iconst 0, 1, 27, 0, 0, 0, 0), (39, .istore_n 2, 1, 28, 0, 0, 0, 0), (40, .iinc 3 1, 3, 29, 0, 0, 0, 0), (43, .goto (-28), 3, 30, 11, 0, 0, 1), (46, .iload_n 2, 1, 31, 0, 0, 0, 0), (47, .ireturn, 1, 32, 0, 0, 0, 2)]]
def ft_104 : List (List FI) := [[(0, .aload_n 0, 1, 1, 0, 0, 0, 0), (1, .iconst 0, 1, 2, 0, 0, 0, 0), (2, .putfield 47, 3, 3, 0, 11, 0, 0), (5, .iload_n 1, 1, 4, 0, 0, 0, 0), (6, .invokestatic 210, 3, 5, 0, 1, 95, 3), (9, .ifCond .eq 33, 3, 6, 22, 0, 0, 1), (12, .iload_n 2, 1, 7, 0, 0, 0, 0), (13, .invokestatic 210, 3, 8, 0, 1, 95, 3), (16, .ifCond .eq 26, 3, 9, 22, 0, 0, 1), (19, .aload_n 0, 1, 10, 0, 0, 0, 0), (20, .aload_n 0, 1, 11, 0, 0, 0, 0), (21, .getfield 18, 3, 12, 0, 11, 4, 0), (24, .iload_n 1, 1, 13, 0, 0, 0, 0), (25, .aaload, 1, 14, 0, 0, 0, 0), (26, .aload_n 0, 1, 15, 0, 0, 0, 0), (27, .getfield 18, 3, 16, 0, 11, 4, 0)],
  [(30, .iload_n 2, 1, 17, 0, 0, 0, 0), (31, .aaload, 1, 18, 0, 0, 0, 0), (32, .invokevirtual 197, 3, 19, 0, 0, 105, 3), (35, .ifCond .eq 7, 3, 20, 22, 0, 0, 1), (38, .iconst 1, 1, 21, 0, 0, 0, 0), (39, .goto 4, 3, 22, 23, 0, 0, 1), (42, .iconst 0, 1, 23, 0, 0, 0, 0), (43, .ireturn, 1, 24, 0, 0, 0, 2)]]
def ft_105 : List (List FI) := [[(0, .aload_n 1, 1, 1, 0, 0, 0, 0), (1, .arraylength, 1, 2, 0, 0, 0, 0), (2, .aload_n 2, 1, 3, 0, 0, 0, 0), (3, .arraylength, 1, 4, 0, 0, 0, 0), (4, .multianewarray 82 2, 4, 5, 0, 4, 0, 0), (8, .astore_n 3, 1, 6, 0, 0, 0, 0), (9, .aload_n 1, 1, 7, 0, 0, 0, 0), (10, .arraylength, 1, 8, 0, 0, 0, 0), (11, .aload_n 2, 1, 9, 0, 0, 0, 0), (12, .arraylength, 1, 10, 0, 0, 0, 0), (13, .multianewarray 82 2, 4, 11, 0, 4, 0, 0), (17, .astore 4, 2, 12, 0, 0, 0, 0), (19, .aload_n 1, 1, 13, 0, 0, 0, 0), (20, .arraylength, 1, 14, 0, 0, 0, 0), (21, .iconst 1, 1, 15, 0, 0, 0, 0), (22, .isub, 1, 16, 0, 0, 0, 0)],
  [(23, .istore 5, 2, 17, 0, 0, 0, 0), (25, .iload 5, 2, 18, 0, 0, 0, 0), (27, .ifCond .lt 71, 3, 19, 57, 0, 0, 1), (30, .aload_n 2, 1, 20, 0, 0, 0, 0), (31, .arraylength, 1, 21, 0, 0, 0, 0), (32, .iconst 1, 1, 22, 0, 0, 0, 0), (33, .isub, 1, 23, 0, 0, 0, 0), (34, .istore 6, 2, 24, 0, 0, 0, 0), (36, .iload 6, 2, 25, 0, 0, 0, 0), (38, .ifCond .lt 54, 3, 26, 55, 0, 0, 1), (41, .aload_n 3, 1, 27, 0, 0, 0, 0), (42, .iload 5, 2, 28, 0, 0, 0, 0), (44, .aaload, 1, 29, 0, 0, 0, 0), (45, .iload 6, 2, 30, 0, 0, 0, 0), (47, .aload_n 0, 1, 31, 0, 0, 0, 0), (48, .aload_n 1, 1, 32, 0, 0, 0, 0)],
  [(49, .iload 5, 2, 33, 0, 0, 0, 0), (51, .invokevirtual 66, 3, 34, 0, 0, 106, 3), (54, .aload_n 0, 1, 35, 0, 0, 0, 0), (55, .aload_n 2, 1, 36, 0, 0, 0, 0), (56, .iload 6, 2, 37, 0, 0, 0, 0), (58, .invokevirtual 66, 3, 38, 0, 0, 106, 3), (61, .invokestatic 84, 3, 39, 0, 1, 103, 3), (64, .bastore, 1, 40, 0, 0, 0, 0), (65, .aload 4, 2, 41, 0, 0, 0, 0), (67, .iload 5, 2, 42, 0, 0, 0, 0), (69, .aaload, 1, 43, 0, 0, 0, 0), (70, .iload 6, 2, 44, 0, 0, 0, 0), (72, .aload_n 0, 1, 45, 0, 0, 0, 0), (73, .aload_n 1, 1, 46, 0, 0, 0, 0), (74, .aload_n 2, 1, 47, 0, 0, 0, 0), (75, .iload 5, 2, 48, 0, 0, 0, 0)],
  [(77, .iload 6, 2, 49, 0, 0, 0, 0), (79, .aload_n 3, 1, 50, 0, 0, 0, 0), (80, .aload 4, 2, 51, 0, 0, 0, 0), (82, .invokevirtual 88, 3, 52, 0, 0, 109, 3), (85, .bastore, 1, 53, 0, 0, 0, 0), (86, .iinc 6 (-1), 3, 54, 0, 0, 0, 0), (89, .goto (-53), 3, 55, 24, 0, 0, 1), (92, .iinc 5 (-1), 3, 56, 0, 0, 0, 0), (95, .goto (-70), 3, 57, 17, 0, 0, 1), (98, .aload 4, 2, 58, 0, 0, 0, 0), (100, .iconst 0, 1, 59, 0, 0, 0, 0), (101, .aaload, 1, 60, 0, 0, 0, 0), (102, .iconst 0, 1, 61, 0, 0, 0, 0), (103, .baload, 1, 62, 0, 0, 0, 0), (104, .ireturn, 1, 63, 0, 0, 0, 2)]]
def ft_106 : List (List FI) := [[(0, .aload_n 0, 1, 1, 0, 0, 0, 0), (1, .aload_n 1, 1, 2, 0, 0, 0, 0), (2, .iload_n 2, 1, 3, 0, 0, 0, 0), (3, .invokevirtual 58, 3, 4, 0, 0, 107, 3), (6, .iload_n 2, 1, 5, 0, 0, 0, 0), (7, .isub, 1, 6, 0, 0, 0, 0), (8, .istore_n 3, 1, 7, 0, 0, 0, 0), (9, .iload_n 3, 1, 8, 0, 0, 0, 0), (10, .newarray .int, 2, 9, 0, 0, 0, 0), (12, .astore 4, 2, 10, 0, 0, 0, 0), (14, .iconst 0, 1, 11, 0, 0, 0, 0), (15, .istore 5, 2, 12, 0, 0, 0, 0), (17, .iload 5, 2, 13, 0, 0, 0, 0), (19, .iload_n 3, 1, 14, 0, 0, 0, 0), (20, .if_icmp .ge 20, 3, 15, 25, 0, 0, 1), (23, .aload 4, 2, 16, 0, 0, 0, 0)],
  [(25, .iload 5, 2, 17, 0, 0, 0, 0), (27, .aload_n 1, 1, 18, 0, 0, 0, 0), (28, .iload_n 2, 1, 19, 0, 0, 0, 0), (29, .iload 5, 2, 20, 0, 0, 0, 0), (31, .iadd, 1, 21, 0, 0, 0, 0), (32, .iaload, 1, 22, 0, 0, 0, 0), (33, .iastore, 1, 23, 0, 0, 0, 0), (34, .iinc 5 1, 3, 24, 0, 0, 0, 0), (37, .goto (-20), 3, 25, 12, 0, 0, 1), (40, .aload 4, 2, 26, 0, 0, 0, 0), (42, .areturn, 1, 27, 0, 0, 0, 2)]]
def ft_107 : List (List FI) := [[(0, .iconst 1, 1, 1, 0, 0, 0, 0), (1, .istore_n 3, 1, 2, 0, 0, 0, 0), (2, .iload_n 2, 1, 3, 0, 0, 0, 0), (3, .istore 4, 2, 4, 0, 0, 0, 0), (5, .iload_n 3, 1, 5, 0, 0, 0, 0), (6, .ifCond .le 22, 3, 6, 18, 0, 0, 1), (9, .iload_n 3, 1, 7, 0, 0, 0, 0), (10, .aload_n 0, 1, 8, 0, 0, 0, 0), (11, .aload_n 1, 1, 9, 0, 0, 0, 0), (12, .iload 4, 2, 10, 0, 0, 0, 0), (14, .iaload, 1, 11, 0, 0, 0, 0), (15, .invokevirtual 54, 3, 12, 0, 0, 108, 3), (18, .iconst 1, 1, 13, 0, 0, 0, 0), (19, .isub, 1, 14, 0, 0, 0, 0), (20, .iadd, 1, 15, 0, 0, 0, 0), (21, .istore_n 3, 1, 16, 0, 0, 0, 0)],
  [(22, .iinc 4 1, 3, 17, 0, 0, 0, 0), (25, .goto (-20), 3, 18, 4, 0, 0, 1), (28, .iload 4, 2, 19, 0, 0, 0, 0), (30, .ireturn, 1, 20, 0, 0, 0, 2)]]
def ft_108 : List (List FI) := [[(0, .aload_n 0, 1, 1, 0, 0, 0, 0), (1, .iload_n 1, 1, 2, 0, 0, 0, 0), (2, .invokevirtual 50, 3, 3, 0, 0, 99, 3), (5, .ifCond .eq 7, 3, 4, 6, 0, 0, 1), (8, .iconst 0, 1, 5, 0, 0, 0, 0), (9, .goto 9, 3, 6, 10, 0, 0, 1), (12, .aload_n 0, 1, 7, 0, 0, 0, 0), (13, .getfield 7, 3, 8, 0, 11, 1, 0), (16, .iload_n 1, 1, 9, 0, 0, 0, 0), (17, .iaload, 1, 10, 0, 0, 0, 0), (18, .ireturn, 1, 11, 0, 0, 0, 2)]]
def ft_109 : List (List FI) := [[(0, .aload_n 0, 1, 1, 0, 0, 0, 0), (1, .aload_n 1, 1, 2, 0, 0, 0, 0), (2, .iload_n 3, 1, 3, 0, 0, 0, 0), (3, .iaload, 1, 4, 0, 0, 0, 0), (4, .invokevirtual 50, 3, 5, 0, 0, 99, 3), (7, .ifCond .eq 5, 3, 6, 8, 0, 0, 1), (10, .iconst 0, 1, 7, 0, 0, 0, 0), (11, .ireturn, 1, 8, 0, 0, 0, 2), (12, .aload_n 0, 1, 9, 0, 0, 0, 0), (13, .aload_n 2, 1, 10, 0, 0, 0, 0), (14, .iload 4, 2, 11, 0, 0, 0, 0), (16, .iaload, 1, 12, 0, 0, 0, 0), (17, .invokevirtual 50, 3, 13, 0, 0, 99, 3), (20, .ifCond .eq 21, 3, 14, 26, 0, 0, 1), (23, .aload_n 0, 1, 15, 0, 0, 0, 0), (24, .aload_n 2, 1, 16, 0, 0, 0, 0)],
  [(25, .iload 4, 2, 17, 0, 0, 0, 0), (27, .iaload, 1, 18, 0, 0, 0, 0), (28, .bipush 100, 2, 19, 0, 0, 0, 0), (30, .isub, 1, 20, 0, 0, 0, 0), (31, .aload_n 0, 1, 21, 0, 0, 0, 0), (32, .aload_n 1, 1, 22, 0, 0, 0, 0), (33, .iload_n 3, 1, 23, 0, 0, 0, 0), (34, .invokevirtual 66, 3, 24, 0, 0, 106, 3), (37, .invokevirtual 92, 3, 25, 0, 0, 110, 3), (40, .ireturn, 1, 26, 0, 0, 0, 2), (41, .aload_n 0, 1, 27, 0, 0, 0, 0), (42, .getfield 7, 3, 28, 0, 11, 1, 0), (45, .aload_n 1, 1, 29, 0, 0, 0, 0), (46, .iload_n 3, 1, 30, 0, 0, 0, 0), (47, .iaload, 1, 31, 0, 0, 0, 0), (48, .iaload, 1, 32, 0, 0, 0, 0)],
  [(49, .istore 7, 2, 33, 0, 0, 0, 0), (51, .aload_n 0, 1, 34, 0, 0, 0, 0), (52, .getfield 7, 3, 35, 0, 11, 1, 0), (55, .aload_n 2, 1, 36, 0, 0, 0, 0), (56, .iload 4, 2, 37, 0, 0, 0, 0), (58, .iaload, 1, 38, 0, 0, 0, 0), (59, .iaload, 1, 39, 0, 0, 0, 0), (60, .istore 8, 2, 40, 0, 0, 0, 0), (62, .iload_n 3, 1, 41, 0, 0, 0, 0), (63, .iconst 1, 1, 42, 0, 0, 0, 0), (64, .iadd, 1, 43, 0, 0, 0, 0), (65, .istore 9, 2, 44, 0, 0, 0, 0), (67, .iload 7, 2, 45, 0, 0, 0, 0), (69, .iconst 1, 1, 46, 0, 0, 0, 0), (70, .if_icmp .le 13, 3, 47, 52, 0, 0, 1), (73, .aload_n 0, 1, 48, 0, 0, 0, 0)],
  [(74, .aload_n 1, 1, 49, 0, 0, 0, 0), (75, .iload 9, 2, 50, 0, 0, 0, 0), (77, .invokevirtual 58, 3, 51, 0, 0, 107, 3), (80, .goto 5, 3, 52, 53, 0, 0, 1), (83, .iload 9, 2, 53, 0, 0, 0, 0), (85, .istore 10, 2, 54, 0, 0, 0, 0), (87, .iload 4, 2, 55, 0, 0, 0, 0), (89, .iconst 1, 1, 56, 0, 0, 0, 0), (90, .iadd, 1, 57, 0, 0, 0, 0), (91, .istore 11, 2, 58, 0, 0, 0, 0), (93, .iload 8, 2, 59, 0, 0, 0, 0), (95, .iconst 1, 1, 60, 0, 0, 0, 0), (96, .if_icmp .le 13, 3, 61, 66, 0, 0, 1), (99, .aload_n 0, 1, 62, 0, 0, 0, 0), (100, .aload_n 2, 1, 63, 0, 0, 0, 0), (101, .iload 11, 2, 64, 0, 0, 0, 0)],
  [(103, .invokevirtual 58, 3, 65, 0, 0, 107, 3), (106, .goto 5, 3, 66, 67, 0, 0, 1), (109, .iload 11, 2, 67, 0, 0, 0, 0), (111, .istore 12, 2, 68, 0, 0, 0, 0), (113, .iload 7, 2, 69, 0, 0, 0, 0), (115, .ifCond .le 49, 3, 70, 96, 0, 0, 1), (118, .aload 5, 2, 71, 0, 0, 0, 0), (120, .iload 9, 2, 72, 0, 0, 0, 0), (122, .aaload, 1, 73, 0, 0, 0, 0), (123, .iload 4, 2, 74, 0, 0, 0, 0), (125, .baload, 1, 75, 0, 0, 0, 0), (126, .ifCond .ne 36, 3, 76, 94, 0, 0, 1), (129, .aload 6, 2, 77, 0, 0, 0, 0), (131, .iload 9, 2, 78, 0, 0, 0, 0), (133, .aaload, 1, 79, 0, 0, 0, 0), (134, .iload 4, 2, 80, 0, 0, 0, 0)],
  [(136, .baload, 1, 81, 0, 0, 0, 0), (137, .ifCond .ne 25, 3, 82, 94, 0, 0, 1), (140, .aload 5, 2, 83, 0, 0, 0, 0), (142, .iload 10, 2, 84, 0, 0, 0, 0), (144, .aaload, 1, 85, 0, 0, 0, 0), (145, .iload 4, 2, 86, 0, 0, 0, 0), (147, .baload, 1, 87, 0, 0, 0, 0), (148, .ifCond .ne 14, 3, 88, 94, 0, 0, 1), (151, .aload 6, 2, 89, 0, 0, 0, 0), (153, .iload 10, 2, 90, 0, 0, 0, 0), (155, .aaload, 1, 91, 0, 0, 0, 0), (156, .iload 4, 2, 92, 0, 0, 0, 0), (158, .baload, 1, 93, 0, 0, 0, 0), (159, .ifCond .eq 5, 3, 94, 96, 0, 0, 1), (162, .iconst 1, 1, 95, 0, 0, 0, 0), (163, .ireturn, 1, 96, 0, 0, 0, 2)],
  [(164, .iload 8, 2, 97, 0, 0, 0, 0), (166, .ifCond .eq 23, 3, 98, 110, 0, 0, 1), (169, .aload 6, 2, 99, 0, 0, 0, 0), (171, .iload_n 3, 1, 100, 0, 0, 0, 0), (172, .aaload, 1, 101, 0, 0, 0, 0), (173, .iload 11, 2, 102, 0, 0, 0, 0), (175, .baload, 1, 103, 0, 0, 0, 0), (176, .ifCond .eq 17, 3, 104, 112, 0, 0, 1), (179, .aload 6, 2, 105, 0, 0, 0, 0), (181, .iload_n 3, 1, 106, 0, 0, 0, 0), (182, .aaload, 1, 107, 0, 0, 0, 0), (183, .iload 12, 2, 108, 0, 0, 0, 0), (185, .baload, 1, 109, 0, 0, 0, 0), (186, .ifCond .eq 7, 3, 110, 112, 0, 0, 1), (189, .iconst 1, 1, 111, 0, 0, 0, 0), (190, .goto 4, 3, 112, 113, 0, 0, 1)],
  [(193, .iconst 0, 1, 113, 0, 0, 0, 0), (194, .istore 13, 2, 114, 0, 0, 0, 0), (196, .iload 13, 2, 115, 0, 0, 0, 0), (198, .ifCond .eq 13, 3, 116, 123, 0, 0, 1), (201, .aload_n 1, 1, 117, 0, 0, 0, 0), (202, .iload_n 3, 1, 118, 0, 0, 0, 0), (203, .iaload, 1, 119, 0, 0, 0, 0), (204, .aload_n 2, 1, 120, 0, 0, 0, 0), (205, .iload 4, 2, 121, 0, 0, 0, 0), (207, .iaload, 1, 122, 0, 0, 0, 0), (208, .if_icmp .ge 5, 3, 123, 125, 0, 0, 1), (211, .iconst 0, 1, 124, 0, 0, 0, 0), (212, .ireturn, 1, 125, 0, 0, 0, 2), (213, .aload_n 1, 1, 126, 0, 0, 0, 0), (214, .iload_n 3, 1, 127, 0, 0, 0, 0), (215, .iaload, 1, 128, 0, 0, 0, 0)],
  [(216, .aload_n 2, 1, 129, 0, 0, 0, 0), (217, .iload 4, 2, 130, 0, 0, 0, 0), (219, .iaload, 1, 131, 0, 0, 0, 0), (220, .if_icmp .le 5, 3, 132, 134, 0, 0, 1), (223, .iconst 1, 1, 133, 0, 0, 0, 0), (224, .ireturn, 1, 134, 0, 0, 0, 2), (225, .iload 7, 2, 135, 0, 0, 0, 0), (227, .ifCond .ne 5, 3, 136, 138, 0, 0, 1), (230, .iconst 0, 1, 137, 0, 0, 0, 0), (231, .ireturn, 1, 138, 0, 0, 0, 2), (232, .iload 7, 2, 139, 0, 0, 0, 0), (234, .iconst 1, 1, 140, 0, 0, 0, 0), (235, .if_icmp .ne 12, 3, 141, 147, 0, 0, 1), (238, .aload 6, 2, 142, 0, 0, 0, 0), (240, .iload 9, 2, 143, 0, 0, 0, 0), (242, .aaload, 1, 144, 0, 0, 0, 0)],
  [(243, .iload 11, 2, 145, 0, 0, 0, 0), (245, .baload, 1, 146, 0, 0, 0, 0), (246, .ireturn, 1, 147, 0, 0, 0, 2), (247, .aload_n 0, 1, 148, 0, 0, 0, 0), (248, .getfield 13, 3, 149, 0, 11, 2, 0), (251, .aload_n 1, 1, 150, 0, 0, 0, 0), (252, .iload_n 3, 1, 151, 0, 0, 0, 0), (253, .iaload, 1, 152, 0, 0, 0, 0), (254, .baload, 1, 153, 0, 0, 0, 0), (255, .ifCond .ne 34, 3, 154, 172, 0, 0, 1), (258, .aload 5, 2, 155, 0, 0, 0, 0), (260, .iload 9, 2, 156, 0, 0, 0, 0), (262, .aaload, 1, 157, 0, 0, 0, 0), (263, .iload 11, 2, 158, 0, 0, 0, 0), (265, .baload, 1, 159, 0, 0, 0, 0), (266, .ifCond .eq 14, 3, 160, 166, 0, 0, 1)],
  [(269, .aload 6, 2, 161, 0, 0, 0, 0), (271, .iload 10, 2, 162, 0, 0, 0, 0), (273, .aaload, 1, 163, 0, 0, 0, 0), (274, .iload 12, 2, 164, 0, 0, 0, 0), (276, .baload, 1, 165, 0, 0, 0, 0), (277, .goto 11, 3, 166, 171, 0, 0, 1), (280, .aload 6, 2, 167, 0, 0, 0, 0), (282, .iload 9, 2, 168, 0, 0, 0, 0), (284, .aaload, 1, 169, 0, 0, 0, 0), (285, .iload 11, 2, 170, 0, 0, 0, 0), (287, .baload, 1, 171, 0, 0, 0, 0), (288, .ireturn, 1, 172, 0, 0, 0, 2), (289, .aload 5, 2, 173, 0, 0, 0, 0), (291, .iload 9, 2, 174, 0, 0, 0, 0), (293, .aaload, 1, 175, 0, 0, 0, 0), (294, .iload 11, 2, 176, 0, 0, 0, 0)],
  [(296, .baload, 1, 177, 0, 0, 0, 0), (297, .ifCond .eq 12, 3, 178, 184, 0, 0, 1), (300, .aload 6, 2, 179, 0, 0, 0, 0), (302, .iload 10, 2, 180, 0, 0, 0, 0), (304, .aaload, 1, 181, 0, 0, 0, 0), (305, .iload 12, 2, 182, 0, 0, 0, 0), (307, .baload, 1, 183, 0, 0, 0, 0), (308, .ireturn, 1, 184, 0, 0, 0, 2), (309, .aload 5, 2, 185, 0, 0, 0, 0), (311, .iload 9, 2, 186, 0, 0, 0, 0), (313, .aaload, 1, 187, 0, 0, 0, 0), (314, .iload 12, 2, 188, 0, 0, 0, 0), (316, .baload, 1, 189, 0, 0, 0, 0), (317, .ifCond .eq 12, 3, 190, 196, 0, 0, 1), (320, .aload 6, 2, 191, 0, 0, 0, 0), (322, .iload 10, 2, 192, 0, 0, 0, 0)],
  [(324, .aaload, 1, 193, 0, 0, 0, 0), (325, .iload 11, 2, 194, 0, 0, 0, 0), (327, .baload, 1, 195, 0, 0, 0, 0), (328, .ireturn, 1, 196, 0, 0, 0, 2), (329, .aload 5, 2, 197, 0, 0, 0, 0), (331, .iload 10, 2, 198, 0, 0, 0, 0), (333, .aaload, 1, 199, 0, 0, 0, 0), (334, .iload 11, 2, 200, 0, 0, 0, 0), (336, .baload, 1, 201, 0, 0, 0, 0), (337, .ifCond .eq 12, 3, 202, 208, 0, 0, 1), (340, .aload 6, 2, 203, 0, 0, 0, 0), (342, .iload 9, 2, 204, 0, 0, 0, 0), (344, .aaload, 1, 205, 0, 0, 0, 0), (345, .iload 12, 2, 206, 0, 0, 0, 0), (347, .baload, 1, 207, 0, 0, 0, 0), (348, .ireturn, 1, 208, 0, 0, 0, 2)],
  [(349, .aload 5, 2, 209, 0, 0, 0, 0), (351, .iload 10, 2, 210, 0, 0, 0, 0), (353, .aaload, 1, 211, 0, 0, 0, 0), (354, .iload 12, 2, 212, 0, 0, 0, 0), (356, .baload, 1, 213, 0, 0, 0, 0), (357, .ifCond .eq 12, 3, 214, 220, 0, 0, 1), (360, .aload 6, 2, 215, 0, 0, 0, 0), (362, .iload 9, 2, 216, 0, 0, 0, 0), (364, .aaload, 1, 217, 0, 0, 0, 0), (365, .iload 11, 2, 218, 0, 0, 0, 0), (367, .baload, 1, 219, 0, 0, 0, 0), (368, .ireturn, 1, 220, 0, 0, 0, 2), (369, .aload 6, 2, 221, 0, 0, 0, 0), (371, .iload 9, 2, 222, 0, 0, 0, 0), (373, .aaload, 1, 223, 0, 0, 0, 0), (374, .iload 11, 2, 224, 0, 0, 0, 0)],
  [(376, .baload, 1, 225, 0, 0, 0, 0), (377, .ifCond .ne 14, 3, 226, 232, 0, 0, 1), (380, .aload 6, 2, 227, 0, 0, 0, 0), (382, .iload 10, 2, 228, 0, 0, 0, 0), (384, .aaload, 1, 229, 0, 0, 0, 0), (385, .iload 11, 2, 230, 0, 0, 0, 0), (387, .baload, 1, 231, 0, 0, 0, 0), (388, .ifCond .eq 29, 3, 232, 246, 0, 0, 1), (391, .aload 6, 2, 233, 0, 0, 0, 0), (393, .iload 9, 2, 234, 0, 0, 0, 0), (395, .aaload, 1, 235, 0, 0, 0, 0), (396, .iload 12, 2, 236, 0, 0, 0, 0), (398, .baload, 1, 237, 0, 0, 0, 0), (399, .ifCond .ne 14, 3, 238, 244, 0, 0, 1), (402, .aload 6, 2, 239, 0, 0, 0, 0), (404, .iload 10, 2, 240, 0, 0, 0, 0)],
  [(406, .aaload, 1, 241, 0, 0, 0, 0), (407, .iload 12, 2, 242, 0, 0, 0, 0), (409, .baload, 1, 243, 0, 0, 0, 0), (410, .ifCond .eq 7, 3, 244, 246, 0, 0, 1), (413, .iconst 1, 1, 245, 0, 0, 0, 0), (414, .goto 4, 3, 246, 247, 0, 0, 1), (417, .iconst 0, 1, 247, 0, 0, 0, 0), (418, .ireturn, 1, 248, 0, 0, 0, 2)]]
def ft_110 : List (List FI) := [[(0, .iconst 0, 1, 1, 0, 0, 0, 0), (1, .istore_n 3, 1, 2, 0, 0, 0, 0), (2, .iconst 0, 1, 3, 0, 0, 0, 0), (3, .istore 4, 2, 4, 0, 0, 0, 0), (5, .iload 4, 2, 5, 0, 0, 0, 0), (7, .aload_n 2, 1, 6, 0, 0, 0, 0), (8, .arraylength, 1, 7, 0, 0, 0, 0), (9, .if_icmp .ge 30, 3, 8, 23, 0, 0, 1), (12, .iload_n 3, 1, 9, 0, 0, 0, 0), (13, .ifCond .ne 14, 3, 10, 17, 0, 0, 1), (16, .aload_n 2, 1, 11, 0, 0, 0, 0), (17, .iload 4, 2, 12, 0, 0, 0, 0), (19, .iaload, 1, 13, 0, 0, 0, 0), (20, .bipush 100, 2, 14, 0, 0, 0, 0), (22, .iload_n 1, 1, 15, 0, 0, 0, 0), (23, .iadd, 1, 16, 0, 0, 0, 0)],
  [(24, .if_icmp .ne 7, 3, 17, 19, 0, 0, 1), (27, .iconst 1, 1, 18, 0, 0, 0, 0), (28, .goto 4, 3, 19, 20, 0, 0, 1), (31, .iconst 0, 1, 20, 0, 0, 0, 0), (32, .istore_n 3, 1, 21, 0, 0, 0, 0), (33, .iinc 4 1, 3, 22, 0, 0, 0, 0), (36, .goto (-31), 3, 23, 4, 0, 0, 1), (39, .iload_n 3, 1, 24, 0, 0, 0, 0), (40, .ireturn, 1, 25, 0, 0, 0, 2)]]
def ft_111 : List (List FI) := [[(0, .aload_n 0, 1, 1, 0, 0, 0, 0), (1, .iconst 0, 1, 2, 0, 0, 0, 0), (2, .putfield 47, 3, 3, 0, 11, 0, 0), (5, .iload_n 1, 1, 4, 0, 0, 0, 0), (6, .invokestatic 210, 3, 5, 0, 1, 95, 3), (9, .ifCond .eq 10, 3, 6, 9, 0, 0, 1), (12, .iload_n 2, 1, 7, 0, 0, 0, 0), (13, .invokestatic 210, 3, 8, 0, 1, 95, 3), (16, .ifCond .ne 5, 3, 9, 11, 0, 0, 1), (19, .iconst (-1), 1, 10, 0, 0, 0, 0), (20, .ireturn, 1, 11, 0, 0, 0, 2), (21, .aload_n 0, 1, 12, 0, 0, 0, 0), (22, .aload_n 0, 1, 13, 0, 0, 0, 0), (23, .getfield 18, 3, 14, 0, 11, 4, 0), (26, .iload_n 1, 1, 15, 0, 0, 0, 0), (27, .aaload, 1, 16, 0, 0, 0, 0)],
  [(28, .aload_n 0, 1, 17, 0, 0, 0, 0), (29, .getfield 18, 3, 18, 0, 11, 4, 0), (32, .iload_n 2, 1, 19, 0, 0, 0, 0), (33, .aaload, 1, 20, 0, 0, 0, 0), (34, .invokevirtual 135, 3, 21, 0, 0, 112, 3), (37, .aload_n 0, 1, 22, 0, 0, 0, 0), (38, .getfield 99, 3, 23, 0, 11, 16, 0), (41, .ifCond .eq 7, 3, 24, 26, 0, 0, 1), (44, .iconst (-1), 1, 25, 0, 0, 0, 0), (45, .goto 7, 3, 26, 28, 0, 0, 1), (48, .aload_n 0, 1, 27, 0, 0, 0, 0), (49, .getfield 96, 3, 28, 0, 11, 18, 0), (52, .ireturn, 1, 29, 0, 0, 0, 2)]]
def ft_112 : List (List FI) := [[(0, .aload_n 0, 1, 1, 0, 0, 0, 0), (1, .iconst 0, 1, 2, 0, 0, 0, 0), (2, .putfield 96, 3, 3, 0, 11, 18, 0), (5, .aload_n 0, 1, 4, 0, 0, 0, 0), (6, .aload_n 1, 1, 5, 0, 0, 0, 0), (7, .aload_n 2, 1, 6, 0, 0, 0, 0), (8, .iconst 2, 1, 7, 0, 0, 0, 0), (9, .newarray .int, 2, 8, 0, 0, 0, 0), (11, .iconst 1, 1, 9, 0, 0, 0, 0), (12, .bipush 6, 2, 10, 0, 0, 0, 0), (14, .anewarray 17, 3, 11, 0, 2, 0, 0), (17, .invokevirtual 114, 3, 12, 0, 0, 113, 3), (20, .return_, 1, 13, 0, 0, 0, 2)]]
def ft_113 : List (List FI) := [[(0, .iload 4, 2, 1, 0, 0, 0, 0), (2, .ifCond .ne 10, 3, 2, 6, 0, 0, 1), (5, .aload_n 0, 1, 3, 0, 0, 0, 0), (6, .aload 5, 2, 4, 0, 0, 0, 0), (8, .invokevirtual 103, 3, 5, 0, 0, 114, 3), (11, .return_, 1, 6, 0, 0, 0, 2), (12, .aload_n 3, 1, 7, 0, 0, 0, 0), (13, .iconst 2, 1, 8, 0, 0, 0, 0), (14, .iload 4, 2, 9, 0, 0, 0, 0), (16, .imul, 1, 10, 0, 0, 0, 0), (17, .iconst 2, 1, 11, 0, 0, 0, 0), (18, .isub, 1, 12, 0, 0, 0, 0), (19, .iaload, 1, 13, 0, 0, 0, 0), (20, .istore 6, 2, 14, 0, 0, 0, 0), (22, .aload_n 3, 1, 15, 0, 0, 0, 0), (23, .iconst 2, 1, 16, 0, 0, 0, 0)],
  [(24, .iload 4, 2, 17, 0, 0, 0, 0), (26, .imul, 1, 18, 0, 0, 0, 0), (27, .iconst 1, 1, 19, 0, 0, 0, 0), (28, .isub, 1, 20, 0, 0, 0, 0), (29, .iaload, 1, 21, 0, 0, 0, 0), (30, .istore 7, 2, 22, 0, 0, 0, 0), (32, .aload_n 0, 1, 23, 0, 0, 0, 0), (33, .aload_n 0, 1, 24, 0, 0, 0, 0), (34, .aload_n 1, 1, 25, 0, 0, 0, 0), (35, .iload 6, 2, 26, 0, 0, 0, 0), (37, .invokevirtual 58, 3, 27, 0, 0, 107, 3), (40, .iload 6, 2, 28, 0, 0, 0, 0), (42, .isub, 1, 29, 0, 0, 0, 0), (43, .aload_n 0, 1, 30, 0, 0, 0, 0), (44, .aload_n 2, 1, 31, 0, 0, 0, 0), (45, .iload 7, 2, 32, 0, 0, 0, 0)],
  [(47, .invokevirtual 58, 3, 33, 0, 0, 107, 3), (50, .iadd, 1, 34, 0, 0, 0, 0), (51, .iload 7, 2, 35, 0, 0, 0, 0), (53, .isub, 1, 36, 0, 0, 0, 0), (54, .invokevirtual 107, 3, 37, 0, 0, 115, 3), (57, .ifCond .ne 4, 3, 38, 39, 0, 0, 1), (60, .return_, 1, 39, 0, 0, 0, 2), (61, .aload_n 0, 1, 40, 0, 0, 0, 0), (62, .aload_n 1, 1, 41, 0, 0, 0, 0), (63, .iload 6, 2, 42, 0, 0, 0, 0), (65, .iaload, 1, 43, 0, 0, 0, 0), (66, .invokevirtual 50, 3, 44, 0, 0, 99, 3), (69, .ifCond .eq 76, 3, 45, 88, 0, 0, 1), (72, .aload 5, 2, 46, 0, 0, 0, 0), (74, .aload_n 1, 1, 47, 0, 0, 0, 0), (75, .iload 6, 2, 48, 0, 0, 0, 0)],
  [(77, .iaload, 1, 49, 0, 0, 0, 0), (78, .bipush 100, 2, 50, 0, 0, 0, 0), (80, .isub, 1, 51, 0, 0, 0, 0), (81, .aaload, 1, 52, 0, 0, 0, 0), (82, .astore 8, 2, 53, 0, 0, 0, 0), (84, .aload_n 0, 1, 54, 0, 0, 0, 0), (85, .aload_n 2, 1, 55, 0, 0, 0, 0), (86, .iload 7, 2, 56, 0, 0, 0, 0), (88, .invokevirtual 66, 3, 57, 0, 0, 106, 3), (91, .astore 9, 2, 58, 0, 0, 0, 0), (93, .aload 8, 2, 59, 0, 0, 0, 0), (95, .ifnull 14, 3, 60, 65, 0, 0, 1), (98, .aload 8, 2, 61, 0, 0, 0, 0), (100, .aload 9, 2, 62, 0, 0, 0, 0), (102, .invokestatic 84, 3, 63, 0, 1, 103, 3), (105, .ifCond .ne 4, 3, 64, 65, 0, 0, 1)],
  [(108, .return_, 1, 65, 0, 0, 0, 2), (109, .aload 5, 2, 66, 0, 0, 0, 0), (111, .aload 5, 2, 67, 0, 0, 0, 0), (113, .arraylength, 1, 68, 0, 0, 0, 0), (114, .invokestatic 110, 3, 69, 0, 1, 116, 3), (117, .astore 10, 2, 70, 0, 0, 0, 0), (119, .aload 10, 2, 71, 0, 0, 0, 0), (121, .aload_n 1, 1, 72, 0, 0, 0, 0), (122, .iload 6, 2, 73, 0, 0, 0, 0), (124, .iaload, 1, 74, 0, 0, 0, 0), (125, .bipush 100, 2, 75, 0, 0, 0, 0), (127, .isub, 1, 76, 0, 0, 0, 0), (128, .aload 9, 2, 77, 0, 0, 0, 0), (130, .aastore, 1, 78, 0, 0, 0, 0), (131, .aload_n 0, 1, 79, 0, 0, 0, 0), (132, .aload_n 1, 1, 80, 0, 0, 0, 0)],
  [(133, .aload_n 2, 1, 81, 0, 0, 0, 0), (134, .aload_n 3, 1, 82, 0, 0, 0, 0), (135, .iload 4, 2, 83, 0, 0, 0, 0), (137, .iconst 1, 1, 84, 0, 0, 0, 0), (138, .isub, 1, 85, 0, 0, 0, 0), (139, .aload 10, 2, 86, 0, 0, 0, 0), (141, .invokevirtual 114, 3, 87, 0, 0, 113, 3), (144, .return_, 1, 88, 0, 0, 0, 2), (145, .aload_n 1, 1, 89, 0, 0, 0, 0), (146, .iload 6, 2, 90, 0, 0, 0, 0), (148, .iaload, 1, 91, 0, 0, 0, 0), (149, .aload_n 2, 1, 92, 0, 0, 0, 0), (150, .iload 7, 2, 93, 0, 0, 0, 0), (152, .iaload, 1, 94, 0, 0, 0, 0), (153, .if_icmp .eq 4, 3, 95, 96, 0, 0, 1), (156, .return_, 1, 96, 0, 0, 0, 2)],
  [(157, .aload_n 0, 1, 97, 0, 0, 0, 0), (158, .getfield 7, 3, 98, 0, 11, 1, 0), (161, .aload_n 1, 1, 99, 0, 0, 0, 0), (162, .iload 6, 2, 100, 0, 0, 0, 0), (164, .iaload, 1, 101, 0, 0, 0, 0), (165, .iaload, 1, 102, 0, 0, 0, 0), (166, .istore 8, 2, 103, 0, 0, 0, 0), (168, .iconst 0, 1, 104, 0, 0, 0, 0), (169, .istore 9, 2, 105, 0, 0, 0, 0), (171, .iload 9, 2, 106, 0, 0, 0, 0), (173, .iload 8, 2, 107, 0, 0, 0, 0), (175, .iconst 2, 1, 108, 0, 0, 0, 0), (176, .if_icmp .ne 19, 3, 109, 118, 0, 0, 1), (179, .aload_n 0, 1, 110, 0, 0, 0, 0), (180, .getfield 13, 3, 111, 0, 11, 2, 0), (183, .aload_n 1, 1, 112, 0, 0, 0, 0)],
  [(184, .iload 6, 2, 113, 0, 0, 0, 0), (186, .iaload, 1, 114, 0, 0, 0, 0), (187, .baload, 1, 115, 0, 0, 0, 0), (188, .ifCond .eq 7, 3, 116, 118, 0, 0, 1), (191, .iconst 2, 1, 117, 0, 0, 0, 0), (192, .goto 4, 3, 118, 119, 0, 0, 1), (195, .iconst 1, 1, 119, 0, 0, 0, 0), (196, .if_icmp .ge 191, 3, 120, 230, 0, 0, 1), (199, .iconst 2, 1, 121, 0, 0, 0, 0), (200, .iload 4, 2, 122, 0, 0, 0, 0), (202, .iconst 1, 1, 123, 0, 0, 0, 0), (203, .iadd, 1, 124, 0, 0, 0, 0), (204, .imul, 1, 125, 0, 0, 0, 0), (205, .newarray .int, 2, 126, 0, 0, 0, 0), (207, .astore 10, 2, 127, 0, 0, 0, 0), (209, .iconst 0, 1, 128, 0, 0, 0, 0)],
  [(210, .istore 11, 2, 129, 0, 0, 0, 0), (212, .iload 11, 2, 130, 0, 0, 0, 0), (214, .iconst 2, 1, 131, 0, 0, 0, 0), (215, .iload 4, 2, 132, 0, 0, 0, 0), (217, .imul, 1, 133, 0, 0, 0, 0), (218, .iconst 2, 1, 134, 0, 0, 0, 0), (219, .isub, 1, 135, 0, 0, 0, 0), (220, .if_icmp .ge 18, 3, 136, 144, 0, 0, 1), (223, .aload 10, 2, 137, 0, 0, 0, 0), (225, .iload 11, 2, 138, 0, 0, 0, 0), (227, .aload_n 3, 1, 139, 0, 0, 0, 0), (228, .iload 11, 2, 140, 0, 0, 0, 0), (230, .iaload, 1, 141, 0, 0, 0, 0), (231, .iastore, 1, 142, 0, 0, 0, 0), (232, .iinc 11 1, 3, 143, 0, 0, 0, 0), (235, .goto (-23), 3, 144, 129, 0, 0, 1)],
  [(238, .iload 4, 2, 145, 0, 0, 0, 0), (240, .iconst 1, 1, 146, 0, 0, 0, 0), (241, .isub, 1, 147, 0, 0, 0, 0), (242, .istore 11, 2, 148, 0, 0, 0, 0), (244, .iload 8, 2, 149, 0, 0, 0, 0), (246, .iconst 1, 1, 150, 0, 0, 0, 0), (247, .if_icmp .le 15, 3, 151, 158, 0, 0, 1), (250, .aload_n 0, 1, 152, 0, 0, 0, 0), (251, .aload_n 1, 1, 153, 0, 0, 0, 0), (252, .iload 6, 2, 154, 0, 0, 0, 0), (254, .iconst 1, 1, 155, 0, 0, 0, 0), (255, .iadd, 1, 156, 0, 0, 0, 0), (256, .invokevirtual 58, 3, 157, 0, 0, 107, 3), (259, .goto 4, 3, 158, 159, 0, 0, 1), (262, .iconst 0, 1, 159, 0, 0, 0, 0), (263, .istore 12, 2, 160, 0, 0, 0, 0)],
  [(265, .iload 8, 2, 161, 0, 0, 0, 0), (267, .iconst 1, 1, 162, 0, 0, 0, 0), (268, .if_icmp .le 15, 3, 163, 170, 0, 0, 1), (271, .aload_n 0, 1, 164, 0, 0, 0, 0), (272, .aload_n 2, 1, 165, 0, 0, 0, 0), (273, .iload 7, 2, 166, 0, 0, 0, 0), (275, .iconst 1, 1, 167, 0, 0, 0, 0), (276, .iadd, 1, 168, 0, 0, 0, 0), (277, .invokevirtual 58, 3, 169, 0, 0, 107, 3), (280, .goto 4, 3, 170, 171, 0, 0, 1), (283, .iconst 0, 1, 171, 0, 0, 0, 0), (284, .istore 13, 2, 172, 0, 0, 0, 0), (286, .iload 8, 2, 173, 0, 0, 0, 0), (288, .iconst 1, 1, 174, 0, 0, 0, 0), (289, .if_icmp .le 38, 3, 175, 196, 0, 0, 1), (292, .aload 10, 2, 176, 0, 0, 0, 0)],
  [(294, .iconst 2, 1, 177, 0, 0, 0, 0), (295, .iload 11, 2, 178, 0, 0, 0, 0), (297, .imul, 1, 179, 0, 0, 0, 0), (298, .iload 12, 2, 180, 0, 0, 0, 0), (300, .iastore, 1, 181, 0, 0, 0, 0), (301, .aload 10, 2, 182, 0, 0, 0, 0), (303, .iconst 2, 1, 183, 0, 0, 0, 0), (304, .iload 11, 2, 184, 0, 0, 0, 0), (306, .imul, 1, 185, 0, 0, 0, 0), (307, .iconst 1, 1, 186, 0, 0, 0, 0), (308, .iadd, 1, 187, 0, 0, 0, 0), (309, .iload 9, 2, 188, 0, 0, 0, 0), (311, .ifCond .ne 8, 3, 189, 191, 0, 0, 1), (314, .iload 13, 2, 190, 0, 0, 0, 0), (316, .goto 7, 3, 191, 194, 0, 0, 1), (319, .iload 7, 2, 192, 0, 0, 0, 0)],
  [(321, .iconst 1, 1, 193, 0, 0, 0, 0), (322, .iadd, 1, 194, 0, 0, 0, 0), (323, .iastore, 1, 195, 0, 0, 0, 0), (324, .iinc 11 1, 3, 196, 0, 0, 0, 0), (327, .iload 8, 2, 197, 0, 0, 0, 0), (329, .ifCond .le 40, 3, 198, 221, 0, 0, 1), (332, .aload 10, 2, 199, 0, 0, 0, 0), (334, .iconst 2, 1, 200, 0, 0, 0, 0), (335, .iload 11, 2, 201, 0, 0, 0, 0), (337, .imul, 1, 202, 0, 0, 0, 0), (338, .iload 6, 2, 203, 0, 0, 0, 0), (340, .iconst 1, 1, 204, 0, 0, 0, 0), (341, .iadd, 1, 205, 0, 0, 0, 0), (342, .iastore, 1, 206, 0, 0, 0, 0), (343, .aload 10, 2, 207, 0, 0, 0, 0), (345, .iconst 2, 1, 208, 0, 0, 0, 0)],
  [(346, .iload 11, 2, 209, 0, 0, 0, 0), (348, .imul, 1, 210, 0, 0, 0, 0), (349, .iconst 1, 1, 211, 0, 0, 0, 0), (350, .iadd, 1, 212, 0, 0, 0, 0), (351, .iload 9, 2, 213, 0, 0, 0, 0), (353, .ifCond .ne 10, 3, 214, 218, 0, 0, 1), (356, .iload 7, 2, 215, 0, 0, 0, 0), (358, .iconst 1, 1, 216, 0, 0, 0, 0), (359, .iadd, 1, 217, 0, 0, 0, 0), (360, .goto 5, 3, 218, 219, 0, 0, 1), (363, .iload 13, 2, 219, 0, 0, 0, 0), (365, .iastore, 1, 220, 0, 0, 0, 0), (366, .iinc 11 1, 3, 221, 0, 0, 0, 0), (369, .aload_n 0, 1, 222, 0, 0, 0, 0), (370, .aload_n 1, 1, 223, 0, 0, 0, 0), (371, .aload_n 2, 1, 224, 0, 0, 0, 0)],
  [(372, .aload 10, 2, 225, 0, 0, 0, 0), (374, .iload 11, 2, 226, 0, 0, 0, 0), (376, .aload 5, 2, 227, 0, 0, 0, 0), (378, .invokevirtual 114, 3, 228, 0, 0, 113, 3), (381, .iinc 9 1, 3, 229, 0, 0, 0, 0), (384, .goto (-213), 3, 230, 105, 0, 0, 1), (387, .return_, 1, 231, 0, 0, 0, 2)]]
def ft_114 : List (List FI) := [[(0, .iconst 0, 1, 1, 0, 0, 0, 0), (1, .istore_n 2, 1, 2, 0, 0, 0, 0), (2, .iload_n 2, 1, 3, 0, 0, 0, 0), (3, .aload_n 0, 1, 4, 0, 0, 0, 0), (4, .getfield 96, 3, 5, 0, 11, 18, 0), (7, .if_icmp .ge 100, 3, 6, 60, 0, 0, 1), (10, .iconst 1, 1, 7, 0, 0, 0, 0), (11, .istore_n 3, 1, 8, 0, 0, 0, 0), (12, .iconst 0, 1, 9, 0, 0, 0, 0), (13, .istore 4, 2, 10, 0, 0, 0, 0), (15, .iload 4, 2, 11, 0, 0, 0, 0), (17, .aload_n 1, 1, 12, 0, 0, 0, 0), (18, .arraylength, 1, 13, 0, 0, 0, 0), (19, .if_icmp .ge 77, 3, 14, 55, 0, 0, 1), (22, .iload_n 3, 1, 15, 0, 0, 0, 0), (23, .ifCond .eq 73, 3, 16, 55, 0, 0, 1)],
  [(26, .aload_n 1, 1, 17, 0, 0, 0, 0), (27, .iload 4, 2, 18, 0, 0, 0, 0), (29, .aaload, 1, 19, 0, 0, 0, 0), (30, .ifnonnull 23, 3, 20, 31, 0, 0, 1), (33, .aload_n 0, 1, 21, 0, 0, 0, 0), (34, .getfield 40, 3, 22, 0, 11, 17, 0), (37, .iload_n 2, 1, 23, 0, 0, 0, 0), (38, .aaload, 1, 24, 0, 0, 0, 0), (39, .iload 4, 2, 25, 0, 0, 0, 0), (41, .aaload, 1, 26, 0, 0, 0, 0), (42, .ifnonnull 7, 3, 27, 29, 0, 0, 1), (45, .iconst 1, 1, 28, 0, 0, 0, 0), (46, .goto 43, 3, 29, 52, 0, 0, 1), (49, .iconst 0, 1, 30, 0, 0, 0, 0), (50, .goto 39, 3, 31, 52, 0, 0, 1), (53, .aload_n 0, 1, 32, 0, 0, 0, 0)],
  [(54, .getfield 40, 3, 33, 0, 11, 17, 0), (57, .iload_n 2, 1, 34, 0, 0, 0, 0), (58, .aaload, 1, 35, 0, 0, 0, 0), (59, .iload 4, 2, 36, 0, 0, 0, 0), (61, .aaload, 1, 37, 0, 0, 0, 0), (62, .ifnull 26, 3, 38, 51, 0, 0, 1), (65, .aload_n 1, 1, 39, 0, 0, 0, 0), (66, .iload 4, 2, 40, 0, 0, 0, 0), (68, .aaload, 1, 41, 0, 0, 0, 0), (69, .aload_n 0, 1, 42, 0, 0, 0, 0), (70, .getfield 40, 3, 43, 0, 11, 17, 0), (73, .iload_n 2, 1, 44, 0, 0, 0, 0), (74, .aaload, 1, 45, 0, 0, 0, 0), (75, .iload 4, 2, 46, 0, 0, 0, 0), (77, .aaload, 1, 47, 0, 0, 0, 0), (78, .invokestatic 84, 3, 48, 0, 1, 103, 3)],
  [(81, .ifCond .eq 7, 3, 49, 51, 0, 0, 1), (84, .iconst 1, 1, 50, 0, 0, 0, 0), (85, .goto 4, 3, 51, 52, 0, 0, 1), (88, .iconst 0, 1, 52, 0, 0, 0, 0), (89, .istore_n 3, 1, 53, 0, 0, 0, 0), (90, .iinc 4 1, 3, 54, 0, 0, 0, 0), (93, .goto (-78), 3, 55, 10, 0, 0, 1), (96, .iload_n 3, 1, 56, 0, 0, 0, 0), (97, .ifCond .eq 4, 3, 57, 58, 0, 0, 1), (100, .return_, 1, 58, 0, 0, 0, 2), (101, .iinc 2 1, 3, 59, 0, 0, 0, 0), (104, .goto (-102), 3, 60, 2, 0, 0, 1), (107, .aload_n 0, 1, 61, 0, 0, 0, 0), (108, .getfield 96, 3, 62, 0, 11, 18, 0), (111, .aload_n 0, 1, 63, 0, 0, 0, 0), (112, .getfield 40, 3, 64, 0, 11, 17, 0)],
  [(115, .arraylength, 1, 65, 0, 0, 0, 0), (116, .if_icmp .ne 43, 3, 66, 90, 0, 0, 1), (119, .iconst 2, 1, 67, 0, 0, 0, 0), (120, .aload_n 0, 1, 68, 0, 0, 0, 0), (121, .getfield 96, 3, 69, 0, 11, 18, 0), (124, .imul, 1, 70, 0, 0, 0, 0), (125, .anewarray 39, 3, 71, 0, 3, 0, 0), (128, .astore_n 2, 1, 72, 0, 0, 0, 0), (129, .iconst 0, 1, 73, 0, 0, 0, 0), (130, .istore_n 3, 1, 74, 0, 0, 0, 0), (131, .iload_n 3, 1, 75, 0, 0, 0, 0), (132, .aload_n 0, 1, 76, 0, 0, 0, 0), (133, .getfield 96, 3, 77, 0, 11, 18, 0), (136, .if_icmp .ge 18, 3, 78, 87, 0, 0, 1), (139, .aload_n 2, 1, 79, 0, 0, 0, 0), (140, .iload_n 3, 1, 80, 0, 0, 0, 0)],
  [(141, .aload_n 0, 1, 81, 0, 0, 0, 0), (142, .getfield 40, 3, 82, 0, 11, 17, 0), (145, .iload_n 3, 1, 83, 0, 0, 0, 0), (146, .aaload, 1, 84, 0, 0, 0, 0), (147, .aastore, 1, 85, 0, 0, 0, 0), (148, .iinc 3 1, 3, 86, 0, 0, 0, 0), (151, .goto (-20), 3, 87, 74, 0, 0, 1), (154, .aload_n 0, 1, 88, 0, 0, 0, 0), (155, .aload_n 2, 1, 89, 0, 0, 0, 0), (156, .putfield 40, 3, 90, 0, 11, 17, 0), (159, .aload_n 0, 1, 91, 0, 0, 0, 0), (160, .getfield 40, 3, 92, 0, 11, 17, 0), (163, .aload_n 0, 1, 93, 0, 0, 0, 0), (164, .getfield 96, 3, 94, 0, 11, 18, 0), (167, .aload_n 1, 1, 95, 0, 0, 0, 0), (168, .aastore, 1, 96, 0, 0, 0, 0)],
  [(169, .aload_n 0, 1, 97, 0, 0, 0, 0), (170, .dup, 1, 98, 0, 0, 0, 0), (171, .getfield 96, 3, 99, 0, 11, 18, 0), (174, .iconst 1, 1, 100, 0, 0, 0, 0), (175, .iadd, 1, 101, 0, 0, 0, 0), (176, .putfield 96, 3, 102, 0, 11, 18, 0), (179, .return_, 1, 103, 0, 0, 0, 2)]]
def ft_115 : List (List FI) := [[(0, .aload_n 0, 1, 1, 0, 0, 0, 0), (1, .aload_n 0, 1, 2, 0, 0, 0, 0), (2, .getfield 99, 3, 3, 0, 11, 16, 0), (5, .ifCond .ne 11, 3, 4, 8, 0, 0, 1), (8, .iload_n 1, 1, 5, 0, 0, 0, 0), (9, .aload_n 0, 1, 6, 0, 0, 0, 0), (10, .getfield 35, 3, 7, 0, 11, 15, 0), (13, .if_icmp .le 7, 3, 8, 10, 0, 0, 1), (16, .iconst 1, 1, 9, 0, 0, 0, 0), (17, .goto 4, 3, 10, 11, 0, 0, 1), (20, .iconst 0, 1, 11, 0, 0, 0, 0), (21, .putfield 99, 3, 12, 0, 11, 16, 0), (24, .aload_n 0, 1, 13, 0, 0, 0, 0), (25, .getfield 99, 3, 14, 0, 11, 16, 0), (28, .ifCond .ne 13, 3, 15, 21, 0, 0, 1), (31, .aload_n 0, 1, 16, 0, 0, 0, 0)],
  [(32, .dup, 1, 17, 0, 0, 0, 0), (33, .getfield 35, 3, 18, 0, 11, 15, 0), (36, .iload_n 1, 1, 19, 0, 0, 0, 0), (37, .isub, 1, 20, 0, 0, 0, 0), (38, .putfield 35, 3, 21, 0, 11, 15, 0), (41, .aload_n 0, 1, 22, 0, 0, 0, 0), (42, .getfield 99, 3, 23, 0, 11, 16, 0), (45, .ifCond .ne 7, 3, 24, 26, 0, 0, 1), (48, .iconst 1, 1, 25, 0, 0, 0, 0), (49, .goto 4, 3, 26, 27, 0, 0, 1), (52, .iconst 0, 1, 27, 0, 0, 0, 0), (53, .ireturn, 1, 28, 0, 0, 0, 2)]]
def ft_116 : List (List FI) := [[(0, .iload_n 1, 1, 1, 0, 0, 0, 0), (1, .anewarray 17, 3, 2, 0, 2, 0, 0), (4, .astore_n 2, 1, 3, 0, 0, 0, 0), (5, .iconst 0, 1, 4, 0, 0, 0, 0), (6, .istore_n 3, 1, 5, 0, 0, 0, 0), (7, .iload_n 3, 1, 6, 0, 0, 0, 0), (8, .iload_n 1, 1, 7, 0, 0, 0, 0), (9, .if_icmp .ge 15, 3, 8, 16, 0, 0, 1), (12, .aload_n 2, 1, 9, 0, 0, 0, 0), (13, .iload_n 3, 1, 10, 0, 0, 0, 0), (14, .aload_n 0, 1, 11, 0, 0, 0, 0), (15, .iload_n 3, 1, 12, 0, 0, 0, 0), (16, .aaload, 1, 13, 0, 0, 0, 0), (17, .aastore, 1, 14, 0, 0, 0, 0), (18, .iinc 3 1, 3, 15, 0, 0, 0, 0), (21, .goto (-14), 3, 16, 5, 0, 0, 1)],
  [(24, .aload_n 2, 1, 17, 0, 0, 0, 0), (25, .areturn, 1, 18, 0, 0, 0, 2)]]
def ft_117 : List (List FI) := [[(0, .aload_n 0, 1, 1, 0, 0, 0, 0), (1, .iconst 0, 1, 2, 0, 0, 0, 0), (2, .putfield 47, 3, 3, 0, 11, 0, 0), (5, .iload_n 1, 1, 4, 0, 0, 0, 0), (6, .invokestatic 210, 3, 5, 0, 1, 95, 3), (9, .ifCond .eq 30, 3, 6, 17, 0, 0, 1), (12, .iload_n 2, 1, 7, 0, 0, 0, 0), (13, .invokestatic 210, 3, 8, 0, 1, 95, 3), (16, .ifCond .eq 23, 3, 9, 17, 0, 0, 1), (19, .iload 5, 2, 10, 0, 0, 0, 0), (21, .invokestatic 210, 3, 11, 0, 1, 95, 3), (24, .ifCond .eq 15, 3, 12, 17, 0, 0, 1), (27, .iload 4, 2, 13, 0, 0, 0, 0), (29, .ifCond .lt 10, 3, 14, 17, 0, 0, 1), (32, .iload 4, 2, 15, 0, 0, 0, 0), (34, .bipush 6, 2, 16, 0, 0, 0, 0)],
  [(36, .if_icmp .lt 5, 3, 17, 19, 0, 0, 1), (39, .iconst 0, 1, 18, 0, 0, 0, 0), (40, .ireturn, 1, 19, 0, 0, 0, 2), (41, .aload_n 0, 1, 20, 0, 0, 0, 0), (42, .aload_n 0, 1, 21, 0, 0, 0, 0), (43, .getfield 18, 3, 22, 0, 11, 4, 0), (46, .iload_n 1, 1, 23, 0, 0, 0, 0), (47, .aaload, 1, 24, 0, 0, 0, 0), (48, .aload_n 0, 1, 25, 0, 0, 0, 0), (49, .getfield 18, 3, 26, 0, 11, 4, 0), (52, .iload_n 2, 1, 27, 0, 0, 0, 0), (53, .aaload, 1, 28, 0, 0, 0, 0), (54, .invokevirtual 135, 3, 29, 0, 0, 112, 3), (57, .aload_n 0, 1, 30, 0, 0, 0, 0), (58, .getfield 99, 3, 31, 0, 11, 16, 0), (61, .ifCond .ne 27, 3, 32, 45, 0, 0, 1)],
  [(64, .iload_n 3, 1, 33, 0, 0, 0, 0), (65, .ifCond .lt 23, 3, 34, 45, 0, 0, 1), (68, .iload_n 3, 1, 35, 0, 0, 0, 0), (69, .aload_n 0, 1, 36, 0, 0, 0, 0), (70, .getfield 96, 3, 37, 0, 11, 18, 0), (73, .if_icmp .ge 15, 3, 38, 45, 0, 0, 1), (76, .aload_n 0, 1, 39, 0, 0, 0, 0), (77, .getfield 40, 3, 40, 0, 11, 17, 0), (80, .iload_n 3, 1, 41, 0, 0, 0, 0), (81, .aaload, 1, 42, 0, 0, 0, 0), (82, .iload 4, 2, 43, 0, 0, 0, 0), (84, .aaload, 1, 44, 0, 0, 0, 0), (85, .ifnonnull 5, 3, 45, 47, 0, 0, 1), (88, .iconst 0, 1, 46, 0, 0, 0, 0), (89, .ireturn, 1, 47, 0, 0, 0, 2), (90, .aload_n 0, 1, 48, 0, 0, 0, 0)],
  [(91, .getfield 18, 3, 49, 0, 11, 4, 0), (94, .iload 5, 2, 50, 0, 0, 0, 0), (96, .aload_n 0, 1, 51, 0, 0, 0, 0), (97, .getfield 40, 3, 52, 0, 11, 17, 0), (100, .iload_n 3, 1, 53, 0, 0, 0, 0), (101, .aaload, 1, 54, 0, 0, 0, 0), (102, .iload 4, 2, 55, 0, 0, 0, 0), (104, .aaload, 1, 56, 0, 0, 0, 0), (105, .aastore, 1, 57, 0, 0, 0, 0), (106, .iconst 1, 1, 58, 0, 0, 0, 0), (107, .ireturn, 1, 59, 0, 0, 0, 2)]]
def ft_118 : List (List FI) := [[(0, .aload_n 0, 1, 1, 0, 0, 0, 0), (1, .iconst 0, 1, 2, 0, 0, 0, 0), (2, .putfield 47, 3, 3, 0, 11, 0, 0), (5, .iload_n 1, 1, 4, 0, 0, 0, 0), (6, .invokestatic 210, 3, 5, 0, 1, 95, 3), (9, .ifCond .eq 10, 3, 6, 9, 0, 0, 1), (12, .iload_n 2, 1, 7, 0, 0, 0, 0), (13, .invokestatic 210, 3, 8, 0, 1, 95, 3), (16, .ifCond .ne 5, 3, 9, 11, 0, 0, 1), (19, .iconst (-1), 1, 10, 0, 0, 0, 0), (20, .ireturn, 1, 11, 0, 0, 0, 2), (21, .aload_n 0, 1, 12, 0, 0, 0, 0), (22, .aload_n 0, 1, 13, 0, 0, 0, 0), (23, .getfield 18, 3, 14, 0, 11, 4, 0), (26, .iload_n 1, 1, 15, 0, 0, 0, 0), (27, .aaload, 1, 16, 0, 0, 0, 0)],
  [(28, .aload_n 0, 1, 17, 0, 0, 0, 0), (29, .getfield 18, 3, 18, 0, 11, 4, 0), (32, .iload_n 2, 1, 19, 0, 0, 0, 0), (33, .aaload, 1, 20, 0, 0, 0, 0), (34, .invokevirtual 177, 3, 21, 0, 0, 119, 3), (37, .aload_n 0, 1, 22, 0, 0, 0, 0), (38, .getfield 118, 3, 23, 0, 11, 12, 0), (41, .ifCond .eq 8, 3, 24, 26, 0, 0, 1), (44, .bipush 33, 2, 25, 0, 0, 0, 0), (46, .goto 7, 3, 26, 28, 0, 0, 1), (49, .aload_n 0, 1, 27, 0, 0, 0, 0), (50, .getfield 96, 3, 28, 0, 11, 18, 0), (53, .ireturn, 1, 29, 0, 0, 0, 2)]]
def ft_119 : List (List FI) := [[(0, .aload_n 0, 1, 1, 0, 0, 0, 0), (1, .iconst 0, 1, 2, 0, 0, 0, 0), (2, .putfield 96, 3, 3, 0, 11, 18, 0), (5, .aload_n 0, 1, 4, 0, 0, 0, 0), (6, .iconst 0, 1, 5, 0, 0, 0, 0), (7, .putfield 118, 3, 6, 0, 11, 12, 0), (10, .aload_n 0, 1, 7, 0, 0, 0, 0), (11, .iconst 0, 1, 8, 0, 0, 0, 0), (12, .putfield 132, 3, 9, 0, 11, 13, 0), (15, .iconst 2, 1, 10, 0, 0, 0, 0), (16, .anewarray 17, 3, 11, 0, 2, 0, 0), (19, .astore_n 3, 1, 12, 0, 0, 0, 0), (20, .aload_n 3, 1, 13, 0, 0, 0, 0), (21, .iconst 0, 1, 14, 0, 0, 0, 0), (22, .aload_n 1, 1, 15, 0, 0, 0, 0), (23, .aastore, 1, 16, 0, 0, 0, 0)],
  [(24, .aload_n 3, 1, 17, 0, 0, 0, 0), (25, .iconst 1, 1, 18, 0, 0, 0, 0), (26, .aload_n 2, 1, 19, 0, 0, 0, 0), (27, .aastore, 1, 20, 0, 0, 0, 0), (28, .aload_n 0, 1, 21, 0, 0, 0, 0), (29, .aload_n 3, 1, 22, 0, 0, 0, 0), (30, .iconst 1, 1, 23, 0, 0, 0, 0), (31, .bipush 12, 2, 24, 0, 0, 0, 0), (33, .anewarray 17, 3, 25, 0, 2, 0, 0), (36, .invokevirtual 124, 3, 26, 0, 0, 120, 3), (39, .aload_n 0, 1, 27, 0, 0, 0, 0), (40, .aload_n 0, 1, 28, 0, 0, 0, 0), (41, .getfield 118, 3, 29, 0, 11, 12, 0), (44, .ifCond .ne 12, 3, 30, 34, 0, 0, 1), (47, .aload_n 0, 1, 31, 0, 0, 0, 0), (48, .getfield 96, 3, 32, 0, 11, 18, 0)],
  [(51, .bipush 32, 2, 33, 0, 0, 0, 0), (53, .if_icmp .le 7, 3, 34, 36, 0, 0, 1), (56, .iconst 1, 1, 35, 0, 0, 0, 0), (57, .goto 4, 3, 36, 37, 0, 0, 1), (60, .iconst 0, 1, 37, 0, 0, 0, 0), (61, .putfield 118, 3, 38, 0, 11, 12, 0), (64, .return_, 1, 39, 0, 0, 0, 2)]]
def ft_120 : List (List FI) := [[(0, .aload_n 0, 1, 1, 0, 0, 0, 0), (1, .getfield 118, 3, 2, 0, 11, 12, 0), (4, .ifCond .ne 12, 3, 3, 7, 0, 0, 1), (7, .aload_n 0, 1, 4, 0, 0, 0, 0), (8, .getfield 96, 3, 5, 0, 11, 18, 0), (11, .bipush 32, 2, 6, 0, 0, 0, 0), (13, .if_icmp .le 4, 3, 7, 8, 0, 0, 1), (16, .return_, 1, 8, 0, 0, 0, 2), (17, .iload_n 2, 1, 9, 0, 0, 0, 0), (18, .ifCond .ne 13, 3, 10, 16, 0, 0, 1), (21, .aload_n 0, 1, 11, 0, 0, 0, 0), (22, .invokevirtual 121, 3, 12, 0, 0, 121, 3), (25, .aload_n 0, 1, 13, 0, 0, 0, 0), (26, .aload_n 3, 1, 14, 0, 0, 0, 0), (27, .invokevirtual 103, 3, 15, 0, 0, 114, 3), (30, .return_, 1, 16, 0, 0, 0, 2)],
  [(31, .aload_n 0, 1, 17, 0, 0, 0, 0), (32, .aload_n 1, 1, 18, 0, 0, 0, 0), (33, .iconst 2, 1, 19, 0, 0, 0, 0), (34, .iload_n 2, 1, 20, 0, 0, 0, 0), (35, .imul, 1, 21, 0, 0, 0, 0), (36, .iconst 2, 1, 22, 0, 0, 0, 0), (37, .isub, 1, 23, 0, 0, 0, 0), (38, .aaload, 1, 24, 0, 0, 0, 0), (39, .iconst 0, 1, 25, 0, 0, 0, 0), (40, .aload_n 3, 1, 26, 0, 0, 0, 0), (41, .invokevirtual 70, 3, 27, 0, 0, 122, 3), (44, .astore 4, 2, 28, 0, 0, 0, 0), (46, .aload_n 0, 1, 29, 0, 0, 0, 0), (47, .aload_n 1, 1, 30, 0, 0, 0, 0), (48, .iconst 2, 1, 31, 0, 0, 0, 0), (49, .iload_n 2, 1, 32, 0, 0, 0, 0)],
  [(50, .imul, 1, 33, 0, 0, 0, 0), (51, .iconst 1, 1, 34, 0, 0, 0, 0), (52, .isub, 1, 35, 0, 0, 0, 0), (53, .aaload, 1, 36, 0, 0, 0, 0), (54, .iconst 0, 1, 37, 0, 0, 0, 0), (55, .aload_n 3, 1, 38, 0, 0, 0, 0), (56, .invokevirtual 70, 3, 39, 0, 0, 122, 3), (59, .astore 5, 2, 40, 0, 0, 0, 0), (61, .aload_n 0, 1, 41, 0, 0, 0, 0), (62, .aload 4, 2, 42, 0, 0, 0, 0), (64, .arraylength, 1, 43, 0, 0, 0, 0), (65, .aload 5, 2, 44, 0, 0, 0, 0), (67, .arraylength, 1, 45, 0, 0, 0, 0), (68, .iadd, 1, 46, 0, 0, 0, 0), (69, .invokevirtual 107, 3, 47, 0, 0, 115, 3), (72, .ifCond .ne 9, 3, 48, 52, 0, 0, 1)],
  [(75, .aload_n 0, 1, 49, 0, 0, 0, 0), (76, .iconst 1, 1, 50, 0, 0, 0, 0), (77, .putfield 118, 3, 51, 0, 11, 12, 0), (80, .return_, 1, 52, 0, 0, 0, 2), (81, .aload 4, 2, 53, 0, 0, 0, 0), (83, .aload 5, 2, 54, 0, 0, 0, 0), (85, .invokestatic 84, 3, 55, 0, 1, 103, 3), (88, .ifCond .eq 13, 3, 56, 64, 0, 0, 1), (91, .aload_n 0, 1, 57, 0, 0, 0, 0), (92, .aload_n 1, 1, 58, 0, 0, 0, 0), (93, .iload_n 2, 1, 59, 0, 0, 0, 0), (94, .iconst 1, 1, 60, 0, 0, 0, 0), (95, .isub, 1, 61, 0, 0, 0, 0), (96, .aload_n 3, 1, 62, 0, 0, 0, 0), (97, .invokevirtual 124, 3, 63, 0, 0, 120, 3), (100, .return_, 1, 64, 0, 0, 0, 2)],
  [(101, .aload_n 0, 1, 65, 0, 0, 0, 0), (102, .aload 4, 2, 66, 0, 0, 0, 0), (104, .iconst 0, 1, 67, 0, 0, 0, 0), (105, .iaload, 1, 68, 0, 0, 0, 0), (106, .invokevirtual 50, 3, 69, 0, 0, 99, 3), (109, .istore 6, 2, 70, 0, 0, 0, 0), (111, .iload 6, 2, 71, 0, 0, 0, 0), (113, .ifCond .ne 14, 3, 72, 78, 0, 0, 1), (116, .aload_n 0, 1, 73, 0, 0, 0, 0), (117, .aload 5, 2, 74, 0, 0, 0, 0), (119, .iconst 0, 1, 75, 0, 0, 0, 0), (120, .iaload, 1, 76, 0, 0, 0, 0), (121, .invokevirtual 50, 3, 77, 0, 0, 99, 3), (124, .ifCond .eq 104, 3, 78, 133, 0, 0, 1), (127, .iload 6, 2, 79, 0, 0, 0, 0), (129, .ifCond .eq 29, 3, 80, 95, 0, 0, 1)],
  [(132, .aload_n 0, 1, 81, 0, 0, 0, 0), (133, .aload 5, 2, 82, 0, 0, 0, 0), (135, .iconst 0, 1, 83, 0, 0, 0, 0), (136, .iaload, 1, 84, 0, 0, 0, 0), (137, .invokevirtual 50, 3, 85, 0, 0, 99, 3), (140, .ifCond .eq 14, 3, 86, 93, 0, 0, 1), (143, .aload 4, 2, 87, 0, 0, 0, 0), (145, .iconst 0, 1, 88, 0, 0, 0, 0), (146, .iaload, 1, 89, 0, 0, 0, 0), (147, .aload 5, 2, 90, 0, 0, 0, 0), (149, .iconst 0, 1, 91, 0, 0, 0, 0), (150, .iaload, 1, 92, 0, 0, 0, 0), (151, .if_icmp .le 7, 3, 93, 95, 0, 0, 1), (154, .iconst 1, 1, 94, 0, 0, 0, 0), (155, .goto 4, 3, 95, 96, 0, 0, 1), (158, .iconst 0, 1, 96, 0, 0, 0, 0)],
  [(159, .istore 7, 2, 97, 0, 0, 0, 0), (161, .iload 7, 2, 98, 0, 0, 0, 0), (163, .ifCond .eq 10, 3, 99, 103, 0, 0, 1), (166, .aload 4, 2, 100, 0, 0, 0, 0), (168, .iconst 0, 1, 101, 0, 0, 0, 0), (169, .iaload, 1, 102, 0, 0, 0, 0), (170, .goto 7, 3, 103, 106, 0, 0, 1), (173, .aload 5, 2, 104, 0, 0, 0, 0), (175, .iconst 0, 1, 105, 0, 0, 0, 0), (176, .iaload, 1, 106, 0, 0, 0, 0), (177, .bipush 100, 2, 107, 0, 0, 0, 0), (179, .isub, 1, 108, 0, 0, 0, 0), (180, .istore 8, 2, 109, 0, 0, 0, 0), (182, .iload 7, 2, 110, 0, 0, 0, 0), (184, .ifCond .eq 8, 3, 111, 113, 0, 0, 1), (187, .aload 5, 2, 112, 0, 0, 0, 0)],
  [(189, .goto 5, 3, 113, 114, 0, 0, 1), (192, .aload 4, 2, 114, 0, 0, 0, 0), (194, .astore 9, 2, 115, 0, 0, 0, 0), (196, .aload_n 0, 1, 116, 0, 0, 0, 0), (197, .iload 8, 2, 117, 0, 0, 0, 0), (199, .aload 9, 2, 118, 0, 0, 0, 0), (201, .invokevirtual 92, 3, 119, 0, 0, 110, 3), (204, .ifCond .ne 19, 3, 120, 130, 0, 0, 1), (207, .aload_n 0, 1, 121, 0, 0, 0, 0), (208, .iload 8, 2, 122, 0, 0, 0, 0), (210, .aload 9, 2, 123, 0, 0, 0, 0), (212, .aload_n 1, 1, 124, 0, 0, 0, 0), (213, .iload_n 2, 1, 125, 0, 0, 0, 0), (214, .iconst 1, 1, 126, 0, 0, 0, 0), (215, .isub, 1, 127, 0, 0, 0, 0), (216, .aload_n 3, 1, 128, 0, 0, 0, 0)],
  [(217, .invokevirtual 128, 3, 129, 0, 0, 123, 3), (220, .goto 7, 3, 130, 132, 0, 0, 1), (223, .aload_n 0, 1, 131, 0, 0, 0, 0), (224, .invokevirtual 121, 3, 132, 0, 0, 121, 3), (227, .return_, 1, 133, 0, 0, 0, 2), (228, .aload 4, 2, 134, 0, 0, 0, 0), (230, .iconst 0, 1, 135, 0, 0, 0, 0), (231, .iaload, 1, 136, 0, 0, 0, 0), (232, .aload 5, 2, 137, 0, 0, 0, 0), (234, .iconst 0, 1, 138, 0, 0, 0, 0), (235, .iaload, 1, 139, 0, 0, 0, 0), (236, .if_icmp .eq 8, 3, 140, 143, 0, 0, 1), (239, .aload_n 0, 1, 141, 0, 0, 0, 0), (240, .invokevirtual 121, 3, 142, 0, 0, 121, 3), (243, .return_, 1, 143, 0, 0, 0, 2), (244, .aload_n 0, 1, 144, 0, 0, 0, 0)],
  [(245, .getfield 7, 3, 145, 0, 11, 1, 0), (248, .aload 4, 2, 146, 0, 0, 0, 0), (250, .iconst 0, 1, 147, 0, 0, 0, 0), (251, .iaload, 1, 148, 0, 0, 0, 0), (252, .iaload, 1, 149, 0, 0, 0, 0), (253, .istore 7, 2, 150, 0, 0, 0, 0), (255, .iconst 0, 1, 151, 0, 0, 0, 0), (256, .istore 8, 2, 152, 0, 0, 0, 0), (258, .iload 8, 2, 153, 0, 0, 0, 0), (260, .iload 7, 2, 154, 0, 0, 0, 0), (262, .iconst 2, 1, 155, 0, 0, 0, 0), (263, .if_icmp .ne 19, 3, 156, 165, 0, 0, 1), (266, .aload_n 0, 1, 157, 0, 0, 0, 0), (267, .getfield 13, 3, 158, 0, 11, 2, 0), (270, .aload 4, 2, 159, 0, 0, 0, 0), (272, .iconst 0, 1, 160, 0, 0, 0, 0)],
  [(273, .iaload, 1, 161, 0, 0, 0, 0), (274, .baload, 1, 162, 0, 0, 0, 0), (275, .ifCond .eq 7, 3, 163, 165, 0, 0, 1), (278, .iconst 2, 1, 164, 0, 0, 0, 0), (279, .goto 4, 3, 165, 166, 0, 0, 1), (282, .iconst 1, 1, 166, 0, 0, 0, 0), (283, .if_icmp .ge 199, 3, 167, 276, 0, 0, 1), (286, .iconst 2, 1, 168, 0, 0, 0, 0), (287, .iload_n 2, 1, 169, 0, 0, 0, 0), (288, .iconst 1, 1, 170, 0, 0, 0, 0), (289, .iadd, 1, 171, 0, 0, 0, 0), (290, .imul, 1, 172, 0, 0, 0, 0), (291, .anewarray 17, 3, 173, 0, 2, 0, 0), (294, .astore 9, 2, 174, 0, 0, 0, 0), (296, .iconst 0, 1, 175, 0, 0, 0, 0), (297, .istore 10, 2, 176, 0, 0, 0, 0)],
  [(299, .iload 10, 2, 177, 0, 0, 0, 0), (301, .iconst 2, 1, 178, 0, 0, 0, 0), (302, .iload_n 2, 1, 179, 0, 0, 0, 0), (303, .imul, 1, 180, 0, 0, 0, 0), (304, .iconst 2, 1, 181, 0, 0, 0, 0), (305, .isub, 1, 182, 0, 0, 0, 0), (306, .if_icmp .ge 18, 3, 183, 191, 0, 0, 1), (309, .aload 9, 2, 184, 0, 0, 0, 0), (311, .iload 10, 2, 185, 0, 0, 0, 0), (313, .aload_n 1, 1, 186, 0, 0, 0, 0), (314, .iload 10, 2, 187, 0, 0, 0, 0), (316, .aaload, 1, 188, 0, 0, 0, 0), (317, .aastore, 1, 189, 0, 0, 0, 0), (318, .iinc 10 1, 3, 190, 0, 0, 0, 0), (321, .goto (-22), 3, 191, 176, 0, 0, 1), (324, .iload_n 2, 1, 192, 0, 0, 0, 0)],
  [(325, .iconst 1, 1, 193, 0, 0, 0, 0), (326, .isub, 1, 194, 0, 0, 0, 0), (327, .istore 10, 2, 195, 0, 0, 0, 0), (329, .iload 7, 2, 196, 0, 0, 0, 0), (331, .ifCond .le 13, 3, 197, 202, 0, 0, 1), (334, .aload_n 0, 1, 198, 0, 0, 0, 0), (335, .aload 5, 2, 199, 0, 0, 0, 0), (337, .iconst 1, 1, 200, 0, 0, 0, 0), (338, .invokevirtual 66, 3, 201, 0, 0, 106, 3), (341, .goto 5, 3, 202, 203, 0, 0, 1), (344, .aload 5, 2, 203, 0, 0, 0, 0), (346, .astore 11, 2, 204, 0, 0, 0, 0), (348, .iload 7, 2, 205, 0, 0, 0, 0), (350, .iconst 1, 1, 206, 0, 0, 0, 0), (351, .if_icmp .le 19, 3, 207, 215, 0, 0, 1), (354, .aload_n 0, 1, 208, 0, 0, 0, 0)],
  [(355, .aload 5, 2, 209, 0, 0, 0, 0), (357, .aload_n 0, 1, 210, 0, 0, 0, 0), (358, .aload 5, 2, 211, 0, 0, 0, 0), (360, .iconst 1, 1, 212, 0, 0, 0, 0), (361, .invokevirtual 58, 3, 213, 0, 0, 107, 3), (364, .invokevirtual 66, 3, 214, 0, 0, 106, 3), (367, .goto 5, 3, 215, 216, 0, 0, 1), (370, .aload 11, 2, 216, 0, 0, 0, 0), (372, .astore 12, 2, 217, 0, 0, 0, 0), (374, .iload 7, 2, 218, 0, 0, 0, 0), (376, .iconst 1, 1, 219, 0, 0, 0, 0), (377, .if_icmp .le 47, 3, 220, 245, 0, 0, 1), (380, .aload 9, 2, 221, 0, 0, 0, 0), (382, .iconst 2, 1, 222, 0, 0, 0, 0), (383, .iload 10, 2, 223, 0, 0, 0, 0), (385, .imul, 1, 224, 0, 0, 0, 0)],
  [(386, .aload_n 0, 1, 225, 0, 0, 0, 0), (387, .aload 4, 2, 226, 0, 0, 0, 0), (389, .aload_n 0, 1, 227, 0, 0, 0, 0), (390, .aload 4, 2, 228, 0, 0, 0, 0), (392, .iconst 1, 1, 229, 0, 0, 0, 0), (393, .invokevirtual 58, 3, 230, 0, 0, 107, 3), (396, .invokevirtual 66, 3, 231, 0, 0, 106, 3), (399, .aastore, 1, 232, 0, 0, 0, 0), (400, .aload 9, 2, 233, 0, 0, 0, 0), (402, .iconst 2, 1, 234, 0, 0, 0, 0), (403, .iload 10, 2, 235, 0, 0, 0, 0), (405, .imul, 1, 236, 0, 0, 0, 0), (406, .iconst 1, 1, 237, 0, 0, 0, 0), (407, .iadd, 1, 238, 0, 0, 0, 0), (408, .iload 8, 2, 239, 0, 0, 0, 0), (410, .ifCond .ne 8, 3, 240, 242, 0, 0, 1)],
  [(413, .aload 12, 2, 241, 0, 0, 0, 0), (415, .goto 5, 3, 242, 243, 0, 0, 1), (418, .aload 11, 2, 243, 0, 0, 0, 0), (420, .aastore, 1, 244, 0, 0, 0, 0), (421, .iinc 10 1, 3, 245, 0, 0, 0, 0), (424, .iload 7, 2, 246, 0, 0, 0, 0), (426, .ifCond .le 41, 3, 247, 269, 0, 0, 1), (429, .aload 9, 2, 248, 0, 0, 0, 0), (431, .iconst 2, 1, 249, 0, 0, 0, 0), (432, .iload 10, 2, 250, 0, 0, 0, 0), (434, .imul, 1, 251, 0, 0, 0, 0), (435, .aload_n 0, 1, 252, 0, 0, 0, 0), (436, .aload 4, 2, 253, 0, 0, 0, 0), (438, .iconst 1, 1, 254, 0, 0, 0, 0), (439, .invokevirtual 66, 3, 255, 0, 0, 106, 3), (442, .aastore, 1, 256, 0, 0, 0, 0)],
  [(443, .aload 9, 2, 257, 0, 0, 0, 0), (445, .iconst 2, 1, 258, 0, 0, 0, 0), (446, .iload 10, 2, 259, 0, 0, 0, 0), (448, .imul, 1, 260, 0, 0, 0, 0), (449, .iconst 1, 1, 261, 0, 0, 0, 0), (450, .iadd, 1, 262, 0, 0, 0, 0), (451, .iload 8, 2, 263, 0, 0, 0, 0), (453, .ifCond .ne 8, 3, 264, 266, 0, 0, 1), (456, .aload 11, 2, 265, 0, 0, 0, 0), (458, .goto 5, 3, 266, 267, 0, 0, 1), (461, .aload 12, 2, 267, 0, 0, 0, 0), (463, .aastore, 1, 268, 0, 0, 0, 0), (464, .iinc 10 1, 3, 269, 0, 0, 0, 0), (467, .aload_n 0, 1, 270, 0, 0, 0, 0), (468, .aload 9, 2, 271, 0, 0, 0, 0), (470, .iload 10, 2, 272, 0, 0, 0, 0)],
  [(472, .aload_n 3, 1, 273, 0, 0, 0, 0), (473, .invokevirtual 124, 3, 274, 0, 0, 120, 3), (476, .iinc 8 1, 3, 275, 0, 0, 0, 0), (479, .goto (-221), 3, 276, 152, 0, 0, 1), (482, .return_, 1, 277, 0, 0, 0, 2)]]
def ft_121 : List (List FI) := [[(0, .aload_n 0, 1, 1, 0, 0, 0, 0), (1, .dup, 1, 2, 0, 0, 0, 0), (2, .getfield 132, 3, 3, 0, 11, 13, 0), (5, .iconst 1, 1, 4, 0, 0, 0, 0), (6, .iadd, 1, 5, 0, 0, 0, 0), (7, .putfield 132, 3, 6, 0, 11, 13, 0), (10, .aload_n 0, 1, 7, 0, 0, 0, 0), (11, .aload_n 0, 1, 8, 0, 0, 0, 0), (12, .getfield 118, 3, 9, 0, 11, 12, 0), (15, .ifCond .ne 13, 3, 10, 14, 0, 0, 1), (18, .aload_n 0, 1, 11, 0, 0, 0, 0), (19, .getfield 132, 3, 12, 0, 11, 13, 0), (22, .sipush 1000, 3, 13, 0, 0, 0, 0), (25, .if_icmp .le 7, 3, 14, 16, 0, 0, 1), (28, .iconst 1, 1, 15, 0, 0, 0, 0), (29, .goto 4, 3, 16, 17, 0, 0, 1)],
  [(32, .iconst 0, 1, 17, 0, 0, 0, 0), (33, .putfield 118, 3, 18, 0, 11, 12, 0), (36, .return_, 1, 19, 0, 0, 0, 2)]]
def ft_122 : List (List FI) := [[(0, .aload_n 1, 1, 1, 0, 0, 0, 0), (1, .iload_n 2, 1, 2, 0, 0, 0, 0), (2, .iaload, 1, 3, 0, 0, 0, 0), (3, .istore 4, 2, 4, 0, 0, 0, 0), (5, .aload_n 0, 1, 5, 0, 0, 0, 0), (6, .iload 4, 2, 6, 0, 0, 0, 0), (8, .invokevirtual 50, 3, 7, 0, 0, 99, 3), (11, .ifCond .eq 29, 3, 8, 23, 0, 0, 1), (14, .aload_n 3, 1, 9, 0, 0, 0, 0), (15, .iload 4, 2, 10, 0, 0, 0, 0), (17, .bipush 100, 2, 11, 0, 0, 0, 0), (19, .isub, 1, 12, 0, 0, 0, 0), (20, .aaload, 1, 13, 0, 0, 0, 0), (21, .astore 5, 2, 14, 0, 0, 0, 0), (23, .aload 5, 2, 15, 0, 0, 0, 0), (25, .ifnonnull 12, 3, 16, 21, 0, 0, 1)],
  [(28, .aload_n 0, 1, 17, 0, 0, 0, 0), (29, .aload_n 1, 1, 18, 0, 0, 0, 0), (30, .iload_n 2, 1, 19, 0, 0, 0, 0), (31, .invokevirtual 66, 3, 20, 0, 0, 106, 3), (34, .goto 5, 3, 21, 22, 0, 0, 1), (37, .aload 5, 2, 22, 0, 0, 0, 0), (39, .areturn, 1, 23, 0, 0, 0, 2), (40, .aload_n 0, 1, 24, 0, 0, 0, 0), (41, .getfield 7, 3, 25, 0, 11, 1, 0), (44, .iload 4, 2, 26, 0, 0, 0, 0), (46, .iaload, 1, 27, 0, 0, 0, 0), (47, .ifCond .ne 10, 3, 28, 33, 0, 0, 1), (50, .aload_n 0, 1, 29, 0, 0, 0, 0), (51, .aload_n 1, 1, 30, 0, 0, 0, 0), (52, .iload_n 2, 1, 31, 0, 0, 0, 0), (53, .invokevirtual 66, 3, 32, 0, 0, 106, 3)],
  [(56, .areturn, 1, 33, 0, 0, 0, 2), (57, .aload_n 0, 1, 34, 0, 0, 0, 0), (58, .aload_n 1, 1, 35, 0, 0, 0, 0), (59, .iload_n 2, 1, 36, 0, 0, 0, 0), (60, .iconst 1, 1, 37, 0, 0, 0, 0), (61, .iadd, 1, 38, 0, 0, 0, 0), (62, .aload_n 3, 1, 39, 0, 0, 0, 0), (63, .invokevirtual 70, 3, 40, 0, 0, 122, 3), (66, .astore 5, 2, 41, 0, 0, 0, 0), (68, .aload_n 0, 1, 42, 0, 0, 0, 0), (69, .iload 4, 2, 43, 0, 0, 0, 0), (71, .aload 5, 2, 44, 0, 0, 0, 0), (73, .aload_n 0, 1, 45, 0, 0, 0, 0), (74, .getfield 7, 3, 46, 0, 11, 1, 0), (77, .iload 4, 2, 47, 0, 0, 0, 0), (79, .iaload, 1, 48, 0, 0, 0, 0)],
  [(80, .iconst 1, 1, 49, 0, 0, 0, 0), (81, .if_icmp .le 20, 3, 50, 61, 0, 0, 1), (84, .aload_n 0, 1, 51, 0, 0, 0, 0), (85, .aload_n 1, 1, 52, 0, 0, 0, 0), (86, .aload_n 0, 1, 53, 0, 0, 0, 0), (87, .aload_n 1, 1, 54, 0, 0, 0, 0), (88, .iload_n 2, 1, 55, 0, 0, 0, 0), (89, .iconst 1, 1, 56, 0, 0, 0, 0), (90, .iadd, 1, 57, 0, 0, 0, 0), (91, .invokevirtual 58, 3, 58, 0, 0, 107, 3), (94, .aload_n 3, 1, 59, 0, 0, 0, 0), (95, .invokevirtual 70, 3, 60, 0, 0, 122, 3), (98, .goto 5, 3, 61, 62, 0, 0, 1), (101, .aload 5, 2, 62, 0, 0, 0, 0), (103, .invokevirtual 74, 3, 63, 0, 0, 97, 3), (106, .areturn, 1, 64, 0, 0, 0, 2)]]
def ft_123 : List (List FI) := [[(0, .bipush 12, 2, 1, 0, 0, 0, 0), (2, .anewarray 17, 3, 2, 0, 2, 0, 0), (5, .astore 6, 2, 3, 0, 0, 0, 0), (7, .aload 6, 2, 4, 0, 0, 0, 0), (9, .iload_n 1, 1, 5, 0, 0, 0, 0), (10, .aload_n 2, 1, 6, 0, 0, 0, 0), (11, .aastore, 1, 7, 0, 0, 0, 0), (12, .bipush 12, 2, 8, 0, 0, 0, 0), (14, .anewarray 17, 3, 9, 0, 2, 0, 0), (17, .astore 7, 2, 10, 0, 0, 0, 0), (19, .iconst 0, 1, 11, 0, 0, 0, 0), (20, .istore 8, 2, 12, 0, 0, 0, 0), (22, .iload 8, 2, 13, 0, 0, 0, 0), (24, .bipush 12, 2, 14, 0, 0, 0, 0), (26, .if_icmp .ge 83, 3, 15, 56, 0, 0, 1), (29, .aload 7, 2, 16, 0, 0, 0, 0)],
  [(31, .iload 8, 2, 17, 0, 0, 0, 0), (33, .iload 8, 2, 18, 0, 0, 0, 0), (35, .iload_n 1, 1, 19, 0, 0, 0, 0), (36, .if_icmp .ne 7, 3, 20, 22, 0, 0, 1), (39, .aload_n 2, 1, 21, 0, 0, 0, 0), (40, .goto 27, 3, 22, 35, 0, 0, 1), (43, .aload 5, 2, 23, 0, 0, 0, 0), (45, .iload 8, 2, 24, 0, 0, 0, 0), (47, .aaload, 1, 25, 0, 0, 0, 0), (48, .ifnonnull 7, 3, 26, 28, 0, 0, 1), (51, .aconst_null, 1, 27, 0, 0, 0, 0), (52, .goto 15, 3, 28, 35, 0, 0, 1), (55, .aload_n 0, 1, 29, 0, 0, 0, 0), (56, .aload 5, 2, 30, 0, 0, 0, 0), (58, .iload 8, 2, 31, 0, 0, 0, 0), (60, .aaload, 1, 32, 0, 0, 0, 0)],
  [(61, .iconst 0, 1, 33, 0, 0, 0, 0), (62, .aload 6, 2, 34, 0, 0, 0, 0), (64, .invokevirtual 70, 3, 35, 0, 0, 122, 3), (67, .aastore, 1, 36, 0, 0, 0, 0), (68, .aload_n 0, 1, 37, 0, 0, 0, 0), (69, .aload_n 0, 1, 38, 0, 0, 0, 0), (70, .getfield 118, 3, 39, 0, 11, 12, 0), (73, .ifCond .ne 22, 3, 40, 50, 0, 0, 1), (76, .aload 7, 2, 41, 0, 0, 0, 0), (78, .iload 8, 2, 42, 0, 0, 0, 0), (80, .aaload, 1, 43, 0, 0, 0, 0), (81, .ifnull 18, 3, 44, 52, 0, 0, 1), (84, .aload 7, 2, 45, 0, 0, 0, 0), (86, .iload 8, 2, 46, 0, 0, 0, 0), (88, .aaload, 1, 47, 0, 0, 0, 0), (89, .arraylength, 1, 48, 0, 0, 0, 0)],
  [(90, .bipush 24, 2, 49, 0, 0, 0, 0), (92, .if_icmp .le 7, 3, 50, 52, 0, 0, 1), (95, .iconst 1, 1, 51, 0, 0, 0, 0), (96, .goto 4, 3, 52, 53, 0, 0, 1), (99, .iconst 0, 1, 53, 0, 0, 0, 0), (100, .putfield 118, 3, 54, 0, 11, 12, 0), (103, .iinc 8 1, 3, 55, 0, 0, 0, 0), (106, .goto (-84), 3, 56, 12, 0, 0, 1), (109, .aload_n 0, 1, 57, 0, 0, 0, 0), (110, .aload_n 3, 1, 58, 0, 0, 0, 0), (111, .iload 4, 2, 59, 0, 0, 0, 0), (113, .aload 7, 2, 60, 0, 0, 0, 0), (115, .invokevirtual 124, 3, 61, 0, 0, 120, 3), (118, .return_, 1, 62, 0, 0, 0, 2)]]
def ft_124 : List (List FI) := [[(0, .aload_n 0, 1, 1, 0, 0, 0, 0), (1, .iconst 0, 1, 2, 0, 0, 0, 0), (2, .putfield 47, 3, 3, 0, 11, 0, 0), (5, .iload_n 1, 1, 4, 0, 0, 0, 0), (6, .invokestatic 210, 3, 5, 0, 1, 95, 3), (9, .ifCond .eq 18, 3, 6, 12, 0, 0, 1), (12, .iload_n 2, 1, 7, 0, 0, 0, 0), (13, .invokestatic 210, 3, 8, 0, 1, 95, 3), (16, .ifCond .eq 11, 3, 9, 12, 0, 0, 1), (19, .iload 4, 2, 10, 0, 0, 0, 0), (21, .invokestatic 210, 3, 11, 0, 1, 95, 3), (24, .ifCond .ne 5, 3, 12, 14, 0, 0, 1), (27, .iconst 0, 1, 13, 0, 0, 0, 0), (28, .ireturn, 1, 14, 0, 0, 0, 2), (29, .aload_n 0, 1, 15, 0, 0, 0, 0), (30, .aload_n 0, 1, 16, 0, 0, 0, 0)],
  [(31, .getfield 18, 3, 17, 0, 11, 4, 0), (34, .iload_n 1, 1, 18, 0, 0, 0, 0), (35, .aaload, 1, 19, 0, 0, 0, 0), (36, .aload_n 0, 1, 20, 0, 0, 0, 0), (37, .getfield 18, 3, 21, 0, 11, 4, 0), (40, .iload_n 2, 1, 22, 0, 0, 0, 0), (41, .aaload, 1, 23, 0, 0, 0, 0), (42, .invokevirtual 177, 3, 24, 0, 0, 119, 3), (45, .aload_n 0, 1, 25, 0, 0, 0, 0), (46, .getfield 118, 3, 26, 0, 11, 12, 0), (49, .ifCond .ne 15, 3, 27, 33, 0, 0, 1), (52, .iload_n 3, 1, 28, 0, 0, 0, 0), (53, .ifCond .lt 11, 3, 29, 33, 0, 0, 1), (56, .iload_n 3, 1, 30, 0, 0, 0, 0), (57, .aload_n 0, 1, 31, 0, 0, 0, 0), (58, .getfield 96, 3, 32, 0, 11, 18, 0)],
  [(61, .if_icmp .lt 5, 3, 33, 35, 0, 0, 1), (64, .iconst 0, 1, 34, 0, 0, 0, 0), (65, .ireturn, 1, 35, 0, 0, 0, 2), (66, .aload_n 0, 1, 36, 0, 0, 0, 0), (67, .aload_n 0, 1, 37, 0, 0, 0, 0), (68, .getfield 18, 3, 38, 0, 11, 4, 0), (71, .iload_n 1, 1, 39, 0, 0, 0, 0), (72, .aaload, 1, 40, 0, 0, 0, 0), (73, .iconst 0, 1, 41, 0, 0, 0, 0), (74, .aload_n 0, 1, 42, 0, 0, 0, 0), (75, .getfield 40, 3, 43, 0, 11, 17, 0), (78, .iload_n 3, 1, 44, 0, 0, 0, 0), (79, .aaload, 1, 45, 0, 0, 0, 0), (80, .invokevirtual 70, 3, 46, 0, 0, 122, 3), (83, .astore 5, 2, 47, 0, 0, 0, 0), (85, .aload 5, 2, 48, 0, 0, 0, 0)],
  [(87, .arraylength, 1, 49, 0, 0, 0, 0), (88, .bipush 24, 2, 50, 0, 0, 0, 0), (90, .if_icmp .le 5, 3, 51, 53, 0, 0, 1), (93, .iconst 0, 1, 52, 0, 0, 0, 0), (94, .ireturn, 1, 53, 0, 0, 0, 2), (95, .aload_n 0, 1, 54, 0, 0, 0, 0), (96, .getfield 18, 3, 55, 0, 11, 4, 0), (99, .iload 4, 2, 56, 0, 0, 0, 0), (101, .aload 5, 2, 57, 0, 0, 0, 0), (103, .aastore, 1, 58, 0, 0, 0, 0), (104, .iconst 1, 1, 59, 0, 0, 0, 0), (105, .ireturn, 1, 60, 0, 0, 0, 2)]]
def ft_125 : List (List FI) := [[(0, .aload_n 0, 1, 1, 0, 0, 0, 0), (1, .iconst 0, 1, 2, 0, 0, 0, 0), (2, .putfield 47, 3, 3, 0, 11, 0, 0), (5, .iload_n 1, 1, 4, 0, 0, 0, 0), (6, .invokestatic 210, 3, 5, 0, 1, 95, 3), (9, .ifCond .eq 19, 3, 6, 13, 0, 0, 1), (12, .iload_n 2, 1, 7, 0, 0, 0, 0), (13, .invokestatic 210, 3, 8, 0, 1, 95, 3), (16, .ifCond .eq 12, 3, 9, 13, 0, 0, 1), (19, .aload_n 0, 1, 10, 0, 0, 0, 0), (20, .getfield 170, 3, 11, 0, 11, 10, 0), (23, .bipush 60, 2, 12, 0, 0, 0, 0), (25, .if_icmp .lt 5, 3, 13, 15, 0, 0, 1), (28, .iconst 0, 1, 14, 0, 0, 0, 0), (29, .ireturn, 1, 15, 0, 0, 0, 2), (30, .aload_n 0, 1, 16, 0, 0, 0, 0)],
  [(31, .aload_n 0, 1, 17, 0, 0, 0, 0), (32, .getfield 18, 3, 18, 0, 11, 4, 0), (35, .iload_n 1, 1, 19, 0, 0, 0, 0), (36, .aaload, 1, 20, 0, 0, 0, 0), (37, .aload_n 0, 1, 21, 0, 0, 0, 0), (38, .getfield 18, 3, 22, 0, 11, 4, 0), (41, .iload_n 2, 1, 23, 0, 0, 0, 0), (42, .aaload, 1, 24, 0, 0, 0, 0), (43, .invokevirtual 180, 3, 25, 0, 0, 126, 3), (46, .pop, 1, 26, 0, 0, 0, 0), (47, .aload_n 0, 1, 27, 0, 0, 0, 0), (48, .aload_n 0, 1, 28, 0, 0, 0, 0), (49, .getfield 164, 3, 29, 0, 11, 21, 0), (52, .aload_n 0, 1, 30, 0, 0, 0, 0), (53, .getfield 167, 3, 31, 0, 11, 22, 0), (56, .invokevirtual 183, 3, 32, 0, 0, 128, 3)],
  [(59, .iconst 1, 1, 33, 0, 0, 0, 0), (60, .ireturn, 1, 34, 0, 0, 0, 2)]]
def ft_126 : List (List FI) := [[(0, .aload_n 0, 1, 1, 0, 0, 0, 0), (1, .iconst 0, 1, 2, 0, 0, 0, 0), (2, .putfield 157, 3, 3, 0, 11, 20, 0), (5, .aload_n 0, 1, 4, 0, 0, 0, 0), (6, .aload_n 1, 1, 5, 0, 0, 0, 0), (7, .invokevirtual 160, 3, 6, 0, 0, 127, 3), (10, .aload_n 0, 1, 7, 0, 0, 0, 0), (11, .aload_n 2, 1, 8, 0, 0, 0, 0), (12, .invokevirtual 160, 3, 9, 0, 0, 127, 3), (15, .aload_n 0, 1, 10, 0, 0, 0, 0), (16, .getfield 157, 3, 11, 0, 11, 20, 0), (19, .bipush 6, 2, 12, 0, 0, 0, 0), (21, .if_icmp .le 5, 3, 13, 15, 0, 0, 1), (24, .iconst 0, 1, 14, 0, 0, 0, 0), (25, .ireturn, 1, 15, 0, 0, 0, 2), (26, .bipush 12, 2, 16, 0, 0, 0, 0)],
  [(28, .anewarray 17, 3, 17, 0, 2, 0, 0), (31, .astore_n 3, 1, 18, 0, 0, 0, 0), (32, .iconst 0, 1, 19, 0, 0, 0, 0), (33, .istore 4, 2, 20, 0, 0, 0, 0), (35, .iload 4, 2, 21, 0, 0, 0, 0), (37, .aload_n 0, 1, 22, 0, 0, 0, 0), (38, .getfield 157, 3, 23, 0, 11, 20, 0), (41, .if_icmp .ge 37, 3, 24, 45, 0, 0, 1), (44, .aload_n 3, 1, 25, 0, 0, 0, 0), (45, .aload_n 0, 1, 26, 0, 0, 0, 0), (46, .getfield 44, 3, 27, 0, 11, 19, 0), (49, .iload 4, 2, 28, 0, 0, 0, 0), (51, .iaload, 1, 29, 0, 0, 0, 0), (52, .iconst 1, 1, 30, 0, 0, 0, 0), (53, .newarray .int, 2, 31, 0, 0, 0, 0), (55, .aastore, 1, 32, 0, 0, 0, 0)],
  [(56, .aload_n 3, 1, 33, 0, 0, 0, 0), (57, .aload_n 0, 1, 34, 0, 0, 0, 0), (58, .getfield 44, 3, 35, 0, 11, 19, 0), (61, .iload 4, 2, 36, 0, 0, 0, 0), (63, .iaload, 1, 37, 0, 0, 0, 0), (64, .aaload, 1, 38, 0, 0, 0, 0), (65, .iconst 0, 1, 39, 0, 0, 0, 0), (66, .bipush 100, 2, 40, 0, 0, 0, 0), (68, .iload 4, 2, 41, 0, 0, 0, 0), (70, .iadd, 1, 42, 0, 0, 0, 0), (71, .iastore, 1, 43, 0, 0, 0, 0), (72, .iinc 4 1, 3, 44, 0, 0, 0, 0), (75, .goto (-40), 3, 45, 20, 0, 0, 1), (78, .aload_n 0, 1, 46, 0, 0, 0, 0), (79, .aload_n 0, 1, 47, 0, 0, 0, 0), (80, .aload_n 1, 1, 48, 0, 0, 0, 0)],
  [(81, .iconst 0, 1, 49, 0, 0, 0, 0), (82, .aload_n 3, 1, 50, 0, 0, 0, 0), (83, .invokevirtual 70, 3, 51, 0, 0, 122, 3), (86, .putfield 164, 3, 52, 0, 11, 21, 0), (89, .aload_n 0, 1, 53, 0, 0, 0, 0), (90, .aload_n 0, 1, 54, 0, 0, 0, 0), (91, .aload_n 2, 1, 55, 0, 0, 0, 0), (92, .iconst 0, 1, 56, 0, 0, 0, 0), (93, .aload_n 3, 1, 57, 0, 0, 0, 0), (94, .invokevirtual 70, 3, 58, 0, 0, 122, 3), (97, .putfield 167, 3, 59, 0, 11, 22, 0), (100, .iconst 1, 1, 60, 0, 0, 0, 0), (101, .ireturn, 1, 61, 0, 0, 0, 2)]]
def ft_127 : List (List FI) := [[(0, .iconst 0, 1, 1, 0, 0, 0, 0), (1, .istore_n 2, 1, 2, 0, 0, 0, 0), (2, .iload_n 2, 1, 3, 0, 0, 0, 0), (3, .aload_n 1, 1, 4, 0, 0, 0, 0), (4, .arraylength, 1, 5, 0, 0, 0, 0), (5, .if_icmp .ge 100, 3, 6, 60, 0, 0, 1), (8, .aload_n 0, 1, 7, 0, 0, 0, 0), (9, .aload_n 1, 1, 8, 0, 0, 0, 0), (10, .iload_n 2, 1, 9, 0, 0, 0, 0), (11, .iaload, 1, 10, 0, 0, 0, 0), (12, .invokevirtual 50, 3, 11, 0, 0, 99, 3), (15, .ifCond .ne 6, 3, 12, 13, 0, 0, 1), (18, .goto 81, 3, 13, 58, 0, 0, 1), (21, .iconst 0, 1, 14, 0, 0, 0, 0), (22, .istore_n 3, 1, 15, 0, 0, 0, 0), (23, .iconst 0, 1, 16, 0, 0, 0, 0)],
  [(24, .istore 4, 2, 17, 0, 0, 0, 0), (26, .iload 4, 2, 18, 0, 0, 0, 0), (28, .aload_n 0, 1, 19, 0, 0, 0, 0), (29, .getfield 157, 3, 20, 0, 11, 20, 0), (32, .if_icmp .ge 35, 3, 21, 39, 0, 0, 1), (35, .iload_n 3, 1, 22, 0, 0, 0, 0), (36, .ifCond .ne 19, 3, 23, 33, 0, 0, 1), (39, .aload_n 0, 1, 24, 0, 0, 0, 0), (40, .getfield 44, 3, 25, 0, 11, 19, 0), (43, .iload 4, 2, 26, 0, 0, 0, 0), (45, .iaload, 1, 27, 0, 0, 0, 0), (46, .aload_n 1, 1, 28, 0, 0, 0, 0), (47, .iload_n 2, 1, 29, 0, 0, 0, 0), (48, .iaload, 1, 30, 0, 0, 0, 0), (49, .bipush 100, 2, 31, 0, 0, 0, 0), (51, .isub, 1, 32, 0, 0, 0, 0)],
  [(52, .if_icmp .ne 7, 3, 33, 35, 0, 0, 1), (55, .iconst 1, 1, 34, 0, 0, 0, 0), (56, .goto 4, 3, 35, 36, 0, 0, 1), (59, .iconst 0, 1, 36, 0, 0, 0, 0), (60, .istore_n 3, 1, 37, 0, 0, 0, 0), (61, .iinc 4 1, 3, 38, 0, 0, 0, 0), (64, .goto (-38), 3, 39, 17, 0, 0, 1), (67, .iload_n 3, 1, 40, 0, 0, 0, 0), (68, .ifCond .eq 6, 3, 41, 42, 0, 0, 1), (71, .goto 28, 3, 42, 58, 0, 0, 1), (74, .aload_n 0, 1, 43, 0, 0, 0, 0), (75, .getfield 44, 3, 44, 0, 11, 19, 0), (78, .aload_n 0, 1, 45, 0, 0, 0, 0), (79, .getfield 157, 3, 46, 0, 11, 20, 0), (82, .aload_n 1, 1, 47, 0, 0, 0, 0), (83, .iload_n 2, 1, 48, 0, 0, 0, 0)],
  [(84, .iaload, 1, 49, 0, 0, 0, 0), (85, .bipush 100, 2, 50, 0, 0, 0, 0), (87, .isub, 1, 51, 0, 0, 0, 0), (88, .iastore, 1, 52, 0, 0, 0, 0), (89, .aload_n 0, 1, 53, 0, 0, 0, 0), (90, .dup, 1, 54, 0, 0, 0, 0), (91, .getfield 157, 3, 55, 0, 11, 20, 0), (94, .iconst 1, 1, 56, 0, 0, 0, 0), (95, .iadd, 1, 57, 0, 0, 0, 0), (96, .putfield 157, 3, 58, 0, 11, 20, 0), (99, .iinc 2 1, 3, 59, 0, 0, 0, 0), (102, .goto (-100), 3, 60, 2, 0, 0, 1), (105, .return_, 1, 61, 0, 0, 0, 2)]]
def ft_128 : List (List FI) := [[(0, .aload_n 0, 1, 1, 0, 0, 0, 0), (1, .getfield 28, 3, 2, 0, 11, 8, 0), (4, .aload_n 0, 1, 3, 0, 0, 0, 0), (5, .getfield 170, 3, 4, 0, 11, 10, 0), (8, .aload_n 1, 1, 5, 0, 0, 0, 0), (9, .aastore, 1, 6, 0, 0, 0, 0), (10, .aload_n 0, 1, 7, 0, 0, 0, 0), (11, .getfield 31, 3, 8, 0, 11, 9, 0), (14, .aload_n 0, 1, 9, 0, 0, 0, 0), (15, .getfield 170, 3, 10, 0, 11, 10, 0), (18, .aload_n 2, 1, 11, 0, 0, 0, 0), (19, .aastore, 1, 12, 0, 0, 0, 0), (20, .aload_n 0, 1, 13, 0, 0, 0, 0), (21, .dup, 1, 14, 0, 0, 0, 0), (22, .getfield 170, 3, 15, 0, 11, 10, 0), (25, .iconst 1, 1, 16, 0, 0, 0, 0)],
  [(26, .iadd, 1, 17, 0, 0, 0, 0), (27, .putfield 170, 3, 18, 0, 11, 10, 0), (30, .return_, 1, 19, 0, 0, 0, 2)]]
def ft_129 : List (List FI) := [[(0, .aload_n 0, 1, 1, 0, 0, 0, 0), (1, .iconst 0, 1, 2, 0, 0, 0, 0), (2, .putfield 47, 3, 3, 0, 11, 0, 0), (5, .iconst 0, 1, 4, 0, 0, 0, 0), (6, .istore_n 2, 1, 5, 0, 0, 0, 0), (7, .iconst 0, 1, 6, 0, 0, 0, 0), (8, .istore_n 3, 1, 7, 0, 0, 0, 0), (9, .iload_n 1, 1, 8, 0, 0, 0, 0), (10, .bipush 30, 2, 9, 0, 0, 0, 0), (12, .if_icmp .gt 65, 3, 10, 41, 0, 0, 1), (15, .iload_n 3, 1, 11, 0, 0, 0, 0), (16, .iload_n 1, 1, 12, 0, 0, 0, 0), (17, .if_icmp .ge 60, 3, 13, 41, 0, 0, 1), (20, .aload_n 0, 1, 14, 0, 0, 0, 0), (21, .getfield 170, 3, 15, 0, 11, 10, 0), (24, .ifCond .le 53, 3, 16, 41, 0, 0, 1)],
  [(27, .aload_n 0, 1, 17, 0, 0, 0, 0), (28, .getfield 213, 3, 18, 0, 11, 11, 0), (31, .ifCond .ne 46, 3, 19, 41, 0, 0, 1), (34, .iload_n 2, 1, 20, 0, 0, 0, 0), (35, .ifCond .ne 42, 3, 21, 41, 0, 0, 1), (38, .aload_n 0, 1, 22, 0, 0, 0, 0), (39, .invokevirtual 216, 3, 23, 0, 0, 130, 3), (42, .istore 4, 2, 24, 0, 0, 0, 0), (44, .aload_n 0, 1, 25, 0, 0, 0, 0), (45, .iload 4, 2, 26, 0, 0, 0, 0), (47, .iconst 2, 1, 27, 0, 0, 0, 0), (48, .if_icmp .ne 7, 3, 28, 30, 0, 0, 1), (51, .iconst 1, 1, 29, 0, 0, 0, 0), (52, .goto 4, 3, 30, 31, 0, 0, 1), (55, .iconst 0, 1, 31, 0, 0, 0, 0), (56, .putfield 213, 3, 32, 0, 11, 11, 0)],
  [(59, .iload 4, 2, 33, 0, 0, 0, 0), (61, .iconst 1, 1, 34, 0, 0, 0, 0), (62, .if_icmp .ne 7, 3, 35, 37, 0, 0, 1), (65, .iconst 1, 1, 36, 0, 0, 0, 0), (66, .goto 4, 3, 37, 38, 0, 0, 1), (69, .iconst 0, 1, 38, 0, 0, 0, 0), (70, .istore_n 2, 1, 39, 0, 0, 0, 0), (71, .iinc 3 1, 3, 40, 0, 0, 0, 0), (74, .goto (-65), 3, 41, 7, 0, 0, 1), (77, .aload_n 0, 1, 42, 0, 0, 0, 0), (78, .getfield 213, 3, 43, 0, 11, 11, 0), (81, .ifCond .eq 7, 3, 44, 46, 0, 0, 1), (84, .iconst 3, 1, 45, 0, 0, 0, 0), (85, .goto 23, 3, 46, 56, 0, 0, 1), (88, .iload_n 2, 1, 47, 0, 0, 0, 0), (89, .ifCond .eq 7, 3, 48, 50, 0, 0, 1)],
  [(92, .iconst 2, 1, 49, 0, 0, 0, 0), (93, .goto 15, 3, 50, 56, 0, 0, 1), (96, .aload_n 0, 1, 51, 0, 0, 0, 0), (97, .getfield 170, 3, 52, 0, 11, 10, 0), (100, .ifCond .ne 7, 3, 53, 55, 0, 0, 1), (103, .iconst 1, 1, 54, 0, 0, 0, 0), (104, .goto 4, 3, 55, 56, 0, 0, 1), (107, .iconst 0, 1, 56, 0, 0, 0, 0), (108, .ireturn, 1, 57, 0, 0, 0, 2)]]
def ft_130 : List (List FI) := [[(0, .aload_n 0, 1, 1, 0, 0, 0, 0), (1, .invokevirtual 186, 3, 2, 0, 0, 131, 3), (4, .istore_n 1, 1, 3, 0, 0, 0, 0), (5, .aload_n 0, 1, 4, 0, 0, 0, 0), (6, .aload_n 0, 1, 5, 0, 0, 0, 0), (7, .getfield 28, 3, 6, 0, 11, 8, 0), (10, .iload_n 1, 1, 7, 0, 0, 0, 0), (11, .aaload, 1, 8, 0, 0, 0, 0), (12, .invokevirtual 190, 3, 9, 0, 0, 132, 3), (15, .astore_n 2, 1, 10, 0, 0, 0, 0), (16, .aload_n 0, 1, 11, 0, 0, 0, 0), (17, .getfield 118, 3, 12, 0, 11, 12, 0), (20, .ifCond .eq 5, 3, 13, 15, 0, 0, 1), (23, .iconst 2, 1, 14, 0, 0, 0, 0), (24, .ireturn, 1, 15, 0, 0, 0, 2), (25, .aload_n 0, 1, 16, 0, 0, 0, 0)],
  [(26, .aload_n 0, 1, 17, 0, 0, 0, 0), (27, .getfield 31, 3, 18, 0, 11, 9, 0), (30, .iload_n 1, 1, 19, 0, 0, 0, 0), (31, .aaload, 1, 20, 0, 0, 0, 0), (32, .invokevirtual 190, 3, 21, 0, 0, 132, 3), (35, .astore_n 3, 1, 22, 0, 0, 0, 0), (36, .aload_n 0, 1, 23, 0, 0, 0, 0), (37, .getfield 118, 3, 24, 0, 11, 12, 0), (40, .ifCond .eq 5, 3, 25, 27, 0, 0, 1), (43, .iconst 2, 1, 26, 0, 0, 0, 0), (44, .ireturn, 1, 27, 0, 0, 0, 2), (45, .aload_n 2, 1, 28, 0, 0, 0, 0), (46, .aload_n 3, 1, 29, 0, 0, 0, 0), (47, .invokestatic 84, 3, 30, 0, 1, 103, 3), (50, .ifCond .eq 10, 3, 31, 36, 0, 0, 1), (53, .aload_n 0, 1, 32, 0, 0, 0, 0)],
  [(54, .iload_n 1, 1, 33, 0, 0, 0, 0), (55, .invokevirtual 193, 3, 34, 0, 0, 136, 3), (58, .iconst 0, 1, 35, 0, 0, 0, 0), (59, .ireturn, 1, 36, 0, 0, 0, 2), (60, .aload_n 0, 1, 37, 0, 0, 0, 0), (61, .aload_n 2, 1, 38, 0, 0, 0, 0), (62, .aload_n 3, 1, 39, 0, 0, 0, 0), (63, .invokevirtual 197, 3, 40, 0, 0, 105, 3), (66, .istore 4, 2, 41, 0, 0, 0, 0), (68, .iload 4, 2, 42, 0, 0, 0, 0), (70, .ifCond .ne 14, 3, 43, 50, 0, 0, 1), (73, .aload_n 0, 1, 44, 0, 0, 0, 0), (74, .aload_n 3, 1, 45, 0, 0, 0, 0), (75, .aload_n 2, 1, 46, 0, 0, 0, 0), (76, .invokevirtual 197, 3, 47, 0, 0, 105, 3), (79, .ifCond .ne 5, 3, 48, 50, 0, 0, 1)],
  [(82, .iconst 1, 1, 49, 0, 0, 0, 0), (83, .ireturn, 1, 50, 0, 0, 0, 2), (84, .aload_n 0, 1, 51, 0, 0, 0, 0), (85, .iload 4, 2, 52, 0, 0, 0, 0), (87, .ifCond .eq 7, 3, 53, 55, 0, 0, 1), (90, .aload_n 2, 1, 54, 0, 0, 0, 0), (91, .goto 4, 3, 55, 56, 0, 0, 1), (94, .aload_n 3, 1, 56, 0, 0, 0, 0), (95, .iload 4, 2, 57, 0, 0, 0, 0), (97, .ifCond .eq 7, 3, 58, 60, 0, 0, 1), (100, .aload_n 3, 1, 59, 0, 0, 0, 0), (101, .goto 4, 3, 60, 61, 0, 0, 1), (104, .aload_n 2, 1, 61, 0, 0, 0, 0), (105, .invokevirtual 180, 3, 62, 0, 0, 126, 3), (108, .ifCond .ne 5, 3, 63, 65, 0, 0, 1), (111, .iconst 2, 1, 64, 0, 0, 0, 0)],
  [(112, .ireturn, 1, 65, 0, 0, 0, 2), (113, .aload_n 0, 1, 66, 0, 0, 0, 0), (114, .getfield 164, 3, 67, 0, 11, 21, 0), (117, .astore 5, 2, 68, 0, 0, 0, 0), (119, .aload_n 0, 1, 69, 0, 0, 0, 0), (120, .getfield 167, 3, 70, 0, 11, 22, 0), (123, .astore 6, 2, 71, 0, 0, 0, 0), (125, .aload_n 0, 1, 72, 0, 0, 0, 0), (126, .getfield 170, 3, 73, 0, 11, 10, 0), (129, .istore 7, 2, 74, 0, 0, 0, 0), (131, .aload_n 0, 1, 75, 0, 0, 0, 0), (132, .getfield 28, 3, 76, 0, 11, 8, 0), (135, .aload_n 0, 1, 77, 0, 0, 0, 0), (136, .getfield 170, 3, 78, 0, 11, 10, 0), (139, .invokestatic 110, 3, 79, 0, 1, 116, 3), (142, .astore 8, 2, 80, 0, 0, 0, 0)],
  [(144, .aload_n 0, 1, 81, 0, 0, 0, 0), (145, .getfield 31, 3, 82, 0, 11, 9, 0), (148, .aload_n 0, 1, 83, 0, 0, 0, 0), (149, .getfield 170, 3, 84, 0, 11, 10, 0), (152, .invokestatic 110, 3, 85, 0, 1, 116, 3), (155, .astore 9, 2, 86, 0, 0, 0, 0), (157, .aload_n 0, 1, 87, 0, 0, 0, 0), (158, .getfield 22, 3, 88, 0, 11, 5, 0), (161, .aload_n 0, 1, 89, 0, 0, 0, 0), (162, .getfield 22, 3, 90, 0, 11, 5, 0), (165, .arraylength, 1, 91, 0, 0, 0, 0), (166, .invokestatic 110, 3, 92, 0, 1, 116, 3), (169, .astore 10, 2, 93, 0, 0, 0, 0), (171, .aload_n 0, 1, 94, 0, 0, 0, 0), (172, .getfield 25, 3, 95, 0, 11, 6, 0), (175, .aload_n 0, 1, 96, 0, 0, 0, 0)],
  [(176, .getfield 25, 3, 97, 0, 11, 6, 0), (179, .arraylength, 1, 98, 0, 0, 0, 0), (180, .invokestatic 110, 3, 99, 0, 1, 116, 3), (183, .astore 11, 2, 100, 0, 0, 0, 0), (185, .aload_n 0, 1, 101, 0, 0, 0, 0), (186, .getfield 154, 3, 102, 0, 11, 7, 0), (189, .istore 12, 2, 103, 0, 0, 0, 0), (191, .aload_n 0, 1, 104, 0, 0, 0, 0), (192, .iload_n 1, 1, 105, 0, 0, 0, 0), (193, .invokevirtual 193, 3, 106, 0, 0, 136, 3), (196, .aload_n 0, 1, 107, 0, 0, 0, 0), (197, .aload 5, 2, 108, 0, 0, 0, 0), (199, .aload 6, 2, 109, 0, 0, 0, 0), (201, .invokevirtual 200, 3, 110, 0, 0, 137, 3), (204, .ifCond .eq 5, 3, 111, 113, 0, 0, 1), (207, .iconst 0, 1, 112, 0, 0, 0, 0)],
  [(208, .ireturn, 1, 113, 0, 0, 0, 2), (209, .iconst 0, 1, 114, 0, 0, 0, 0), (210, .istore 13, 2, 115, 0, 0, 0, 0), (212, .iload 13, 2, 116, 0, 0, 0, 0), (214, .iload 7, 2, 117, 0, 0, 0, 0), (216, .if_icmp .ge 33, 3, 118, 134, 0, 0, 1), (219, .aload_n 0, 1, 119, 0, 0, 0, 0), (220, .getfield 28, 3, 120, 0, 11, 8, 0), (223, .iload 13, 2, 121, 0, 0, 0, 0), (225, .aload 8, 2, 122, 0, 0, 0, 0), (227, .iload 13, 2, 123, 0, 0, 0, 0), (229, .aaload, 1, 124, 0, 0, 0, 0), (230, .aastore, 1, 125, 0, 0, 0, 0), (231, .aload_n 0, 1, 126, 0, 0, 0, 0), (232, .getfield 31, 3, 127, 0, 11, 9, 0), (235, .iload 13, 2, 128, 0, 0, 0, 0)],
  [(237, .aload 9, 2, 129, 0, 0, 0, 0), (239, .iload 13, 2, 130, 0, 0, 0, 0), (241, .aaload, 1, 131, 0, 0, 0, 0), (242, .aastore, 1, 132, 0, 0, 0, 0), (243, .iinc 13 1, 3, 133, 0, 0, 0, 0), (246, .goto (-34), 3, 134, 115, 0, 0, 1), (249, .iconst 0, 1, 135, 0, 0, 0, 0), (250, .istore 13, 2, 136, 0, 0, 0, 0), (252, .iload 13, 2, 137, 0, 0, 0, 0), (254, .aload_n 0, 1, 138, 0, 0, 0, 0), (255, .getfield 22, 3, 139, 0, 11, 5, 0), (258, .arraylength, 1, 140, 0, 0, 0, 0), (259, .if_icmp .ge 33, 3, 141, 157, 0, 0, 1), (262, .aload_n 0, 1, 142, 0, 0, 0, 0), (263, .getfield 22, 3, 143, 0, 11, 5, 0), (266, .iload 13, 2, 144, 0, 0, 0, 0)],
  [(268, .aload 10, 2, 145, 0, 0, 0, 0), (270, .iload 13, 2, 146, 0, 0, 0, 0), (272, .aaload, 1, 147, 0, 0, 0, 0), (273, .aastore, 1, 148, 0, 0, 0, 0), (274, .aload_n 0, 1, 149, 0, 0, 0, 0), (275, .getfield 25, 3, 150, 0, 11, 6, 0), (278, .iload 13, 2, 151, 0, 0, 0, 0), (280, .aload 11, 2, 152, 0, 0, 0, 0), (282, .iload 13, 2, 153, 0, 0, 0, 0), (284, .aaload, 1, 154, 0, 0, 0, 0), (285, .aastore, 1, 155, 0, 0, 0, 0), (286, .iinc 13 1, 3, 156, 0, 0, 0, 0), (289, .goto (-37), 3, 157, 136, 0, 0, 1), (292, .aload_n 0, 1, 158, 0, 0, 0, 0), (293, .iload 7, 2, 159, 0, 0, 0, 0), (295, .putfield 170, 3, 160, 0, 11, 10, 0)],
  [(298, .aload_n 0, 1, 161, 0, 0, 0, 0), (299, .iload 12, 2, 162, 0, 0, 0, 0), (301, .putfield 154, 3, 163, 0, 11, 7, 0), (304, .iconst 2, 1, 164, 0, 0, 0, 0), (305, .ireturn, 1, 165, 0, 0, 0, 2)]]
def ft_131 : List (List FI) := [[(0, .iconst 0, 1, 1, 0, 0, 0, 0), (1, .istore_n 1, 1, 2, 0, 0, 0, 0), (2, .iconst 1, 1, 3, 0, 0, 0, 0), (3, .istore_n 2, 1, 4, 0, 0, 0, 0), (4, .iload_n 2, 1, 5, 0, 0, 0, 0), (5, .aload_n 0, 1, 6, 0, 0, 0, 0), (6, .getfield 170, 3, 7, 0, 11, 10, 0), (9, .if_icmp .ge 44, 3, 8, 35, 0, 0, 1), (12, .aload_n 0, 1, 9, 0, 0, 0, 0), (13, .getfield 28, 3, 10, 0, 11, 8, 0), (16, .iload_n 2, 1, 11, 0, 0, 0, 0), (17, .aaload, 1, 12, 0, 0, 0, 0), (18, .arraylength, 1, 13, 0, 0, 0, 0), (19, .aload_n 0, 1, 14, 0, 0, 0, 0), (20, .getfield 31, 3, 15, 0, 11, 9, 0), (23, .iload_n 2, 1, 16, 0, 0, 0, 0)],
  [(24, .aaload, 1, 17, 0, 0, 0, 0), (25, .arraylength, 1, 18, 0, 0, 0, 0), (26, .iadd, 1, 19, 0, 0, 0, 0), (27, .aload_n 0, 1, 20, 0, 0, 0, 0), (28, .getfield 28, 3, 21, 0, 11, 8, 0), (31, .iload_n 1, 1, 22, 0, 0, 0, 0), (32, .aaload, 1, 23, 0, 0, 0, 0), (33, .arraylength, 1, 24, 0, 0, 0, 0), (34, .aload_n 0, 1, 25, 0, 0, 0, 0), (35, .getfield 31, 3, 26, 0, 11, 9, 0), (38, .iload_n 1, 1, 27, 0, 0, 0, 0), (39, .aaload, 1, 28, 0, 0, 0, 0), (40, .arraylength, 1, 29, 0, 0, 0, 0), (41, .iadd, 1, 30, 0, 0, 0, 0), (42, .if_icmp .ge 5, 3, 31, 33, 0, 0, 1), (45, .iload_n 2, 1, 32, 0, 0, 0, 0)],
  [(46, .istore_n 1, 1, 33, 0, 0, 0, 0), (47, .iinc 2 1, 3, 34, 0, 0, 0, 0), (50, .goto (-46), 3, 35, 4, 0, 0, 1), (53, .iload_n 1, 1, 36, 0, 0, 0, 0), (54, .ireturn, 1, 37, 0, 0, 0, 2)]]
def ft_132 : List (List FI) := [[(0, .aload_n 0, 1, 1, 0, 0, 0, 0), (1, .iconst 0, 1, 2, 0, 0, 0, 0), (2, .putfield 118, 3, 3, 0, 11, 12, 0), (5, .aload_n 0, 1, 4, 0, 0, 0, 0), (6, .iconst 0, 1, 5, 0, 0, 0, 0), (7, .putfield 151, 3, 6, 0, 11, 14, 0), (10, .aload_n 0, 1, 7, 0, 0, 0, 0), (11, .aload_n 1, 1, 8, 0, 0, 0, 0), (12, .iconst 0, 1, 9, 0, 0, 0, 0), (13, .aload_n 0, 1, 10, 0, 0, 0, 0), (14, .getfield 22, 3, 11, 0, 11, 5, 0), (17, .aload_n 0, 1, 12, 0, 0, 0, 0), (18, .getfield 25, 3, 13, 0, 11, 6, 0), (21, .aload_n 0, 1, 14, 0, 0, 0, 0), (22, .getfield 154, 3, 15, 0, 11, 7, 0), (25, .invokevirtual 139, 3, 16, 0, 0, 133, 3)],
  [(28, .areturn, 1, 17, 0, 0, 0, 2)]]
def ft_133 : List (List FI) := [[(0, .aload_n 1, 1, 1, 0, 0, 0, 0), (1, .astore 6, 2, 2, 0, 0, 0, 0), (3, .aload_n 0, 1, 3, 0, 0, 0, 0), (4, .getfield 118, 3, 4, 0, 11, 12, 0), (7, .ifCond .ne 189, 3, 5, 108, 0, 0, 1), (10, .aload_n 0, 1, 6, 0, 0, 0, 0), (11, .aload 6, 2, 7, 0, 0, 0, 0), (13, .iconst 0, 1, 8, 0, 0, 0, 0), (14, .iaload, 1, 9, 0, 0, 0, 0), (15, .invokevirtual 50, 3, 10, 0, 0, 99, 3), (18, .ifCond .ne 178, 3, 11, 108, 0, 0, 1), (21, .aload_n 0, 1, 12, 0, 0, 0, 0), (22, .getfield 7, 3, 13, 0, 11, 1, 0), (25, .aload 6, 2, 14, 0, 0, 0, 0), (27, .iconst 0, 1, 15, 0, 0, 0, 0), (28, .iaload, 1, 16, 0, 0, 0, 0)],
  [(29, .iaload, 1, 17, 0, 0, 0, 0), (30, .istore 7, 2, 18, 0, 0, 0, 0), (32, .iload 7, 2, 19, 0, 0, 0, 0), (34, .ifCond .le 37, 3, 20, 41, 0, 0, 1), (37, .aload_n 0, 1, 21, 0, 0, 0, 0), (38, .aload_n 0, 1, 22, 0, 0, 0, 0), (39, .aload 6, 2, 23, 0, 0, 0, 0), (41, .iconst 1, 1, 24, 0, 0, 0, 0), (42, .invokevirtual 66, 3, 25, 0, 0, 106, 3), (45, .iload_n 2, 1, 26, 0, 0, 0, 0), (46, .aload 6, 2, 27, 0, 0, 0, 0), (48, .arraylength, 1, 28, 0, 0, 0, 0), (49, .iadd, 1, 29, 0, 0, 0, 0), (50, .aload_n 0, 1, 30, 0, 0, 0, 0), (51, .aload 6, 2, 31, 0, 0, 0, 0), (53, .iconst 1, 1, 32, 0, 0, 0, 0)],
  [(54, .invokevirtual 58, 3, 33, 0, 0, 107, 3), (57, .iconst 1, 1, 34, 0, 0, 0, 0), (58, .isub, 1, 35, 0, 0, 0, 0), (59, .isub, 1, 36, 0, 0, 0, 0), (60, .aload_n 3, 1, 37, 0, 0, 0, 0), (61, .aload 4, 2, 38, 0, 0, 0, 0), (63, .iload 5, 2, 39, 0, 0, 0, 0), (65, .invokevirtual 139, 3, 40, 0, 0, 133, 3), (68, .goto 5, 3, 41, 42, 0, 0, 1), (71, .aload 6, 2, 42, 0, 0, 0, 0), (73, .astore 8, 2, 43, 0, 0, 0, 0), (75, .iload 7, 2, 44, 0, 0, 0, 0), (77, .iconst 1, 1, 45, 0, 0, 0, 0), (78, .if_icmp .le 35, 3, 46, 65, 0, 0, 1), (81, .aload_n 0, 1, 47, 0, 0, 0, 0), (82, .aload_n 0, 1, 48, 0, 0, 0, 0)],
  [(83, .aload 6, 2, 49, 0, 0, 0, 0), (85, .aload_n 0, 1, 50, 0, 0, 0, 0), (86, .aload 6, 2, 51, 0, 0, 0, 0), (88, .iconst 1, 1, 52, 0, 0, 0, 0), (89, .invokevirtual 58, 3, 53, 0, 0, 107, 3), (92, .invokevirtual 66, 3, 54, 0, 0, 106, 3), (95, .iload_n 2, 1, 55, 0, 0, 0, 0), (96, .iconst 1, 1, 56, 0, 0, 0, 0), (97, .iadd, 1, 57, 0, 0, 0, 0), (98, .aload 8, 2, 58, 0, 0, 0, 0), (100, .arraylength, 1, 59, 0, 0, 0, 0), (101, .iadd, 1, 60, 0, 0, 0, 0), (102, .aload_n 3, 1, 61, 0, 0, 0, 0), (103, .aload 4, 2, 62, 0, 0, 0, 0), (105, .iload 5, 2, 63, 0, 0, 0, 0), (107, .invokevirtual 139, 3, 64, 0, 0, 133, 3)],
  [(110, .goto 5, 3, 65, 66, 0, 0, 1), (113, .aload 8, 2, 66, 0, 0, 0, 0), (115, .astore 9, 2, 67, 0, 0, 0, 0), (117, .aload_n 0, 1, 68, 0, 0, 0, 0), (118, .aload 6, 2, 69, 0, 0, 0, 0), (120, .iconst 0, 1, 70, 0, 0, 0, 0), (121, .iaload, 1, 71, 0, 0, 0, 0), (122, .aload 8, 2, 72, 0, 0, 0, 0), (124, .aload 9, 2, 73, 0, 0, 0, 0), (126, .invokevirtual 74, 3, 74, 0, 0, 97, 3), (129, .astore 6, 2, 75, 0, 0, 0, 0), (131, .aload_n 0, 1, 76, 0, 0, 0, 0), (132, .getfield 118, 3, 77, 0, 11, 12, 0), (135, .ifCond .eq 7, 3, 78, 80, 0, 0, 1), (138, .aconst_null, 1, 79, 0, 0, 0, 0), (139, .goto 14, 3, 80, 86, 0, 0, 1)],
  [(142, .aload_n 0, 1, 81, 0, 0, 0, 0), (143, .aload 6, 2, 82, 0, 0, 0, 0), (145, .aload_n 3, 1, 83, 0, 0, 0, 0), (146, .aload 4, 2, 84, 0, 0, 0, 0), (148, .iload 5, 2, 85, 0, 0, 0, 0), (150, .invokevirtual 143, 3, 86, 0, 0, 134, 3), (153, .astore 10, 2, 87, 0, 0, 0, 0), (155, .aload 10, 2, 88, 0, 0, 0, 0), (157, .ifnonnull 6, 3, 89, 91, 0, 0, 1), (160, .aload 6, 2, 90, 0, 0, 0, 0), (162, .areturn, 1, 91, 0, 0, 0, 2), (163, .aload_n 0, 1, 92, 0, 0, 0, 0), (164, .aload_n 0, 1, 93, 0, 0, 0, 0), (165, .getfield 118, 3, 94, 0, 11, 12, 0), (168, .ifCond .ne 13, 3, 95, 101, 0, 0, 1), (171, .iload_n 2, 1, 96, 0, 0, 0, 0)],
  [(172, .aload 10, 2, 97, 0, 0, 0, 0), (174, .arraylength, 1, 98, 0, 0, 0, 0), (175, .iadd, 1, 99, 0, 0, 0, 0), (176, .bipush 24, 2, 100, 0, 0, 0, 0), (178, .if_icmp .le 7, 3, 101, 103, 0, 0, 1), (181, .iconst 1, 1, 102, 0, 0, 0, 0), (182, .goto 4, 3, 103, 104, 0, 0, 1), (185, .iconst 0, 1, 104, 0, 0, 0, 0), (186, .putfield 118, 3, 105, 0, 11, 12, 0), (189, .aload 10, 2, 106, 0, 0, 0, 0), (191, .astore 6, 2, 107, 0, 0, 0, 0), (193, .goto (-190), 3, 108, 2, 0, 0, 1), (196, .aload 6, 2, 109, 0, 0, 0, 0), (198, .areturn, 1, 110, 0, 0, 0, 2)]]
def ft_134 : List (List FI) := [[(0, .iconst 0, 1, 1, 0, 0, 0, 0), (1, .istore 5, 2, 2, 0, 0, 0, 0), (3, .iload 5, 2, 3, 0, 0, 0, 0), (5, .iload 4, 2, 4, 0, 0, 0, 0), (7, .if_icmp .ge 76, 3, 5, 43, 0, 0, 1), (10, .aload_n 0, 1, 6, 0, 0, 0, 0), (11, .getfield 118, 3, 7, 0, 11, 12, 0), (14, .ifCond .ne 69, 3, 8, 43, 0, 0, 1), (17, .aload_n 0, 1, 9, 0, 0, 0, 0), (18, .aload_n 2, 1, 10, 0, 0, 0, 0), (19, .iload 5, 2, 11, 0, 0, 0, 0), (21, .aaload, 1, 12, 0, 0, 0, 0), (22, .aload_n 1, 1, 13, 0, 0, 0, 0), (23, .invokevirtual 147, 3, 14, 0, 0, 135, 3), (26, .astore 6, 2, 15, 0, 0, 0, 0), (28, .aload 6, 2, 16, 0, 0, 0, 0)],
  [(30, .ifnonnull 6, 3, 17, 18, 0, 0, 1), (33, .goto 44, 3, 18, 41, 0, 0, 1), (36, .aload_n 0, 1, 19, 0, 0, 0, 0), (37, .dup, 1, 20, 0, 0, 0, 0), (38, .getfield 151, 3, 21, 0, 11, 14, 0), (41, .iconst 1, 1, 22, 0, 0, 0, 0), (42, .iadd, 1, 23, 0, 0, 0, 0), (43, .putfield 151, 3, 24, 0, 11, 14, 0), (46, .aload_n 0, 1, 25, 0, 0, 0, 0), (47, .aload_n 0, 1, 26, 0, 0, 0, 0), (48, .getfield 151, 3, 27, 0, 11, 14, 0), (51, .sipush 1000, 3, 28, 0, 0, 0, 0), (54, .if_icmp .le 7, 3, 29, 31, 0, 0, 1), (57, .iconst 1, 1, 30, 0, 0, 0, 0), (58, .goto 4, 3, 31, 32, 0, 0, 1), (61, .iconst 0, 1, 32, 0, 0, 0, 0)],
  [(62, .putfield 118, 3, 33, 0, 11, 12, 0), (65, .aload_n 0, 1, 34, 0, 0, 0, 0), (66, .aload_n 3, 1, 35, 0, 0, 0, 0), (67, .iload 5, 2, 36, 0, 0, 0, 0), (69, .aaload, 1, 37, 0, 0, 0, 0), (70, .iconst 0, 1, 38, 0, 0, 0, 0), (71, .aload 6, 2, 39, 0, 0, 0, 0), (73, .invokevirtual 70, 3, 40, 0, 0, 122, 3), (76, .areturn, 1, 41, 0, 0, 0, 2), (77, .iinc 5 1, 3, 42, 0, 0, 0, 0), (80, .goto (-77), 3, 43, 2, 0, 0, 1), (83, .aconst_null, 1, 44, 0, 0, 0, 0), (84, .areturn, 1, 45, 0, 0, 0, 2)]]
def ft_135 : List (List FI) := [[(0, .aload_n 1, 1, 1, 0, 0, 0, 0), (1, .iconst 0, 1, 2, 0, 0, 0, 0), (2, .iaload, 1, 3, 0, 0, 0, 0), (3, .aload_n 2, 1, 4, 0, 0, 0, 0), (4, .iconst 0, 1, 5, 0, 0, 0, 0), (5, .iaload, 1, 6, 0, 0, 0, 0), (6, .if_icmp .ne 10, 3, 7, 12, 0, 0, 1), (9, .aload_n 1, 1, 8, 0, 0, 0, 0), (10, .arraylength, 1, 9, 0, 0, 0, 0), (11, .aload_n 2, 1, 10, 0, 0, 0, 0), (12, .arraylength, 1, 11, 0, 0, 0, 0), (13, .if_icmp .le 5, 3, 12, 14, 0, 0, 1), (16, .aconst_null, 1, 13, 0, 0, 0, 0), (17, .areturn, 1, 14, 0, 0, 0, 2), (18, .aload_n 0, 1, 15, 0, 0, 0, 0), (19, .aload_n 1, 1, 16, 0, 0, 0, 0)],
  [(20, .aload_n 2, 1, 17, 0, 0, 0, 0), (21, .invokevirtual 135, 3, 18, 0, 0, 112, 3), (24, .aload_n 0, 1, 19, 0, 0, 0, 0), (25, .aload_n 0, 1, 20, 0, 0, 0, 0), (26, .getfield 118, 3, 21, 0, 11, 12, 0), (29, .ifCond .ne 10, 3, 22, 25, 0, 0, 1), (32, .aload_n 0, 1, 23, 0, 0, 0, 0), (33, .getfield 99, 3, 24, 0, 11, 16, 0), (36, .ifCond .eq 7, 3, 25, 27, 0, 0, 1), (39, .iconst 1, 1, 26, 0, 0, 0, 0), (40, .goto 4, 3, 27, 28, 0, 0, 1), (43, .iconst 0, 1, 28, 0, 0, 0, 0), (44, .putfield 118, 3, 29, 0, 11, 12, 0), (47, .aload_n 0, 1, 30, 0, 0, 0, 0), (48, .getfield 99, 3, 31, 0, 11, 16, 0), (51, .ifCond .ne 10, 3, 32, 35, 0, 0, 1)],
  [(54, .aload_n 0, 1, 33, 0, 0, 0, 0), (55, .getfield 96, 3, 34, 0, 11, 18, 0), (58, .ifCond .ne 7, 3, 35, 37, 0, 0, 1), (61, .aconst_null, 1, 36, 0, 0, 0, 0), (62, .goto 9, 3, 37, 41, 0, 0, 1), (65, .aload_n 0, 1, 38, 0, 0, 0, 0), (66, .getfield 40, 3, 39, 0, 11, 17, 0), (69, .iconst 0, 1, 40, 0, 0, 0, 0), (70, .aaload, 1, 41, 0, 0, 0, 0), (71, .areturn, 1, 42, 0, 0, 0, 2)]]
def ft_136 : List (List FI) := [[(0, .aload_n 0, 1, 1, 0, 0, 0, 0), (1, .dup, 1, 2, 0, 0, 0, 0), (2, .getfield 170, 3, 3, 0, 11, 10, 0), (5, .iconst 1, 1, 4, 0, 0, 0, 0), (6, .isub, 1, 5, 0, 0, 0, 0), (7, .putfield 170, 3, 6, 0, 11, 10, 0), (10, .iload_n 1, 1, 7, 0, 0, 0, 0), (11, .istore_n 2, 1, 8, 0, 0, 0, 0), (12, .iload_n 2, 1, 9, 0, 0, 0, 0), (13, .aload_n 0, 1, 10, 0, 0, 0, 0), (14, .getfield 170, 3, 11, 0, 11, 10, 0), (17, .if_icmp .ge 37, 3, 12, 34, 0, 0, 1), (20, .aload_n 0, 1, 13, 0, 0, 0, 0), (21, .getfield 28, 3, 14, 0, 11, 8, 0), (24, .iload_n 2, 1, 15, 0, 0, 0, 0), (25, .aload_n 0, 1, 16, 0, 0, 0, 0)],
  [(26, .getfield 28, 3, 17, 0, 11, 8, 0), (29, .iload_n 2, 1, 18, 0, 0, 0, 0), (30, .iconst 1, 1, 19, 0, 0, 0, 0), (31, .iadd, 1, 20, 0, 0, 0, 0), (32, .aaload, 1, 21, 0, 0, 0, 0), (33, .aastore, 1, 22, 0, 0, 0, 0), (34, .aload_n 0, 1, 23, 0, 0, 0, 0), (35, .getfield 31, 3, 24, 0, 11, 9, 0), (38, .iload_n 2, 1, 25, 0, 0, 0, 0), (39, .aload_n 0, 1, 26, 0, 0, 0, 0), (40, .getfield 31, 3, 27, 0, 11, 9, 0), (43, .iload_n 2, 1, 28, 0, 0, 0, 0), (44, .iconst 1, 1, 29, 0, 0, 0, 0), (45, .iadd, 1, 30, 0, 0, 0, 0), (46, .aaload, 1, 31, 0, 0, 0, 0), (47, .aastore, 1, 32, 0, 0, 0, 0)],
  [(48, .iinc 2 1, 3, 33, 0, 0, 0, 0), (51, .goto (-39), 3, 34, 8, 0, 0, 1), (54, .return_, 1, 35, 0, 0, 0, 2)]]
def ft_137 : List (List FI) := [[(0, .iconst 0, 1, 1, 0, 0, 0, 0), (1, .istore_n 3, 1, 2, 0, 0, 0, 0), (2, .iconst 0, 1, 3, 0, 0, 0, 0), (3, .istore 4, 2, 4, 0, 0, 0, 0), (5, .iload 4, 2, 5, 0, 0, 0, 0), (7, .aload_n 0, 1, 6, 0, 0, 0, 0), (8, .getfield 154, 3, 7, 0, 11, 7, 0), (11, .if_icmp .ge 153, 3, 8, 87, 0, 0, 1), (14, .iconst 0, 1, 9, 0, 0, 0, 0), (15, .istore 5, 2, 10, 0, 0, 0, 0), (17, .aload_n 0, 1, 11, 0, 0, 0, 0), (18, .iconst 0, 1, 12, 0, 0, 0, 0), (19, .putfield 118, 3, 13, 0, 11, 12, 0), (22, .iconst 0, 1, 14, 0, 0, 0, 0), (23, .istore 6, 2, 15, 0, 0, 0, 0), (25, .iload 6, 2, 16, 0, 0, 0, 0)],
  [(27, .aload_n 0, 1, 17, 0, 0, 0, 0), (28, .getfield 22, 3, 18, 0, 11, 5, 0), (31, .iload 4, 2, 19, 0, 0, 0, 0), (33, .aaload, 1, 20, 0, 0, 0, 0), (34, .arraylength, 1, 21, 0, 0, 0, 0), (35, .if_icmp .ge 59, 3, 22, 50, 0, 0, 1), (38, .iload 5, 2, 23, 0, 0, 0, 0), (40, .ifCond .ne 54, 3, 24, 50, 0, 0, 1), (43, .aload_n 0, 1, 25, 0, 0, 0, 0), (44, .aload_n 0, 1, 26, 0, 0, 0, 0), (45, .getfield 22, 3, 27, 0, 11, 5, 0), (48, .iload 4, 2, 28, 0, 0, 0, 0), (50, .aaload, 1, 29, 0, 0, 0, 0), (51, .iload 6, 2, 30, 0, 0, 0, 0), (53, .iaload, 1, 31, 0, 0, 0, 0), (54, .invokevirtual 50, 3, 32, 0, 0, 99, 3)],
  [(57, .ifCond .ne 28, 3, 33, 46, 0, 0, 1), (60, .aload_n 0, 1, 34, 0, 0, 0, 0), (61, .aload_n 1, 1, 35, 0, 0, 0, 0), (62, .aload_n 0, 1, 36, 0, 0, 0, 0), (63, .aload_n 0, 1, 37, 0, 0, 0, 0), (64, .getfield 22, 3, 38, 0, 11, 5, 0), (67, .iload 4, 2, 39, 0, 0, 0, 0), (69, .aaload, 1, 40, 0, 0, 0, 0), (70, .iload 6, 2, 41, 0, 0, 0, 0), (72, .invokevirtual 66, 3, 42, 0, 0, 106, 3), (75, .invokevirtual 147, 3, 43, 0, 0, 135, 3), (78, .ifnull 7, 3, 44, 46, 0, 0, 1), (81, .iconst 1, 1, 45, 0, 0, 0, 0), (82, .goto 4, 3, 46, 47, 0, 0, 1), (85, .iconst 0, 1, 47, 0, 0, 0, 0), (86, .istore 5, 2, 48, 0, 0, 0, 0)],
  [(88, .iinc 6 1, 3, 49, 0, 0, 0, 0), (91, .goto (-66), 3, 50, 15, 0, 0, 1), (94, .aload_n 0, 1, 51, 0, 0, 0, 0), (95, .getfield 118, 3, 52, 0, 11, 12, 0), (98, .ifCond .eq 5, 3, 53, 55, 0, 0, 1), (101, .iconst 0, 1, 54, 0, 0, 0, 0), (102, .ireturn, 1, 55, 0, 0, 0, 2), (103, .iload 5, 2, 56, 0, 0, 0, 0), (105, .ifCond .eq 24, 3, 57, 68, 0, 0, 1), (108, .aload_n 0, 1, 58, 0, 0, 0, 0), (109, .aload_n 0, 1, 59, 0, 0, 0, 0), (110, .getfield 22, 3, 60, 0, 11, 5, 0), (113, .iload 4, 2, 61, 0, 0, 0, 0), (115, .aaload, 1, 62, 0, 0, 0, 0), (116, .aload_n 0, 1, 63, 0, 0, 0, 0), (117, .getfield 25, 3, 64, 0, 11, 6, 0)],
  [(120, .iload 4, 2, 65, 0, 0, 0, 0), (122, .aaload, 1, 66, 0, 0, 0, 0), (123, .invokevirtual 183, 3, 67, 0, 0, 128, 3), (126, .goto 32, 3, 68, 85, 0, 0, 1), (129, .aload_n 0, 1, 69, 0, 0, 0, 0), (130, .getfield 22, 3, 70, 0, 11, 5, 0), (133, .iload_n 3, 1, 71, 0, 0, 0, 0), (134, .aload_n 0, 1, 72, 0, 0, 0, 0), (135, .getfield 22, 3, 73, 0, 11, 5, 0), (138, .iload 4, 2, 74, 0, 0, 0, 0), (140, .aaload, 1, 75, 0, 0, 0, 0), (141, .aastore, 1, 76, 0, 0, 0, 0), (142, .aload_n 0, 1, 77, 0, 0, 0, 0), (143, .getfield 25, 3, 78, 0, 11, 6, 0), (146, .iload_n 3, 1, 79, 0, 0, 0, 0), (147, .aload_n 0, 1, 80, 0, 0, 0, 0)],
  [(148, .getfield 25, 3, 81, 0, 11, 6, 0), (151, .iload 4, 2, 82, 0, 0, 0, 0), (153, .aaload, 1, 83, 0, 0, 0, 0), (154, .aastore, 1, 84, 0, 0, 0, 0), (155, .iinc 3 1, 3, 85, 0, 0, 0, 0), (158, .iinc 4 1, 3, 86, 0, 0, 0, 0), (161, .goto (-156), 3, 87, 4, 0, 0, 1), (164, .iload_n 3, 1, 88, 0, 0, 0, 0), (165, .bipush 16, 2, 89, 0, 0, 0, 0), (167, .if_icmp .ne 5, 3, 90, 92, 0, 0, 1), (170, .iconst 0, 1, 91, 0, 0, 0, 0), (171, .ireturn, 1, 92, 0, 0, 0, 2), (172, .aload_n 0, 1, 93, 0, 0, 0, 0), (173, .getfield 22, 3, 94, 0, 11, 5, 0), (176, .iload_n 3, 1, 95, 0, 0, 0, 0), (177, .aload_n 1, 1, 96, 0, 0, 0, 0)],
  [(178, .aastore, 1, 97, 0, 0, 0, 0), (179, .aload_n 0, 1, 98, 0, 0, 0, 0), (180, .getfield 25, 3, 99, 0, 11, 6, 0), (183, .iload_n 3, 1, 100, 0, 0, 0, 0), (184, .aload_n 2, 1, 101, 0, 0, 0, 0), (185, .aastore, 1, 102, 0, 0, 0, 0), (186, .aload_n 0, 1, 103, 0, 0, 0, 0), (187, .iload_n 3, 1, 104, 0, 0, 0, 0), (188, .iconst 1, 1, 105, 0, 0, 0, 0), (189, .iadd, 1, 106, 0, 0, 0, 0), (190, .putfield 154, 3, 107, 0, 11, 7, 0), (193, .aload_n 0, 1, 108, 0, 0, 0, 0), (194, .getfield 25, 3, 109, 0, 11, 6, 0), (197, .aload_n 0, 1, 110, 0, 0, 0, 0), (198, .getfield 25, 3, 111, 0, 11, 6, 0), (201, .arraylength, 1, 112, 0, 0, 0, 0)],
  [(202, .invokestatic 110, 3, 113, 0, 1, 116, 3), (205, .astore 4, 2, 114, 0, 0, 0, 0), (207, .iconst 0, 1, 115, 0, 0, 0, 0), (208, .istore 5, 2, 116, 0, 0, 0, 0), (210, .iload 5, 2, 117, 0, 0, 0, 0), (212, .iload_n 3, 1, 118, 0, 0, 0, 0), (213, .if_icmp .ge 55, 3, 119, 147, 0, 0, 1), (216, .aload_n 0, 1, 120, 0, 0, 0, 0), (217, .iconst 0, 1, 121, 0, 0, 0, 0), (218, .putfield 118, 3, 122, 0, 11, 12, 0), (221, .aload_n 0, 1, 123, 0, 0, 0, 0), (222, .iconst 0, 1, 124, 0, 0, 0, 0), (223, .putfield 151, 3, 125, 0, 11, 14, 0), (226, .aload_n 0, 1, 126, 0, 0, 0, 0), (227, .getfield 25, 3, 127, 0, 11, 6, 0), (230, .iload 5, 2, 128, 0, 0, 0, 0)],
  [(232, .aload_n 0, 1, 129, 0, 0, 0, 0), (233, .aload 4, 2, 130, 0, 0, 0, 0), (235, .iload 5, 2, 131, 0, 0, 0, 0), (237, .aaload, 1, 132, 0, 0, 0, 0), (238, .iconst 0, 1, 133, 0, 0, 0, 0), (239, .aload_n 0, 1, 134, 0, 0, 0, 0), (240, .getfield 22, 3, 135, 0, 11, 5, 0), (243, .aload 4, 2, 136, 0, 0, 0, 0), (245, .aload_n 0, 1, 137, 0, 0, 0, 0), (246, .getfield 154, 3, 138, 0, 11, 7, 0), (249, .invokevirtual 139, 3, 139, 0, 0, 133, 3), (252, .aastore, 1, 140, 0, 0, 0, 0), (253, .aload_n 0, 1, 141, 0, 0, 0, 0), (254, .getfield 118, 3, 142, 0, 11, 12, 0), (257, .ifCond .eq 5, 3, 143, 145, 0, 0, 1), (260, .iconst 0, 1, 144, 0, 0, 0, 0)],
  [(261, .ireturn, 1, 145, 0, 0, 0, 2), (262, .iinc 5 1, 3, 146, 0, 0, 0, 0), (265, .goto (-55), 3, 147, 116, 0, 0, 1), (268, .iconst 0, 1, 148, 0, 0, 0, 0), (269, .istore 5, 2, 149, 0, 0, 0, 0), (271, .iload 5, 2, 150, 0, 0, 0, 0), (273, .aload_n 0, 1, 151, 0, 0, 0, 0), (274, .getfield 154, 3, 152, 0, 11, 7, 0), (277, .if_icmp .ge 39, 3, 153, 172, 0, 0, 1), (280, .aload_n 0, 1, 154, 0, 0, 0, 0), (281, .iload_n 3, 1, 155, 0, 0, 0, 0), (282, .iload 5, 2, 156, 0, 0, 0, 0), (284, .invokevirtual 203, 3, 157, 0, 0, 138, 3), (287, .ifCond .ne 5, 3, 158, 160, 0, 0, 1), (290, .iconst 0, 1, 159, 0, 0, 0, 0), (291, .ireturn, 1, 160, 0, 0, 0, 2)],
  [(292, .iload 5, 2, 161, 0, 0, 0, 0), (294, .iload_n 3, 1, 162, 0, 0, 0, 0), (295, .if_icmp .eq 15, 3, 163, 170, 0, 0, 1), (298, .aload_n 0, 1, 164, 0, 0, 0, 0), (299, .iload 5, 2, 165, 0, 0, 0, 0), (301, .iload_n 3, 1, 166, 0, 0, 0, 0), (302, .invokevirtual 203, 3, 167, 0, 0, 138, 3), (305, .ifCond .ne 5, 3, 168, 170, 0, 0, 1), (308, .iconst 0, 1, 169, 0, 0, 0, 0), (309, .ireturn, 1, 170, 0, 0, 0, 2), (310, .iinc 5 1, 3, 171, 0, 0, 0, 0), (313, .goto (-42), 3, 172, 149, 0, 0, 1), (316, .aload_n 0, 1, 173, 0, 0, 0, 0), (317, .getfield 170, 3, 174, 0, 11, 10, 0), (320, .bipush 60, 2, 175, 0, 0, 0, 0), (322, .if_icmp .gt 7, 3, 176, 178, 0, 0, 1)],
  [(325, .iconst 1, 1, 177, 0, 0, 0, 0), (326, .goto 4, 3, 178, 179, 0, 0, 1), (329, .iconst 0, 1, 179, 0, 0, 0, 0), (330, .ireturn, 1, 180, 0, 0, 0, 2)]]
def ft_138 : List (List FI) := [[(0, .aload_n 0, 1, 1, 0, 0, 0, 0), (1, .aload_n 0, 1, 2, 0, 0, 0, 0), (2, .getfield 22, 3, 3, 0, 11, 5, 0), (5, .iload_n 1, 1, 4, 0, 0, 0, 0), (6, .aaload, 1, 5, 0, 0, 0, 0), (7, .invokevirtual 173, 3, 6, 0, 0, 139, 3), (10, .astore_n 3, 1, 7, 0, 0, 0, 0), (11, .aload_n 0, 1, 8, 0, 0, 0, 0), (12, .aload_n 0, 1, 9, 0, 0, 0, 0), (13, .getfield 25, 3, 10, 0, 11, 6, 0), (16, .iload_n 1, 1, 11, 0, 0, 0, 0), (17, .aaload, 1, 12, 0, 0, 0, 0), (18, .invokevirtual 173, 3, 13, 0, 0, 139, 3), (21, .astore 4, 2, 14, 0, 0, 0, 0), (23, .iconst 0, 1, 15, 0, 0, 0, 0), (24, .istore 5, 2, 16, 0, 0, 0, 0)],
  [(26, .iload 5, 2, 17, 0, 0, 0, 0), (28, .aload_n 0, 1, 18, 0, 0, 0, 0), (29, .getfield 22, 3, 19, 0, 11, 5, 0), (32, .iload_n 2, 1, 20, 0, 0, 0, 0), (33, .aaload, 1, 21, 0, 0, 0, 0), (34, .arraylength, 1, 22, 0, 0, 0, 0), (35, .if_icmp .ge 224, 3, 23, 141, 0, 0, 1), (38, .aload_n 0, 1, 24, 0, 0, 0, 0), (39, .aload_n 0, 1, 25, 0, 0, 0, 0), (40, .getfield 22, 3, 26, 0, 11, 5, 0), (43, .iload_n 2, 1, 27, 0, 0, 0, 0), (44, .aaload, 1, 28, 0, 0, 0, 0), (45, .iload 5, 2, 29, 0, 0, 0, 0), (47, .iaload, 1, 30, 0, 0, 0, 0), (48, .invokevirtual 50, 3, 31, 0, 0, 99, 3), (51, .ifCond .ne 202, 3, 32, 139, 0, 0, 1)],
  [(54, .aload_n 0, 1, 33, 0, 0, 0, 0), (55, .getfield 22, 3, 34, 0, 11, 5, 0), (58, .iload_n 2, 1, 35, 0, 0, 0, 0), (59, .aaload, 1, 36, 0, 0, 0, 0), (60, .iload 5, 2, 37, 0, 0, 0, 0), (62, .iaload, 1, 38, 0, 0, 0, 0), (63, .aload_n 3, 1, 39, 0, 0, 0, 0), (64, .iconst 0, 1, 40, 0, 0, 0, 0), (65, .iaload, 1, 41, 0, 0, 0, 0), (66, .if_icmp .eq 6, 3, 42, 43, 0, 0, 1), (69, .goto 184, 3, 43, 139, 0, 0, 1), (72, .aload_n 0, 1, 44, 0, 0, 0, 0), (73, .aload_n 3, 1, 45, 0, 0, 0, 0), (74, .aload_n 0, 1, 46, 0, 0, 0, 0), (75, .aload_n 0, 1, 47, 0, 0, 0, 0), (76, .getfield 22, 3, 48, 0, 11, 5, 0)],
  [(79, .iload_n 2, 1, 49, 0, 0, 0, 0), (80, .aaload, 1, 50, 0, 0, 0, 0), (81, .iload 5, 2, 51, 0, 0, 0, 0), (83, .invokevirtual 66, 3, 52, 0, 0, 106, 3), (86, .invokevirtual 177, 3, 53, 0, 0, 119, 3), (89, .aload_n 0, 1, 54, 0, 0, 0, 0), (90, .getfield 118, 3, 55, 0, 11, 12, 0), (93, .ifCond .eq 5, 3, 56, 58, 0, 0, 1), (96, .iconst 0, 1, 57, 0, 0, 0, 0), (97, .ireturn, 1, 58, 0, 0, 0, 2), (98, .aload_n 0, 1, 59, 0, 0, 0, 0), (99, .getfield 96, 3, 60, 0, 11, 18, 0), (102, .istore 6, 2, 61, 0, 0, 0, 0), (104, .iload 6, 2, 62, 0, 0, 0, 0), (106, .anewarray 39, 3, 63, 0, 3, 0, 0), (109, .astore 7, 2, 64, 0, 0, 0, 0)],
  [(111, .iconst 0, 1, 65, 0, 0, 0, 0), (112, .istore 8, 2, 66, 0, 0, 0, 0), (114, .iload 8, 2, 67, 0, 0, 0, 0), (116, .iload 6, 2, 68, 0, 0, 0, 0), (118, .if_icmp .ge 21, 3, 69, 78, 0, 0, 1), (121, .aload 7, 2, 70, 0, 0, 0, 0), (123, .iload 8, 2, 71, 0, 0, 0, 0), (125, .aload_n 0, 1, 72, 0, 0, 0, 0), (126, .getfield 40, 3, 73, 0, 11, 17, 0), (129, .iload 8, 2, 74, 0, 0, 0, 0), (131, .aaload, 1, 75, 0, 0, 0, 0), (132, .aastore, 1, 76, 0, 0, 0, 0), (133, .iinc 8 1, 3, 77, 0, 0, 0, 0), (136, .goto (-22), 3, 78, 66, 0, 0, 1), (139, .iconst 0, 1, 79, 0, 0, 0, 0), (140, .istore 8, 2, 80, 0, 0, 0, 0)],
  [(142, .iload 8, 2, 81, 0, 0, 0, 0), (144, .iload 6, 2, 82, 0, 0, 0, 0), (146, .if_icmp .ge 107, 3, 83, 139, 0, 0, 1), (149, .aload_n 0, 1, 84, 0, 0, 0, 0), (150, .aload_n 0, 1, 85, 0, 0, 0, 0), (151, .aload_n 0, 1, 86, 0, 0, 0, 0), (152, .getfield 22, 3, 87, 0, 11, 5, 0), (155, .iload_n 2, 1, 88, 0, 0, 0, 0), (156, .aaload, 1, 89, 0, 0, 0, 0), (157, .iconst 0, 1, 90, 0, 0, 0, 0), (158, .iload 5, 2, 91, 0, 0, 0, 0), (160, .aload 4, 2, 92, 0, 0, 0, 0), (162, .invokevirtual 78, 3, 93, 0, 0, 140, 3), (165, .iconst 0, 1, 94, 0, 0, 0, 0), (166, .aload 7, 2, 95, 0, 0, 0, 0), (168, .iload 8, 2, 96, 0, 0, 0, 0)],
  [(170, .aaload, 1, 97, 0, 0, 0, 0), (171, .invokevirtual 70, 3, 98, 0, 0, 122, 3), (174, .astore 9, 2, 99, 0, 0, 0, 0), (176, .aload_n 0, 1, 100, 0, 0, 0, 0), (177, .aload_n 0, 1, 101, 0, 0, 0, 0), (178, .getfield 25, 3, 102, 0, 11, 6, 0), (181, .iload_n 2, 1, 103, 0, 0, 0, 0), (182, .aaload, 1, 104, 0, 0, 0, 0), (183, .iconst 0, 1, 105, 0, 0, 0, 0), (184, .aload 7, 2, 106, 0, 0, 0, 0), (186, .iload 8, 2, 107, 0, 0, 0, 0), (188, .aaload, 1, 108, 0, 0, 0, 0), (189, .invokevirtual 70, 3, 109, 0, 0, 122, 3), (192, .astore 10, 2, 110, 0, 0, 0, 0), (194, .aload 9, 2, 111, 0, 0, 0, 0), (196, .arraylength, 1, 112, 0, 0, 0, 0)],
  [(197, .bipush 24, 2, 113, 0, 0, 0, 0), (199, .if_icmp .gt 34, 3, 114, 129, 0, 0, 1), (202, .aload 10, 2, 115, 0, 0, 0, 0), (204, .arraylength, 1, 116, 0, 0, 0, 0), (205, .bipush 24, 2, 117, 0, 0, 0, 0), (207, .if_icmp .gt 26, 3, 118, 129, 0, 0, 1), (210, .aload_n 0, 1, 119, 0, 0, 0, 0), (211, .aload 9, 2, 120, 0, 0, 0, 0), (213, .aload 10, 2, 121, 0, 0, 0, 0), (215, .invokevirtual 180, 3, 122, 0, 0, 126, 3), (218, .ifCond .eq 15, 3, 123, 129, 0, 0, 1), (221, .aload_n 0, 1, 124, 0, 0, 0, 0), (222, .getfield 170, 3, 125, 0, 11, 10, 0), (225, .aload_n 0, 1, 126, 0, 0, 0, 0), (226, .getfield 28, 3, 127, 0, 11, 8, 0), (229, .arraylength, 1, 128, 0, 0, 0, 0)],
  [(230, .if_icmp .ne 5, 3, 129, 131, 0, 0, 1), (233, .iconst 0, 1, 130, 0, 0, 0, 0), (234, .ireturn, 1, 131, 0, 0, 0, 2), (235, .aload_n 0, 1, 132, 0, 0, 0, 0), (236, .aload_n 0, 1, 133, 0, 0, 0, 0), (237, .getfield 164, 3, 134, 0, 11, 21, 0), (240, .aload_n 0, 1, 135, 0, 0, 0, 0), (241, .getfield 167, 3, 136, 0, 11, 22, 0), (244, .invokevirtual 183, 3, 137, 0, 0, 128, 3), (247, .iinc 8 1, 3, 138, 0, 0, 0, 0), (250, .goto (-108), 3, 139, 80, 0, 0, 1), (253, .iinc 5 1, 3, 140, 0, 0, 0, 0), (256, .goto (-230), 3, 141, 16, 0, 0, 1), (259, .iconst 1, 1, 142, 0, 0, 0, 0), (260, .ireturn, 1, 143, 0, 0, 0, 2)]]
def ft_139 : List (List FI) := [[(0, .aload_n 1, 1, 1, 0, 0, 0, 0), (1, .arraylength, 1, 2, 0, 0, 0, 0), (2, .newarray .int, 2, 3, 0, 0, 0, 0), (4, .astore_n 2, 1, 4, 0, 0, 0, 0), (5, .iconst 0, 1, 5, 0, 0, 0, 0), (6, .istore_n 3, 1, 6, 0, 0, 0, 0), (7, .iload_n 3, 1, 7, 0, 0, 0, 0), (8, .aload_n 1, 1, 8, 0, 0, 0, 0), (9, .arraylength, 1, 9, 0, 0, 0, 0), (10, .if_icmp .ge 34, 3, 10, 30, 0, 0, 1), (13, .aload_n 2, 1, 11, 0, 0, 0, 0), (14, .iload_n 3, 1, 12, 0, 0, 0, 0), (15, .aload_n 0, 1, 13, 0, 0, 0, 0), (16, .aload_n 1, 1, 14, 0, 0, 0, 0), (17, .iload_n 3, 1, 15, 0, 0, 0, 0), (18, .iaload, 1, 16, 0, 0, 0, 0)],
  [(19, .invokevirtual 50, 3, 17, 0, 0, 99, 3), (22, .ifCond .eq 12, 3, 18, 24, 0, 0, 1), (25, .aload_n 1, 1, 19, 0, 0, 0, 0), (26, .iload_n 3, 1, 20, 0, 0, 0, 0), (27, .iaload, 1, 21, 0, 0, 0, 0), (28, .bipush 6, 2, 22, 0, 0, 0, 0), (30, .iadd, 1, 23, 0, 0, 0, 0), (31, .goto 6, 3, 24, 27, 0, 0, 1), (34, .aload_n 1, 1, 25, 0, 0, 0, 0), (35, .iload_n 3, 1, 26, 0, 0, 0, 0), (36, .iaload, 1, 27, 0, 0, 0, 0), (37, .iastore, 1, 28, 0, 0, 0, 0), (38, .iinc 3 1, 3, 29, 0, 0, 0, 0), (41, .goto (-34), 3, 30, 6, 0, 0, 1), (44, .aload_n 2, 1, 31, 0, 0, 0, 0), (45, .areturn, 1, 32, 0, 0, 0, 2)]]
def ft_140 : List (List FI) := [[(0, .iload_n 2, 1, 1, 0, 0, 0, 0), (1, .iload_n 3, 1, 2, 0, 0, 0, 0), (2, .if_icmp .ne 6, 3, 3, 5, 0, 0, 1), (5, .aload 4, 2, 4, 0, 0, 0, 0), (7, .areturn, 1, 5, 0, 0, 0, 2), (8, .aload_n 0, 1, 6, 0, 0, 0, 0), (9, .aload_n 1, 1, 7, 0, 0, 0, 0), (10, .iload_n 2, 1, 8, 0, 0, 0, 0), (11, .iaload, 1, 9, 0, 0, 0, 0), (12, .invokevirtual 54, 3, 10, 0, 0, 108, 3), (15, .istore 5, 2, 11, 0, 0, 0, 0), (17, .iload 5, 2, 12, 0, 0, 0, 0), (19, .ifCond .ne 10, 3, 13, 18, 0, 0, 1), (22, .aload_n 0, 1, 14, 0, 0, 0, 0), (23, .aload_n 1, 1, 15, 0, 0, 0, 0), (24, .iload_n 2, 1, 16, 0, 0, 0, 0)],
  [(25, .invokevirtual 66, 3, 17, 0, 0, 106, 3), (28, .areturn, 1, 18, 0, 0, 0, 2), (29, .aload_n 0, 1, 19, 0, 0, 0, 0), (30, .aload_n 1, 1, 20, 0, 0, 0, 0), (31, .iload_n 2, 1, 21, 0, 0, 0, 0), (32, .iconst 1, 1, 22, 0, 0, 0, 0), (33, .iadd, 1, 23, 0, 0, 0, 0), (34, .iload_n 3, 1, 24, 0, 0, 0, 0), (35, .aload 4, 2, 25, 0, 0, 0, 0), (37, .invokevirtual 78, 3, 26, 0, 0, 140, 3), (40, .astore 6, 2, 27, 0, 0, 0, 0), (42, .aload_n 0, 1, 28, 0, 0, 0, 0), (43, .aload_n 1, 1, 29, 0, 0, 0, 0), (44, .iload_n 2, 1, 30, 0, 0, 0, 0), (45, .iaload, 1, 31, 0, 0, 0, 0), (46, .aload 6, 2, 32, 0, 0, 0, 0)],
  [(48, .iload 5, 2, 33, 0, 0, 0, 0), (50, .iconst 1, 1, 34, 0, 0, 0, 0), (51, .if_icmp .le 22, 3, 35, 47, 0, 0, 1), (54, .aload_n 0, 1, 36, 0, 0, 0, 0), (55, .aload_n 1, 1, 37, 0, 0, 0, 0), (56, .aload_n 0, 1, 38, 0, 0, 0, 0), (57, .aload_n 1, 1, 39, 0, 0, 0, 0), (58, .iload_n 2, 1, 40, 0, 0, 0, 0), (59, .iconst 1, 1, 41, 0, 0, 0, 0), (60, .iadd, 1, 42, 0, 0, 0, 0), (61, .invokevirtual 58, 3, 43, 0, 0, 107, 3), (64, .iload_n 3, 1, 44, 0, 0, 0, 0), (65, .aload 4, 2, 45, 0, 0, 0, 0), (67, .invokevirtual 78, 3, 46, 0, 0, 140, 3), (70, .goto 5, 3, 47, 48, 0, 0, 1), (73, .aload 6, 2, 48, 0, 0, 0, 0)],
  [(75, .invokevirtual 74, 3, 49, 0, 0, 97, 3), (78, .areturn, 1, 50, 0, 0, 0, 2)]]
def ft_141 : List (List FI) := [[(0, .aload_n 0, 1, 1, 0, 0, 0, 0), (1, .iconst 0, 1, 2, 0, 0, 0, 0), (2, .putfield 47, 3, 3, 0, 11, 0, 0), (5, .aload_n 0, 1, 4, 0, 0, 0, 0), (6, .getfield 154, 3, 5, 0, 11, 7, 0), (9, .ireturn, 1, 6, 0, 0, 0, 2)]]
def ft_142 : List (List FI) := [[(0, .aload_n 0, 1, 1, 0, 0, 0, 0), (1, .iconst 0, 1, 2, 0, 0, 0, 0), (2, .putfield 47, 3, 3, 0, 11, 0, 0), (5, .iload_n 1, 1, 4, 0, 0, 0, 0), (6, .ifCond .lt 18, 3, 5, 12, 0, 0, 1), (9, .iload_n 1, 1, 6, 0, 0, 0, 0), (10, .aload_n 0, 1, 7, 0, 0, 0, 0), (11, .getfield 154, 3, 8, 0, 11, 7, 0), (14, .if_icmp .ge 10, 3, 9, 12, 0, 0, 1), (17, .iload_n 3, 1, 10, 0, 0, 0, 0), (18, .invokestatic 210, 3, 11, 0, 1, 95, 3), (21, .ifCond .ne 5, 3, 12, 14, 0, 0, 1), (24, .iconst 0, 1, 13, 0, 0, 0, 0), (25, .ireturn, 1, 14, 0, 0, 0, 2), (26, .aload_n 0, 1, 15, 0, 0, 0, 0), (27, .getfield 18, 3, 16, 0, 11, 4, 0)],
  [(30, .iload_n 3, 1, 17, 0, 0, 0, 0), (31, .iload_n 2, 1, 18, 0, 0, 0, 0), (32, .ifCond .eq 12, 3, 19, 24, 0, 0, 1), (35, .aload_n 0, 1, 20, 0, 0, 0, 0), (36, .getfield 25, 3, 21, 0, 11, 6, 0), (39, .iload_n 1, 1, 22, 0, 0, 0, 0), (40, .aaload, 1, 23, 0, 0, 0, 0), (41, .goto 9, 3, 24, 28, 0, 0, 1), (44, .aload_n 0, 1, 25, 0, 0, 0, 0), (45, .getfield 22, 3, 26, 0, 11, 5, 0), (48, .iload_n 1, 1, 27, 0, 0, 0, 0), (49, .aaload, 1, 28, 0, 0, 0, 0), (50, .aastore, 1, 29, 0, 0, 0, 0), (51, .iconst 1, 1, 30, 0, 0, 0, 0), (52, .ireturn, 1, 31, 0, 0, 0, 2)]]
def ft_143 : List (List FI) := [[(0, .aload_n 0, 1, 1, 0, 0, 0, 0), (1, .iconst 0, 1, 2, 0, 0, 0, 0), (2, .putfield 47, 3, 3, 0, 11, 0, 0), (5, .aload_n 0, 1, 4, 0, 0, 0, 0), (6, .getfield 170, 3, 5, 0, 11, 10, 0), (9, .ireturn, 1, 6, 0, 0, 0, 2)]]
def ft_144 : List (List FI) := [[(0, .aload_n 0, 1, 1, 0, 0, 0, 0), (1, .iconst 0, 1, 2, 0, 0, 0, 0), (2, .putfield 47, 3, 3, 0, 11, 0, 0), (5, .iload_n 1, 1, 4, 0, 0, 0, 0), (6, .ifCond .lt 18, 3, 5, 12, 0, 0, 1), (9, .iload_n 1, 1, 6, 0, 0, 0, 0), (10, .aload_n 0, 1, 7, 0, 0, 0, 0), (11, .getfield 170, 3, 8, 0, 11, 10, 0), (14, .if_icmp .ge 10, 3, 9, 12, 0, 0, 1), (17, .iload_n 3, 1, 10, 0, 0, 0, 0), (18, .invokestatic 210, 3, 11, 0, 1, 95, 3), (21, .ifCond .ne 5, 3, 12, 14, 0, 0, 1), (24, .iconst 0, 1, 13, 0, 0, 0, 0), (25, .ireturn, 1, 14, 0, 0, 0, 2), (26, .aload_n 0, 1, 15, 0, 0, 0, 0), (27, .getfield 18, 3, 16, 0, 11, 4, 0)],
  [(30, .iload_n 3, 1, 17, 0, 0, 0, 0), (31, .iload_n 2, 1, 18, 0, 0, 0, 0), (32, .ifCond .eq 12, 3, 19, 24, 0, 0, 1), (35, .aload_n 0, 1, 20, 0, 0, 0, 0), (36, .getfield 31, 3, 21, 0, 11, 9, 0), (39, .iload_n 1, 1, 22, 0, 0, 0, 0), (40, .aaload, 1, 23, 0, 0, 0, 0), (41, .goto 9, 3, 24, 28, 0, 0, 1), (44, .aload_n 0, 1, 25, 0, 0, 0, 0), (45, .getfield 28, 3, 26, 0, 11, 8, 0), (48, .iload_n 1, 1, 27, 0, 0, 0, 0), (49, .aaload, 1, 28, 0, 0, 0, 0), (50, .aastore, 1, 29, 0, 0, 0, 0), (51, .iconst 1, 1, 30, 0, 0, 0, 0), (52, .ireturn, 1, 31, 0, 0, 0, 2)]]
def ft_145 : List (List FI) := [[(0, .aload_n 0, 1, 1, 0, 0, 0, 0), (1, .iconst 0, 1, 2, 0, 0, 0, 0), (2, .putfield 47, 3, 3, 0, 11, 0, 0), (5, .iload_n 1, 1, 4, 0, 0, 0, 0), (6, .invokestatic 210, 3, 5, 0, 1, 95, 3), (9, .ifCond .eq 10, 3, 6, 9, 0, 0, 1), (12, .iload_n 2, 1, 7, 0, 0, 0, 0), (13, .invokestatic 210, 3, 8, 0, 1, 95, 3), (16, .ifCond .ne 5, 3, 9, 11, 0, 0, 1), (19, .iconst 0, 1, 10, 0, 0, 0, 0), (20, .ireturn, 1, 11, 0, 0, 0, 2), (21, .aload_n 0, 1, 12, 0, 0, 0, 0), (22, .aload_n 0, 1, 13, 0, 0, 0, 0), (23, .getfield 18, 3, 14, 0, 11, 4, 0), (26, .iload_n 1, 1, 15, 0, 0, 0, 0), (27, .aaload, 1, 16, 0, 0, 0, 0)],
  [(28, .invokevirtual 190, 3, 17, 0, 0, 132, 3), (31, .astore_n 3, 1, 18, 0, 0, 0, 0), (32, .aload_n 0, 1, 19, 0, 0, 0, 0), (33, .getfield 118, 3, 20, 0, 11, 12, 0), (36, .ifCond .eq 5, 3, 21, 23, 0, 0, 1), (39, .iconst 0, 1, 22, 0, 0, 0, 0), (40, .ireturn, 1, 23, 0, 0, 0, 2), (41, .aload_n 0, 1, 24, 0, 0, 0, 0), (42, .getfield 18, 3, 25, 0, 11, 4, 0), (45, .iload_n 2, 1, 26, 0, 0, 0, 0), (46, .aload_n 3, 1, 27, 0, 0, 0, 0), (47, .aastore, 1, 28, 0, 0, 0, 0), (48, .iconst 1, 1, 29, 0, 0, 0, 0), (49, .ireturn, 1, 30, 0, 0, 0, 2)]]
def ft_146 : List (List FI) := [[(0, .aload_n 0, 1, 1, 0, 0, 0, 0), (1, .iconst 0, 1, 2, 0, 0, 0, 0), (2, .putfield 47, 3, 3, 0, 11, 0, 0), (5, .iload_n 1, 1, 4, 0, 0, 0, 0), (6, .invokestatic 210, 3, 5, 0, 1, 95, 3), (9, .ifCond .eq 10, 3, 6, 9, 0, 0, 1), (12, .iload_n 2, 1, 7, 0, 0, 0, 0), (13, .invokestatic 210, 3, 8, 0, 1, 95, 3), (16, .ifCond .ne 5, 3, 9, 11, 0, 0, 1), (19, .iconst (-1), 1, 10, 0, 0, 0, 0), (20, .ireturn, 1, 11, 0, 0, 0, 2), (21, .aload_n 0, 1, 12, 0, 0, 0, 0), (22, .aload_n 0, 1, 13, 0, 0, 0, 0), (23, .getfield 18, 3, 14, 0, 11, 4, 0), (26, .iload_n 1, 1, 15, 0, 0, 0, 0), (27, .aaload, 1, 16, 0, 0, 0, 0)],
  [(28, .invokevirtual 190, 3, 17, 0, 0, 132, 3), (31, .astore_n 3, 1, 18, 0, 0, 0, 0), (32, .aload_n 0, 1, 19, 0, 0, 0, 0), (33, .getfield 118, 3, 20, 0, 11, 12, 0), (36, .ifCond .eq 5, 3, 21, 23, 0, 0, 1), (39, .iconst 2, 1, 22, 0, 0, 0, 0), (40, .ireturn, 1, 23, 0, 0, 0, 2), (41, .aload_n 0, 1, 24, 0, 0, 0, 0), (42, .aload_n 0, 1, 25, 0, 0, 0, 0), (43, .getfield 18, 3, 26, 0, 11, 4, 0), (46, .iload_n 2, 1, 27, 0, 0, 0, 0), (47, .aaload, 1, 28, 0, 0, 0, 0), (48, .invokevirtual 190, 3, 29, 0, 0, 132, 3), (51, .astore 4, 2, 30, 0, 0, 0, 0), (53, .aload_n 0, 1, 31, 0, 0, 0, 0), (54, .getfield 118, 3, 32, 0, 11, 12, 0)],
  [(57, .ifCond .eq 5, 3, 33, 35, 0, 0, 1), (60, .iconst 2, 1, 34, 0, 0, 0, 0), (61, .ireturn, 1, 35, 0, 0, 0, 2), (62, .aload_n 3, 1, 36, 0, 0, 0, 0), (63, .aload 4, 2, 37, 0, 0, 0, 0), (65, .invokestatic 84, 3, 38, 0, 1, 103, 3), (68, .ifCond .eq 7, 3, 39, 41, 0, 0, 1), (71, .iconst 1, 1, 40, 0, 0, 0, 0), (72, .goto 15, 3, 41, 47, 0, 0, 1), (75, .aload_n 0, 1, 42, 0, 0, 0, 0), (76, .getfield 170, 3, 43, 0, 11, 10, 0), (79, .ifCond .ne 7, 3, 44, 46, 0, 0, 1), (82, .iconst 0, 1, 45, 0, 0, 0, 0), (83, .goto 4, 3, 46, 47, 0, 0, 1), (86, .iconst 2, 1, 47, 0, 0, 0, 0), (87, .ireturn, 1, 48, 0, 0, 0, 2)]]
def ftt : List (List (List (List FI))) := [[ft_0, ft_1, ft_2, ft_3, ft_4, ft_5, ft_6, ft_7, ft_8, ft_9, ft_10, ft_11],
  [ft_12, ft_13, ft_14, ft_15, ft_16, ft_17, ft_18, ft_19, ft_20, ft_21, ft_22, ft_23],
  [ft_24, ft_25, ft_26, ft_27, ft_28, ft_29, ft_30, ft_31, ft_32, ft_33, ft_34, ft_35],
  [ft_36, ft_37, ft_38, ft_39, ft_40, ft_41, ft_42, ft_43, ft_44, ft_45, ft_46, ft_47],
  [ft_48, ft_49, ft_50, ft_51, ft_52, ft_53, ft_54, ft_55, ft_56, ft_57, ft_58, ft_59],
  [ft_60, ft_61, ft_62, ft_63, ft_64, ft_65, ft_66, ft_67, ft_68, ft_69, ft_70, ft_71],
  [ft_72, ft_73, ft_74, ft_75, ft_76, ft_77, ft_78, ft_79, ft_80, ft_81, ft_82, ft_83],
  [ft_84, ft_85, ft_86, ft_87, ft_88, ft_89, ft_90, ft_91, ft_92, ft_93, ft_94, ft_95],
  [ft_96, ft_97, ft_98, ft_99, ft_100, ft_101, ft_102, ft_103, ft_104, ft_105, ft_106, ft_107],
  [ft_108, ft_109, ft_110, ft_111, ft_112, ft_113, ft_114, ft_115, ft_116, ft_117, ft_118, ft_119],
  [ft_120, ft_121, ft_122, ft_123, ft_124, ft_125, ft_126, ft_127, ft_128, ft_129, ft_130, ft_131],
  [ft_132, ft_133, ft_134, ft_135, ft_136, ft_137, ft_138, ft_139, ft_140, ft_141, ft_142, ft_143],
  [ft_144, ft_145, ft_146]]
end
section
/-! THE FAST FORM: the same runs over the decoded and linked rows -/
def fget (M j : Nat) : Option FI := (((ftt[M / 12]?).bind (·[M % 12]?)).bind (·[j / 16]?)).bind (·[j % 16]?)
/-- the link of an instruction, as the tables have it -/
def flk (own : Nat) (ig : Instr) (a b : Nat) : Bool := match ig with
  | .getfield i => mk2 mlF own i == some (a, b)
  | .putfield i => mk2 mlF own i == some (a, b)
  | .new i => mk2 mlN own i == some a
  | .anewarray i => mk2 mlA own i == some a
  | .checkcast i => mk2 mlA own i == some a
  | .multianewarray i _ => mk2 mlA own i == some a
  | .ldc i => mk2 mlC own i == some (Int32.ofNat a)
  | .invokevirtual i => mk2 mlM own i == some (a, b)
  | .invokestatic i => mk2 mlM own i == some (a, b)
  | .invokespecial i => mk2 mlM own i == some (a, b)
  | _ => true
def fpc (M j : Nat) : Option Nat := (fget M j).map (·.1)
/-- the rows that an instruction goes on to -/
def fto (M : Nat) (ig : Instr) (pc len nj tj : Nat) : Bool := match ig with
  | .goto off => fpc M tj == mjmp pc off && (mjmp pc off).isSome
  | .ifCond _ off => fpc M tj == mjmp pc off && (mjmp pc off).isSome && fpc M nj == some (pc + 3)
  | .if_icmp _ off => fpc M tj == mjmp pc off && (mjmp pc off).isSome && fpc M nj == some (pc + 3)
  | .ifnull off => fpc M tj == mjmp pc off && (mjmp pc off).isSome && fpc M nj == some (pc + 3)
  | .ifnonnull off => fpc M tj == mjmp pc off && (mjmp pc off).isSome && fpc M nj == some (pc + 3)
  | .ireturn => true
  | .areturn => true
  | .return_ => true
  | .athrow => true
  | _ => fpc M nj == some (pc + len)
/-- the class of an instruction: 0 plain, 1 jumps, 2 returns, 3 calls, 4 not come to -/
def fcl : Instr → Nat
  | .goto _ => 1
  | .ifCond _ _ => 1
  | .if_icmp _ _ => 1
  | .ifnull _ => 1
  | .ifnonnull _ => 1
  | .ireturn => 2
  | .areturn => 2
  | .return_ => 2
  | .invokevirtual _ => 3
  | .invokestatic _ => 3
  | .invokespecial _ => 3
  | .checkcast _ => 3
  | .athrow => 4
  | _ => 0
def fck (M : Nat) (q : MM) (x : FI) : Bool := x.2.2.2.2.2.2.2 == 4 || fcl x.2.1 == x.2.2.2.2.2.2.2 && decide (decode q.2.1 x.1 = .ok (x.2.1, x.2.2.1)) && flk q.2.2.2.2.1 x.2.1 x.2.2.2.2.2.1 x.2.2.2.2.2.2.1 && fto M x.2.1 x.1 x.2.2.1 x.2.2.2.1 x.2.2.2.2.1
/-- a method's rows hold -/
def Fok (M : Nat) : Prop := ∀ q, mmt[M]? = some q → (∀ j x, fget M j = some x → fck M q x = true) ∧ fpc M 0 = some 0
def fcm (M : Nat) : Bool := match mmt[M]?, (ftt[M / 12]?).bind (·[M % 12]?) with
  | some q, some l => l.all (fun r => r.all (fck M q)) && fpc M 0 == some 0
  | _, _ => false
theorem Fok_of {M : Nat} (h : fcm M = true) : Fok M := by
  intro q hq
  unfold fcm at h
  rw [hq] at h
  split at h
  · next q2 l h1 h2 =>
    cases h1
    simp only [Bool.and_eq_true, beq_iff_eq] at h
    refine ⟨fun j x hx => ?_, h.2⟩
    unfold fget at hx
    rw [h2] at hx
    simp only [Option.bind_some] at hx
    obtain ⟨r, hr, hr2⟩ := Option.bind_eq_some_iff.mp hx
    exact List.all_eq_true.mp (List.all_eq_true.mp h.1 r (List.mem_of_getElem? hr)) x (List.mem_of_getElem? hr2)
  · cases h
theorem mpsG_lk {own : Nat} {ini : Bool} {ig : Instr} {len pc a b : Nat} {ml : List (Option MV)} {st : List MV} {h : List MC} (hl : flk own ig a b = true) : mpsG (fun _ => some (a, b)) (fun _ => some a) (fun _ => some a) (fun _ => some (Int32.ofNat a)) own ini ig len pc ml st h = mps own ini ig len pc ml st h := by
  cases ig <;> first | rfl | (simp only [flk, beq_iff_eq] at hl; simp only [mps, mpsG, k_aconst_null, k_iconst, k_bipush, k_sipush, k_ldc, k_iload, k_iload_n, k_aload, k_aload_n, k_istore, k_istore_n, k_astore, k_astore_n, k_iinc, k_iadd, k_isub, k_imul, k_iand, k_ior, k_ishl, k_ishr, k_dup, k_pop, k_goto, k_ifCond, k_if_icmp, k_ifnull, k_ifnonnull, k_getfield, k_putfield, k_iaload, k_baload, k_aaload, k_iastore, k_bastore, k_aastore, k_arraylength, k_new, k_newarray, k_anewarray, k_multianewarray, hl])
theorem mcalG_lk {own d : Nat} {ig : Instr} {len a b : Nat} {st : List MV} {h : List MC} (hl : flk own ig a b = true) : mcalG (fun _ => some (a, b)) d ig len st h = mcal own d ig len st h := by
  cases ig <;> first | rfl | (simp only [flk, beq_iff_eq] at hl; simp only [mcal, mcalG, hl])
theorem mnatG_lk {own d : Nat} {ig : Instr} {len pc a b : Nat} {ml : List (Option MV)} {st : List MV} {h : List MC} (hl : flk own ig a b = true) : mnatG (fun _ => some (a, b)) (fun _ => some a) d ig len pc ml st h = mnat own d ig len pc ml st h := by
  cases ig <;> first | rfl | (simp only [flk, beq_iff_eq] at hl; simp only [mnat, mnatG, hl])
/-- an instruction that jumps -/
def fjp : Instr → Bool
  | .goto _ => true
  | .ifCond _ _ => true
  | .if_icmp _ _ => true
  | .ifnull _ => true
  | .ifnonnull _ => true
  | _ => false
theorem map_pc {α : Type} {x : Option α} {f : α → MS} {q : MS} {k : Nat} (hx : x.map f = some q) (hf : ∀ y, (f y).1 = k) : q.1 = k := by
  obtain ⟨y, -, rfl⟩ := Option.map_eq_some_iff.mp hx
  exact hf y
set_option maxHeartbeats 4000000 in
theorem mps_pc {own : Nat} {ini : Bool} {ig : Instr} {len pc : Nat} {ml : List (Option MV)} {st : List MV} {h : List MC} {q : MS} (hj : fjp ig = false) (hps : mps own ini ig len pc ml st h = some q) : q.1 = pc + len := by
  cases ig
  all_goals (first | (simp [fjp] at hj; done) | skip)
  all_goals (simp only [mps, mpsG, k_aconst_null, k_iconst, k_bipush, k_sipush, k_ldc, k_iload, k_iload_n, k_aload, k_aload_n, k_istore, k_istore_n, k_astore, k_astore_n, k_iinc, k_iadd, k_isub, k_imul, k_iand, k_ior, k_ishl, k_ishr, k_dup, k_pop, k_goto, k_ifCond, k_if_icmp, k_ifnull, k_ifnonnull, k_getfield, k_putfield, k_iaload, k_baload, k_aaload, k_iastore, k_bastore, k_aastore, k_arraylength, k_new, k_newarray, k_anewarray, k_multianewarray] at hps)
  all_goals (first | (cases hps; done) | skip)
  all_goals (repeat' (split at hps))
  all_goals (first | (cases hps; done) | skip)
  all_goals (first
    | (cases hps; simp only; omega)
    | exact map_pc hps (fun _ => by simp only; omega))
theorem mnat_pc {own d : Nat} {ig : Instr} {len pc : Nat} {ml : List (Option MV)} {st : List MV} {h : List MC} {q : MS} (hps : mnat own d ig len pc ml st h = some q) : q.1 = pc + len ∧ len = 3 := by
  unfold mnat mnatG at hps
  split at hps
  all_goals (repeat' (split at hps))
  all_goals (first | (cases hps; done) | skip)
  all_goals (cases hps; simp only; omega)
theorem mcal_len {own d : Nat} {ig : Instr} {len : Nat} {st : List MV} {h : List MC} {q : Nat × Nat × List MV × List MV} (hc : mcal own d ig len st h = some q) : len = 3 := by
  unfold mcal mcalG at hc
  split at hc
  all_goals (repeat' (split at hc))
  all_goals (first | (cases hc; done) | skip)
  all_goals (omega)
def fx : Nat → Nat → Nat → Nat → List (Option MV) → List MV → List MC → Option (Option MV × List MC)
  | 0, _, _, _, _, _, _ => none
  | n + 1, d, M, j, ml, st, h => match fget M j with
    | none => none
    | some (pc, ig, len, nj, tj, a, b, cl) => match mmt[M]? with
      | none => none
      | some q => match cl with
        | 0 => match mpsG (fun _ => some (a, b)) (fun _ => some a) (fun _ => some a) (fun _ => some (Int32.ofNat a)) q.2.2.2.2.1 (q.1.name == "<init>") ig len pc ml st h with
          | some u => fx n d M nj u.2.1 u.2.2.1 u.2.2.2
          | none => none
        | 1 => match ig with
          | .goto _ => if len = 3 then fx n d M tj ml st h else none
          | .ifCond c _ => match st with
            | .inl x :: st => if len = 3 then (match mcmp c x 0 with
              | true => fx n d M tj ml st h
              | false => fx n d M nj ml st h) else none
            | _ => none
          | .if_icmp c _ => match st with
            | .inl y :: .inl x :: st => if len = 3 then (match mcmp c x y with
              | true => fx n d M tj ml st h
              | false => fx n d M nj ml st h) else none
            | _ => none
          | .ifnull _ => match st with
            | .inr none :: st => if len = 3 then fx n d M tj ml st h else none
            | .inr (some _) :: st => if len = 3 then fx n d M nj ml st h else none
            | _ => none
          | .ifnonnull _ => match st with
            | .inr none :: st => if len = 3 then fx n d M nj ml st h else none
            | .inr (some _) :: st => if len = 3 then fx n d M tj ml st h else none
            | _ => none
          | _ => none
        | 2 => match mret q.2.2.2.1 ig len st with
          | some r => some (r, h)
          | none => none
        | 3 => match mcalG (fun _ => some (a, b)) d ig len st h with
            | some (M', d', as, rest) => match mmt[M']? with
              | none => none
              | some q' => match fx n d' M' 0 (as.map some ++ List.replicate (q'.2.2.1 - as.length) none) [] h with
                | none => none
                | some r => fx n d M nj ml (r.1.toList ++ rest) r.2
            | none => match mnatG (fun _ => some (a, b)) (fun _ => some a) d ig len pc ml st h with
              | some u => fx n d M nj u.2.1 u.2.2.1 u.2.2.2
              | none => none
        | _ => none
theorem fcl0 {ig : Instr} (h : fcl ig = 0) : fjp ig = false ∧ (∀ ret len st, mret ret ig len st = none) ∧ (∀ own d len st h, mcal own d ig len st h = none) ∧ ∀ own d len pc ml st h, mnat own d ig len pc ml st h = none := by
  cases ig <;> first | (simp [fcl] at h; done) | exact ⟨rfl, fun _ _ _ => rfl, fun _ _ _ _ _ => rfl, fun _ _ _ _ _ _ _ => rfl⟩
theorem fcl3 {ig : Instr} (h : fcl ig = 3) : ∀ ret len st, mret ret ig len st = none := by
  cases ig <;> first | (simp [fcl] at h; done) | exact fun _ _ _ => rfl
end
section
/-! THE FAST FORM IS RIGHT -/
theorem mx_ps {n d M pc len : Nat} {ml : List (Option MV)} {st : List MV} {h : List MC} {q : MM} {ig : Instr} {u : MS} (hq : mmt[M]? = some q) (hd : decode q.2.1 pc = .ok (ig, len)) (h1 : mret q.2.2.2.1 ig len st = none) (h2 : mcal q.2.2.2.2.1 d ig len st h = none) (h3 : mnat q.2.2.2.2.1 d ig len pc ml st h = none) (h4 : mps q.2.2.2.2.1 (q.1.name == "<init>") ig len pc ml st h = some u) : mx (n + 1) d M pc ml st h = mx n d M u.1 u.2.1 u.2.2.1 u.2.2.2 := by
  conv => lhs; unfold mx
  simp only [hq, hd, h1, h2, h3, h4]
theorem fpc_of {M j k : Nat} (h : fpc M j = some k) : ∃ x, fget M j = some x ∧ x.1 = k := by
  unfold fpc at h
  exact Option.map_eq_some_iff.mp h
theorem fto_ps {M own : Nat} {ini : Bool} {ig : Instr} {pc len nj tj : Nat} {ml : List (Option MV)} {st : List MV} {h : List MC} {u : MS} (hj : fjp ig = false) (hps : mps own ini ig len pc ml st h = some u) (ht : fto M ig pc len nj tj = true) : fpc M nj = some (pc + len) := by
  cases ig
  all_goals (first | (simp [fjp] at hj; done) | skip)
  all_goals (first | (simp [mps, mpsG, k_aconst_null, k_iconst, k_bipush, k_sipush, k_ldc, k_iload, k_iload_n, k_aload, k_aload_n, k_istore, k_istore_n, k_astore, k_astore_n, k_iinc, k_iadd, k_isub, k_imul, k_iand, k_ior, k_ishl, k_ishr, k_dup, k_pop, k_goto, k_ifCond, k_if_icmp, k_ifnull, k_ifnonnull, k_getfield, k_putfield, k_iaload, k_baload, k_aaload, k_iastore, k_bastore, k_aastore, k_arraylength, k_new, k_newarray, k_anewarray, k_multianewarray] at hps; done) | skip)
  all_goals (simp only [fto, beq_iff_eq] at ht; exact ht)
theorem fto_nat {M own d : Nat} {ig : Instr} {pc len nj tj : Nat} {ml : List (Option MV)} {st : List MV} {h : List MC} {u : MS} (hps : mnat own d ig len pc ml st h = some u) (ht : fto M ig pc len nj tj = true) : fpc M nj = some (pc + len) := by
  unfold mnat mnatG at hps
  split at hps
  all_goals (first | (cases hps; done) | skip)
  all_goals (simp only [fto, beq_iff_eq] at ht; exact ht)
theorem fto_cal {M own d : Nat} {ig : Instr} {pc len nj tj : Nat} {st : List MV} {h : List MC} {u : Nat × Nat × List MV × List MV} (hps : mcal own d ig len st h = some u) (ht : fto M ig pc len nj tj = true) : fpc M nj = some (pc + len) := by
  unfold mcal mcalG at hps
  split at hps
  all_goals (first | (cases hps; done) | skip)
  all_goals (simp only [fto, beq_iff_eq] at ht; exact ht)
theorem fto_jmp {M pc nj tj : Nat} {off : Int} (h : (fpc M tj == mjmp pc off && (mjmp pc off).isSome && fpc M nj == some (pc + 3)) = true) : ∃ t, mjmp pc off = some t ∧ fpc M tj = some t ∧ fpc M nj = some (pc + 3) := by
  simp only [Bool.and_eq_true, beq_iff_eq] at h
  obtain ⟨t, ht⟩ := Option.isSome_iff_exists.mp h.1.2
  exact ⟨t, ht, by rw [h.1.1, ht], h.2⟩
set_option maxHeartbeats 4000000 in
theorem fx_sound (hok : ∀ M, Fok M) : ∀ {n d M j : Nat} {ml : List (Option MV)} {st : List MV} {h : List MC} {r : Option MV × List MC} {x : FI}, fx n d M j ml st h = some r → fget M j = some x → mx n d M x.1 ml st h = some r
  | 0, _, _, _, _, _, _, _, _, hr, _ => by simp [fx] at hr
  | n + 1, d, M, j, ml, st, h, r, x, hr, hx => by
    unfold fx at hr
    rw [hx] at hr
    obtain ⟨pc, ig, len, nj, tj, a, b, cl⟩ := x
    simp only at hr
    split at hr
    · cases hr
    · next q hq =>
      have hck := (hok M q hq).1 j _ hx
      have go : ∀ {k j2 : Nat} {ml2 : List (Option MV)} {st2 : List MV} {h2 : List MC}, fpc M j2 = some k → fx n d M j2 ml2 st2 h2 = some r → mx n d M k ml2 st2 h2 = some r := by
        intro k j2 ml2 st2 h2 hk hf
        obtain ⟨y, hy, rfl⟩ := fpc_of hk
        exact fx_sound hok hf hy
      split at hr
      · simp only [fck, show ((0 : Nat) == 4) = false from rfl, Bool.false_or, Bool.and_eq_true, decide_eq_true_eq, beq_iff_eq] at hck
        obtain ⟨⟨⟨hcl, hd⟩, hl⟩, ht⟩ := hck
        obtain ⟨hnj, g1, g2, g3⟩ := fcl0 hcl
        rw [mpsG_lk hl] at hr
        split at hr
        · next u hv =>
          rw [mx_ps hq hd (g1 _ _ _) (g2 _ _ _ _ _) (g3 _ _ _ _ _ _ _) hv, mps_pc hnj hv]
          exact go (fto_ps hnj hv ht) hr
        · cases hr
      · simp only [fck, show ((1 : Nat) == 4) = false from rfl, Bool.false_or, Bool.and_eq_true, decide_eq_true_eq, beq_iff_eq] at hck
        obtain ⟨⟨⟨hcl, hd⟩, hl⟩, ht⟩ := hck
        split at hr
        · next off =>
          split at hr
          · next hl3 =>
            subst hl3
            simp only [fto, Bool.and_eq_true, beq_iff_eq] at ht
            obtain ⟨t, hjm⟩ := Option.isSome_iff_exists.mp ht.2
            rw [mx_ps hq hd rfl rfl rfl (u := (t, ml, st, h)) (by simp [mps, mpsG, k_aconst_null, k_iconst, k_bipush, k_sipush, k_ldc, k_iload, k_iload_n, k_aload, k_aload_n, k_istore, k_istore_n, k_astore, k_astore_n, k_iinc, k_iadd, k_isub, k_imul, k_iand, k_ior, k_ishl, k_ishr, k_dup, k_pop, k_goto, k_ifCond, k_if_icmp, k_ifnull, k_ifnonnull, k_getfield, k_putfield, k_iaload, k_baload, k_aaload, k_iastore, k_bastore, k_aastore, k_arraylength, k_new, k_newarray, k_anewarray, k_multianewarray, hjm])]
            exact go (by rw [ht.1, hjm]) hr
          · cases hr
        · next cnd off =>
          split at hr
          · next x st =>
            split at hr
            · next hl3 =>
              subst hl3
              obtain ⟨t, hjm, h1, h2⟩ := fto_jmp ht
              rw [mx_ps hq hd rfl rfl rfl (u := (if mcmp cnd x 0 then t else pc + 3, ml, st, h)) (by simp [mps, mpsG, k_aconst_null, k_iconst, k_bipush, k_sipush, k_ldc, k_iload, k_iload_n, k_aload, k_aload_n, k_istore, k_istore_n, k_astore, k_astore_n, k_iinc, k_iadd, k_isub, k_imul, k_iand, k_ior, k_ishl, k_ishr, k_dup, k_pop, k_goto, k_ifCond, k_if_icmp, k_ifnull, k_ifnonnull, k_getfield, k_putfield, k_iaload, k_baload, k_aaload, k_iastore, k_bastore, k_aastore, k_arraylength, k_new, k_newarray, k_anewarray, k_multianewarray, hjm])]
              split at hr
              · next hc => simp only [hc, if_true]; exact go h1 hr
              · next hc => simp only [hc]; exact go h2 hr
            · cases hr
          · cases hr
        · next cnd off =>
          split at hr
          · next y x st =>
            split at hr
            · next hl3 =>
              subst hl3
              obtain ⟨t, hjm, h1, h2⟩ := fto_jmp ht
              rw [mx_ps hq hd rfl rfl rfl (u := (if mcmp cnd x y then t else pc + 3, ml, st, h)) (by simp [mps, mpsG, k_aconst_null, k_iconst, k_bipush, k_sipush, k_ldc, k_iload, k_iload_n, k_aload, k_aload_n, k_istore, k_istore_n, k_astore, k_astore_n, k_iinc, k_iadd, k_isub, k_imul, k_iand, k_ior, k_ishl, k_ishr, k_dup, k_pop, k_goto, k_ifCond, k_if_icmp, k_ifnull, k_ifnonnull, k_getfield, k_putfield, k_iaload, k_baload, k_aaload, k_iastore, k_bastore, k_aastore, k_arraylength, k_new, k_newarray, k_anewarray, k_multianewarray, hjm])]
              split at hr
              · next hc => simp only [hc, if_true]; exact go h1 hr
              · next hc => simp only [hc]; exact go h2 hr
            · cases hr
          · cases hr
        · next off =>
          split at hr
          · next st =>
            split at hr
            · next hl3 =>
              subst hl3
              obtain ⟨t, hjm, h1, h2⟩ := fto_jmp ht
              rw [mx_ps hq hd rfl rfl rfl (u := (t, ml, st, h)) (by simp [mps, mpsG, k_aconst_null, k_iconst, k_bipush, k_sipush, k_ldc, k_iload, k_iload_n, k_aload, k_aload_n, k_istore, k_istore_n, k_astore, k_astore_n, k_iinc, k_iadd, k_isub, k_imul, k_iand, k_ior, k_ishl, k_ishr, k_dup, k_pop, k_goto, k_ifCond, k_if_icmp, k_ifnull, k_ifnonnull, k_getfield, k_putfield, k_iaload, k_baload, k_aaload, k_iastore, k_bastore, k_aastore, k_arraylength, k_new, k_newarray, k_anewarray, k_multianewarray, hjm])]
              exact go h1 hr
            · cases hr
          · next a2 st =>
            split at hr
            · next hl3 =>
              subst hl3
              obtain ⟨t, hjm, h1, h2⟩ := fto_jmp ht
              rw [mx_ps hq hd rfl rfl rfl (u := (pc + 3, ml, st, h)) (by simp [mps, mpsG, k_aconst_null, k_iconst, k_bipush, k_sipush, k_ldc, k_iload, k_iload_n, k_aload, k_aload_n, k_istore, k_istore_n, k_astore, k_astore_n, k_iinc, k_iadd, k_isub, k_imul, k_iand, k_ior, k_ishl, k_ishr, k_dup, k_pop, k_goto, k_ifCond, k_if_icmp, k_ifnull, k_ifnonnull, k_getfield, k_putfield, k_iaload, k_baload, k_aaload, k_iastore, k_bastore, k_aastore, k_arraylength, k_new, k_newarray, k_anewarray, k_multianewarray])]
              exact go h2 hr
            · cases hr
          · cases hr
        · next off =>
          split at hr
          · next st =>
            split at hr
            · next hl3 =>
              subst hl3
              obtain ⟨t, hjm, h1, h2⟩ := fto_jmp ht
              rw [mx_ps hq hd rfl rfl rfl (u := (pc + 3, ml, st, h)) (by simp [mps, mpsG, k_aconst_null, k_iconst, k_bipush, k_sipush, k_ldc, k_iload, k_iload_n, k_aload, k_aload_n, k_istore, k_istore_n, k_astore, k_astore_n, k_iinc, k_iadd, k_isub, k_imul, k_iand, k_ior, k_ishl, k_ishr, k_dup, k_pop, k_goto, k_ifCond, k_if_icmp, k_ifnull, k_ifnonnull, k_getfield, k_putfield, k_iaload, k_baload, k_aaload, k_iastore, k_bastore, k_aastore, k_arraylength, k_new, k_newarray, k_anewarray, k_multianewarray])]
              exact go h2 hr
            · cases hr
          · next a2 st =>
            split at hr
            · next hl3 =>
              subst hl3
              obtain ⟨t, hjm, h1, h2⟩ := fto_jmp ht
              rw [mx_ps hq hd rfl rfl rfl (u := (t, ml, st, h)) (by simp [mps, mpsG, k_aconst_null, k_iconst, k_bipush, k_sipush, k_ldc, k_iload, k_iload_n, k_aload, k_aload_n, k_istore, k_istore_n, k_astore, k_astore_n, k_iinc, k_iadd, k_isub, k_imul, k_iand, k_ior, k_ishl, k_ishr, k_dup, k_pop, k_goto, k_ifCond, k_if_icmp, k_ifnull, k_ifnonnull, k_getfield, k_putfield, k_iaload, k_baload, k_aaload, k_iastore, k_bastore, k_aastore, k_arraylength, k_new, k_newarray, k_anewarray, k_multianewarray, hjm])]
              exact go h1 hr
            · cases hr
          · cases hr
        · cases hr
      · simp only [fck, show ((2 : Nat) == 4) = false from rfl, Bool.false_or, Bool.and_eq_true, decide_eq_true_eq, beq_iff_eq] at hck
        obtain ⟨⟨⟨hcl, hd⟩, hl⟩, ht⟩ := hck
        split at hr
        · next r2 hr2 =>
          unfold mx
          simp only [hq, hd, hr2]
          exact hr
        · cases hr
      · simp only [fck, show ((3 : Nat) == 4) = false from rfl, Bool.false_or, Bool.and_eq_true, decide_eq_true_eq, beq_iff_eq] at hck
        obtain ⟨⟨⟨hcl, hd⟩, hl⟩, ht⟩ := hck
        have hr2 := fcl3 hcl q.2.2.2.1 len st
        rw [mcalG_lk hl, mnatG_lk hl] at hr
        split at hr
        · next M' d' as rest hc =>
          split at hr
          · cases hr
          · next q' hq' =>
            split at hr
            · cases hr
            · next r1 hr1 =>
              have hlen := mcal_len hc
              have hpc := fto_cal hc ht
              obtain ⟨y, hy, hy0⟩ := fpc_of (hok M' q' hq').2
              have f1 := fx_sound hok hr1 hy
              rw [hy0] at f1
              have f2 := go hpc hr
              rw [hlen] at f2
              unfold mx
              simp only [hq, hd, hr2, hc, hq', f1, Option.bind_some, f2]
        · next hc =>
          split at hr
          · next u hu =>
            have hpc := fto_nat hu ht
            have h1 := (mnat_pc hu).1
            unfold mx
            simp only [hq, hd, hr2, hc, hu]
            rw [h1]
            exact go hpc hr
          · cases hr
      · cases hr
end
section
/-! RUNS OF THE FAST FORM, GOAL FIRST: rules that a chain of 'refine .. rfl ..' takes -/
theorem fx_fuel : ∀ {n d M j : Nat} {ml : List (Option MV)} {st : List MV} {h : List MC} {r : Option MV × List MC}, fx n d M j ml st h = some r → fx (n + 1) d M j ml st h = some r
  | 0, _, _, _, _, _, _, _, hr => by simp [fx] at hr
  | n + 1, d, M, j, ml, st, h, r, hr => by
    unfold fx at hr
    unfold fx
    split at hr
    · cases hr
    · next pc ig len nj tj a b cl hx =>
      (try rw [hx])
      (try simp only)
      split at hr
      · cases hr
      · next q hq =>
        (try rw [hq])
        (try simp only)
        split at hr
        · split at hr
          · next u hu => (try rw [hu]); exact fx_fuel hr
          · cases hr
        · split at hr
          · split at hr
            · next hl => (try rw [if_pos hl]); exact fx_fuel hr
            · cases hr
          · split at hr
            · split at hr
              · next hl =>
                (try rw [if_pos hl])
                split at hr
                · next hc => (try rw [hc]); exact fx_fuel hr
                · next hc => (try rw [hc]); exact fx_fuel hr
              · cases hr
            · cases hr
          · split at hr
            · split at hr
              · next hl =>
                (try rw [if_pos hl])
                split at hr
                · next hc => (try rw [hc]); exact fx_fuel hr
                · next hc => (try rw [hc]); exact fx_fuel hr
              · cases hr
            · cases hr
          · split at hr
            · split at hr
              · next hl => (try rw [if_pos hl]); exact fx_fuel hr
              · cases hr
            · split at hr
              · next hl => (try rw [if_pos hl]); exact fx_fuel hr
              · cases hr
            · cases hr
          · split at hr
            · split at hr
              · next hl => (try rw [if_pos hl]); exact fx_fuel hr
              · cases hr
            · split at hr
              · next hl => (try rw [if_pos hl]); exact fx_fuel hr
              · cases hr
            · cases hr
          · cases hr
        · exact hr
        · split at hr
          · next M' d' as rest hc =>
            (try rw [hc])
            (try simp only)
            split at hr
            · cases hr
            · next q' hq' =>
              (try rw [hq'])
              (try simp only)
              split at hr
              · cases hr
              · next r1 hr1 => rw [fx_fuel hr1]; exact fx_fuel hr
          · next hc =>
            (try rw [hc])
            (try simp only)
            split at hr
            · next u hu => (try rw [hu]); exact fx_fuel hr
            · cases hr
        · cases hr
theorem fx_more {n d M j : Nat} {ml : List (Option MV)} {st : List MV} {h : List MC} {r : Option MV × List MC} (k : Nat) (hr : fx n d M j ml st h = some r) : fx (n + k) d M j ml st h = some r := by
  induction k with
  | zero => exact hr
  | succ k ih => exact fx_fuel ih
def PF (d M j : Nat) (ml : List (Option MV)) (st : List MV) (h : List MC) (Q : Option MV → List MC → Prop) : Prop := ∃ n r hE, fx n d M j ml st h = some (r, hE) ∧ Q r hE
section FR
variable {d M j : Nat} {ml : List (Option MV)} {st : List MV} {h : List MC} {Q : Option MV → List MC → Prop} {pc len nj tj a b : Nat} {ig : Instr} {q : MM}
theorem F_ps {p1 : Nat} {ml1 : List (Option MV)} {st1 : List MV} {h1 : List MC} (hx : fget M j = some (pc, ig, len, nj, tj, a, b, 0)) (hq : mmt[M]? = some q) (hs : mpsG (fun _ => some (a, b)) (fun _ => some a) (fun _ => some a) (fun _ => some (Int32.ofNat a)) q.2.2.2.2.1 (q.1.name == "<init>") ig len pc ml st h = some (p1, ml1, st1, h1)) (k : PF d M nj ml1 st1 h1 Q) : PF d M j ml st h Q := by
  obtain ⟨n, r, hE, h1, h2⟩ := k
  exact ⟨n + 1, r, hE, by unfold fx; simp only [hx, hq, hs, h1], h2⟩
theorem F_goto {off : Int} (hx : fget M j = some (pc, .goto off, 3, nj, tj, a, b, 1)) (hq : mmt[M]? = some q) (k : PF d M tj ml st h Q) : PF d M j ml st h Q := by
  obtain ⟨n, r, hE, h1, h2⟩ := k
  exact ⟨n + 1, r, hE, by unfold fx; simp only [hx, hq, if_true, h1], h2⟩
theorem F_ift {c : Jvm.ClassFile.Cond} {off : Int} {x : Int32} (hx : fget M j = some (pc, .ifCond c off, 3, nj, tj, a, b, 1)) (hq : mmt[M]? = some q) (hc : mcmp c x 0 = true) (k : PF d M tj ml st h Q) : PF d M j ml (.inl x :: st) h Q := by
  obtain ⟨n, r, hE, h1, h2⟩ := k
  exact ⟨n + 1, r, hE, by unfold fx; simp only [hx, hq, if_true, hc, h1], h2⟩
theorem F_iff {c : Jvm.ClassFile.Cond} {off : Int} {x : Int32} (hx : fget M j = some (pc, .ifCond c off, 3, nj, tj, a, b, 1)) (hq : mmt[M]? = some q) (hc : mcmp c x 0 = false) (k : PF d M nj ml st h Q) : PF d M j ml (.inl x :: st) h Q := by
  obtain ⟨n, r, hE, h1, h2⟩ := k
  exact ⟨n + 1, r, hE, by unfold fx; simp only [hx, hq, if_true, hc, h1], h2⟩
theorem F_ct {c : Jvm.ClassFile.Cond} {off : Int} {x y : Int32} (hx : fget M j = some (pc, .if_icmp c off, 3, nj, tj, a, b, 1)) (hq : mmt[M]? = some q) (hc : mcmp c x y = true) (k : PF d M tj ml st h Q) : PF d M j ml (.inl y :: .inl x :: st) h Q := by
  obtain ⟨n, r, hE, h1, h2⟩ := k
  exact ⟨n + 1, r, hE, by unfold fx; simp only [hx, hq, if_true, hc, h1], h2⟩
theorem F_cf {c : Jvm.ClassFile.Cond} {off : Int} {x y : Int32} (hx : fget M j = some (pc, .if_icmp c off, 3, nj, tj, a, b, 1)) (hq : mmt[M]? = some q) (hc : mcmp c x y = false) (k : PF d M nj ml st h Q) : PF d M j ml (.inl y :: .inl x :: st) h Q := by
  obtain ⟨n, r, hE, h1, h2⟩ := k
  exact ⟨n + 1, r, hE, by unfold fx; simp only [hx, hq, if_true, hc, h1], h2⟩
theorem F_ret {r : Option MV} (hx : fget M j = some (pc, ig, len, nj, tj, a, b, 2)) (hq : mmt[M]? = some q) (hr : mret q.2.2.2.1 ig len st = some r) (k : Q r h) : PF d M j ml st h Q :=
  ⟨1, r, h, by unfold fx; simp only [hx, hq, hr], k⟩
theorem F_call {M' d' : Nat} {as rest : List MV} {q' : MM} (hx : fget M j = some (pc, ig, len, nj, tj, a, b, 3)) (hq : mmt[M]? = some q) (hc : mcalG (fun _ => some (a, b)) d ig len st h = some (M', d', as, rest)) (hq' : mmt[M']? = some q') (k : PF d' M' 0 (as.map some ++ List.replicate (q'.2.2.1 - as.length) none) [] h fun r h' => PF d M nj ml (r.toList ++ rest) h' Q) : PF d M j ml st h Q := by
  obtain ⟨n1, r1, e1, g1, n2, r2, e2, g2, k2⟩ := k
  refine ⟨n1 + n2 + 1, r2, e2, ?_, k2⟩
  have f1 := fx_more n2 g1
  have f2 := fx_more n1 g2
  rw [Nat.add_comm n2 n1] at f2
  unfold fx
  simp only [hx, hq, hc, hq', f1, f2]
theorem F_nat {p1 : Nat} {ml1 : List (Option MV)} {st1 : List MV} {h1 : List MC} (hx : fget M j = some (pc, ig, len, nj, tj, a, b, 3)) (hq : mmt[M]? = some q) (hc : mcalG (fun _ => some (a, b)) d ig len st h = none) (hs : mnatG (fun _ => some (a, b)) (fun _ => some a) d ig len pc ml st h = some (p1, ml1, st1, h1)) (k : PF d M nj ml1 st1 h1 Q) : PF d M j ml st h Q := by
  obtain ⟨n, r, hE, h1, h2⟩ := k
  exact ⟨n + 1, r, hE, by unfold fx; simp only [hx, hq, hc, hs, h1], h2⟩
end FR
end
section
/-! OLD CELLS KEEP THEIR LENGTHS: the slots that a run makes are those of its new cells -/
def hkp (h h2 : List MC) : Prop := ∀ (a : Nat) (c : MC), h[a]? = some c → ∃ c', h2[a]? = some c' ∧ c'.2.length = c.2.length
theorem hkp_rf (h : List MC) : hkp h h := fun _ c hc => ⟨c, hc, rfl⟩
theorem hkp_tr {a b c : List MC} (h : hkp a b) (k : hkp b c) : hkp a c := fun i x hx => by
  obtain ⟨y, hy, e1⟩ := h i x hx
  obtain ⟨z, hz, e2⟩ := k i y hy
  exact ⟨z, hz, e2.trans e1⟩
theorem hkp_apps (h g : List MC) : hkp h (h ++ g) := fun i x hx => ⟨x, by rw [List.getElem?_append_left (List.getElem?_eq_some_iff.mp hx).1]; exact hx, rfl⟩
theorem hkp_set {h : List MC} {a : Nat} {c c' : MC} (hc : h[a]? = some c) (hl : c'.2.length = c.2.length) : hkp h (h.set a c') := fun i x hx => by
  by_cases hi : a = i
  · subst hi
    rw [hc] at hx
    cases hx
    exact ⟨c', List.getElem?_set_self (List.getElem?_eq_some_iff.mp hc).1, hl⟩
  · exact ⟨x, by rw [List.getElem?_set_ne hi]; exact hx, rfl⟩
theorem hkp_map {α : Type} {x : Option α} {f : α → MS} {q : MS} {h : List MC} (hx : x.map f = some q) (hf : ∀ y, x = some y → hkp h (f y).2.2.2) : hkp h q.2.2.2 := by
  obtain ⟨y, hy, rfl⟩ := Option.map_eq_some_iff.mp hx
  exact hf y hy
set_option maxHeartbeats 4000000 in
theorem mps_keep {own : Nat} {ini : Bool} {ig : Instr} {len pc : Nat} {ml : List (Option MV)} {st : List MV} {h : List MC} {q : MS} (hps : mps own ini ig len pc ml st h = some q) : hkp h q.2.2.2 := by
  cases ig
  all_goals (simp only [mps, mpsG, k_aconst_null, k_iconst, k_bipush, k_sipush, k_ldc, k_iload, k_iload_n, k_aload, k_aload_n, k_istore, k_istore_n, k_astore, k_astore_n, k_iinc, k_iadd, k_isub, k_imul, k_iand, k_ior, k_ishl, k_ishr, k_dup, k_pop, k_goto, k_ifCond, k_if_icmp, k_ifnull, k_ifnonnull, k_getfield, k_putfield, k_iaload, k_baload, k_aaload, k_iastore, k_bastore, k_aastore, k_arraylength, k_new, k_newarray, k_anewarray, k_multianewarray] at hps)
  all_goals (first | (cases hps; done) | skip)
  all_goals (repeat' (split at hps))
  all_goals (first | (cases hps; done) | skip)
  all_goals (first
    | (cases hps; exact hkp_rf _)
    | (cases hps; exact hkp_apps _ _)
    | exact hkp_map hps (fun _ _ => hkp_rf _)
    | (cases hps; exact hkp_set (by assumption) (by simp))
    | exact hkp_map hps (fun _ _ => hkp_set (by assumption) (by simp)))
theorem mnat_keep {own d : Nat} {ig : Instr} {len pc : Nat} {ml : List (Option MV)} {st : List MV} {h : List MC} {q : MS} (hps : mnat own d ig len pc ml st h = some q) : hkp h q.2.2.2 := by
  unfold mnat mnatG at hps
  split at hps
  all_goals (repeat' (split at hps))
  all_goals (first | (cases hps; done) | skip)
  all_goals (first
    | (cases hps; exact hkp_rf _)
    | (cases hps; exact hkp_apps _ _)
    | (cases hps; exact hkp_set (by assumption) (by simp only [List.length_append, List.length_take, List.length_drop]; omega)))
theorem mx_keep : ∀ {n d M pc : Nat} {ml : List (Option MV)} {st : List MV} {h : List MC} {r : Option MV × List MC}, mx n d M pc ml st h = some r → hkp h r.2
  | 0, _, _, _, _, _, _, _, hr => by simp [mx] at hr
  | n + 1, d, M, pc, ml, st, h, r, hr => by
    unfold mx at hr
    split at hr
    · cases hr
    · split at hr
      · cases hr
      · split at hr
        · cases hr; exact hkp_rf _
        · split at hr
          · split at hr
            · cases hr
            · obtain ⟨r1, h1, h2⟩ := Option.bind_eq_some_iff.mp hr
              exact hkp_tr (mx_keep h1) (mx_keep h2)
          · split at hr
            · next u hu => exact hkp_tr (mnat_keep hu) (mx_keep hr)
            · split at hr
              · next u hu => exact hkp_tr (mps_keep hu) (mx_keep hr)
              · cases hr
theorem mslots_keep : ∀ {h h2 : List MC}, hkp h h2 → mslots h2 = mslots h + mslots (h2.drop h.length)
  | [], h2, _ => by simp [mslots]
  | c :: h, h2, hk => by
    obtain ⟨c', h0, hl⟩ := hk 0 c rfl
    match h2, h0, hk with
    | [], h0, _ => simp at h0
    | x :: t, h0, hk =>
      simp at h0
      subst h0
      have ih := mslots_keep (h := h) (h2 := t) (fun a y hy => by simpa using hk (a + 1) y (by simpa using hy))
      simp only [mslots, List.length_cons, List.drop_succ_cons, ih, hl]
      omega
/-! A PART OF THE WORLD, numbered anew from 0 -/
def shv (k : Nat) : MV → MV
  | .inr (some a) => .inr (some (k + a))
  | .inr none => .inr none
  | .inl i => .inl i
def shc (k : Nat) (c : MC) : MC := (c.1, c.2.map (shv k))
def clv (n : Nat) : MV → Bool
  | .inr (some a) => decide (a < n)
  | .inr none => true
  | .inl _ => true
theorem vr_pick {ads : List Nat} {k n : Nat} {v : MV} {x : Value} (hc : clv n v = true) (h : vr ads (shv k v) x) : vr ((ads.drop k).take n) v x := by
  match v, hc, h with
  | .inl i, _, h => exact h
  | .inr none, _, h => exact h
  | .inr (some a), hc, ⟨q, h1, h2⟩ =>
    have ha : a < n := by simpa [clv] using hc
    exact ⟨q, by rw [List.getElem?_take_of_lt ha, List.getElem?_drop]; exact h1, h2⟩
theorem vrs_pick {ads : List Nat} {k n : Nat} : ∀ {vs : List MV} {xs : List Value}, vs.all (clv n) = true → vrs ads (vs.map (shv k)) xs → vrs ((ads.drop k).take n) vs xs
  | [], [], _, _ => trivial
  | v :: vs, x :: xs, hc, h => by
    simp only [List.all_cons, Bool.and_eq_true] at hc
    exact ⟨vr_pick hc.1 h.1, vrs_pick hc.2 h.2⟩
  | [], _ :: _, _, h => h.elim
  | _ :: _, [], _, h => h.elim
theorem shv_inl {k : Nat} {v : MV} {i : Int32} (h : shv k v = .inl i) : v = .inl i := by
  match v, h with
  | .inl j, h => exact h
  | .inr none, h => cases h
  | .inr (some a), h => cases h
theorem ec_pick {ads : List Nat} {k n : Nat} {tys : List (ClassId × FieldType)} {c : MC} {e : va_E} (hc : c.2.all (clv n) = true) (h : ec ads tys (shc k c) e) : ec ((ads.drop k).take n) tys c e := by
  rcases h with ⟨h0, cA, f, t0, h1, h2, h3⟩ | ⟨h0, cA, f, t0, h1, h2, h3⟩ | ⟨h0, cA, f, t0, h1, h2, h3⟩ | ⟨h0, fs, h1, h2⟩
  · exact Or.inl ⟨h0, cA, f, t0, by simpa [shc] using h1, h2, fun j v hj => shv_inl (h3 j (shv k v) (by simp [shc, hj]))⟩
  · exact Or.inr (Or.inl ⟨h0, cA, f, t0, by simpa [shc] using h1, h2, fun j v hj => shv_inl (h3 j (shv k v) (by simp [shc, hj]))⟩)
  · refine Or.inr (Or.inr (Or.inl ⟨h0, cA, f, t0, by simpa [shc] using h1, h2, fun j v hj => ?_⟩))
    obtain ⟨g1, o, g2⟩ := h3 j (shv k v) (by simp [shc, hj])
    refine ⟨vr_pick (List.all_eq_true.mp hc v (List.mem_of_getElem? hj)) g1, ?_⟩
    match v, g2 with
    | .inl i, g2 => cases g2
    | .inr o2, _ => exact ⟨o2, rfl⟩
  · exact Or.inr (Or.inr (Or.inr ⟨h0, fs, h1, vrs_pick hc h2⟩))
theorem Wd_pick {D : va_G} {A : Nat → Prop} {s : State} {H : Heap} {ads : List Nat} {h g : List MC} {k : Nat} (hW : Wd D A s H ads h) (hs : (h.drop k).take g.length = g.map (shc k)) (hc : g.all (fun c => c.2.all (clv g.length)) = true) : Wd D A s H ((ads.drop k).take g.length) g := by
  obtain ⟨ws, tys, h1, h2, h3, h4, h5, h6, h7⟩ := hW
  have hget : ∀ (a : Nat) (c : MC), g[a]? = some c → h[k + a]? = some (shc k c) := fun a c ha => by
    have hlt := (List.getElem?_eq_some_iff.mp ha).1
    have e := congrArg (fun l => l[a]?) hs
    simp only [List.getElem?_take_of_lt hlt, List.getElem?_drop, List.getElem?_map, ha, Option.map_some] at e
    exact e
  have hlen : g.length ≤ (ws.drop k).length := by
    have e := congrArg List.length hs
    simp only [List.length_take, List.length_drop, List.length_map] at e
    simp only [List.length_drop]
    omega
  have wget : ∀ (a : Nat) (q : Nat × va_E), ((ws.drop k).take g.length)[a]? = some q → ws[k + a]? = some q := fun a q ha => by
    have hlt := (List.getElem?_eq_some_iff.mp ha).1
    simp only [List.length_take] at hlt
    rw [List.getElem?_take_of_lt (by omega), List.getElem?_drop] at ha
    exact ha
  refine ⟨(ws.drop k).take g.length, tys, ?_, ?_, ?_, ?_, ?_, h6, h7⟩
  · rw [← h1, List.map_take, List.map_drop]
  · rw [List.length_take]; omega
  · intro a c q hga hwa
    exact ec_pick (List.all_eq_true.mp hc c (List.mem_of_getElem? hga)) (h3 (k + a) _ q (hget a c hga) (wget a q hwa))
  · intro a q hq
    exact h4 (k + a) q (wget a q hq)
  · exact ⟨fun i j p q hi hj hpq => by have := h5.1 (k + i) (k + j) p q (wget i p hi) (wget j q hj) hpq; omega, fun i q hi => h5.2 (k + i) q (wget i q hi)⟩
end
section
/-! A FRESH DESK, A FRESH MODEL (tools/fresh.py): their heaps, each numbered from 0 -/
def eqV : MV → MV → Bool
  | .inl x, .inl y => x == y
  | .inr x, .inr y => x == y
  | _, _ => false
theorem eqV_eq : ∀ {x y : MV}, eqV x y = true → x = y
  | .inl x, .inl y, h => by simp [eqV] at h; rw [h]
  | .inr x, .inr y, h => by simp [eqV] at h; rw [h]
  | .inl _, .inr _, h => by simp [eqV] at h
  | .inr _, .inl _, h => by simp [eqV] at h
def eqL {α : Type} (f : α → α → Bool) : List α → List α → Bool
  | [], [] => true
  | x :: xs, y :: ys => f x y && eqL f xs ys
  | _, _ => false
theorem eqL_eq {α : Type} {f : α → α → Bool} (hf : ∀ {x y : α}, f x y = true → x = y) : ∀ {l k : List α}, eqL f l k = true → l = k
  | [], [], _ => rfl
  | x :: xs, y :: ys, h => by simp only [eqL, Bool.and_eq_true] at h; rw [hf h.1, eqL_eq hf h.2]
  | [], _ :: _, h => by simp [eqL] at h
  | _ :: _, [], h => by simp [eqL] at h
def eqH (h k : List MC) : Bool := eqL (fun a b => a.1 == b.1 && eqL eqV a.2 b.2) h k
theorem eqH_eq {h k : List MC} (e : eqH h k = true) : h = k := eqL_eq (fun {x y} hxy => by
  simp only [Bool.and_eq_true, beq_iff_eq] at hxy
  exact Prod.ext hxy.1 (eqL_eq eqV_eq hxy.2)) e
/-- a closed run ends with nothing, or with an answer, and a heap -/
def endsV (r : Option (Option MV × List MC)) (k : List MC) : Bool := match r with
  | some (none, h) => eqH h k
  | _ => false
theorem endsV_eq {r : Option (Option MV × List MC)} {k : List MC} (h : endsV r k = true) : r = some (none, k) := by
  unfold endsV at h
  split at h
  · next h2 => rw [eqH_eq h]
  · cases h
def hD : List MC := [(20, [.inr (some 2), .inr (some 7), .inr (some 11), .inr (some 17), .inr (some 29), .inr (some 41), .inr (some 37), .inr (some 66), .inr (some 69)]),
  (10, [.inl 120000, .inl 0]),
  (11, [.inr (some 3), .inr (some 4), .inl 0, .inr (some 5), .inr (some 6)]),
  (0, List.replicate 22 (.inl 0)),
  (1, List.replicate 22 (.inl 0)),
  (0, List.replicate 24 (.inl 0)),
  (0, List.replicate 24 (.inl 0)),
  (12, [.inr (some 2), .inr (some 8), .inr (some 9), .inr (some 10)]),
  (0, List.replicate 576 (.inl 0)),
  (0, List.replicate 24 (.inl 0)),
  (0, List.replicate 24 (.inl 0)),
  (13, [.inr (some 2), .inr (some 1), .inr (some 12), .inr (some 13), .inl 0, .inr (some 14), .inl 0, .inr (some 15), .inr (some 16), .inl 0, .inl 0]),
  (0, List.replicate 24 (.inl 0)),
  (0, List.replicate 48 (.inl 0)),
  (0, List.replicate 24 (.inl 0)),
  (0, [.inl 0]),
  (0, [.inl 0]),
  (15, [.inr (some 2), .inr (some 1), .inr (some 18), .inr (some 20), .inr (some 22), .inr (some 24), .inr (some 26), .inr (some 28), .inl 0, .inl 0, .inl 0, .inl 0, .inl 0]),
  (14, [.inr (some 19), .inl 0]),
  (0, List.replicate 96 (.inl 0)),
  (14, [.inr (some 21), .inl 0]),
  (0, List.replicate 24 (.inl 0)),
  (14, [.inr (some 23), .inl 0]),
  (0, List.replicate 68 (.inl 0)),
  (14, [.inr (some 25), .inl 0]),
  (0, List.replicate 48 (.inl 0)),
  (14, [.inr (some 27), .inl 0]),
  (0, List.replicate 24 (.inl 0)),
  (0, List.replicate 12 (.inl 0)),
  (17, [.inr (some 2), .inr (some 11), .inr (some 30), .inr (some 31), .inr (some 33), .inl 0, .inl 0]),
  (0, List.replicate 24 (.inl 0)),
  (14, [.inr (some 32), .inl 0]),
  (0, List.replicate 24 (.inl 0)),
  (16, [.inr (some 34), .inr (some 35), .inl 0]),
  (2, []),
  (2, []),
  (0, [.inl 0]),
  (18, [.inr (some 2), .inr (some 38), .inl 0, .inr (some 39), .inr (some 40)]),
  (0, List.replicate 12 (.inl 0)),
  (0, [.inl 0]),
  (0, [.inl 0]),
  (19, [.inr (some 2), .inr (some 7), .inr (some 11), .inr (some 29), .inr (some 17), .inr (some 37), .inr (some 42), .inr (some 44), .inr (some 46), .inr (some 50), .inr (some 54), .inr (some 58), .inr (some 62), .inl 0]),
  (14, [.inr (some 43), .inl 0]),
  (0, List.replicate 24 (.inl 0)),
  (14, [.inr (some 45), .inl 0]),
  (0, List.replicate 24 (.inl 0)),
  (16, [.inr (some 47), .inr (some 48), .inl 0]),
  (2, List.replicate 16 (.inr (some 49))),
  (2, List.replicate 16 (.inr (some 49))),
  (0, [.inl 0]),
  (16, [.inr (some 51), .inr (some 52), .inl 0]),
  (2, List.replicate 16 (.inr (some 53))),
  (2, List.replicate 16 (.inr (some 53))),
  (0, [.inl 0]),
  (16, [.inr (some 55), .inr (some 56), .inl 0]),
  (2, List.replicate 60 (.inr (some 57))),
  (2, List.replicate 60 (.inr (some 57))),
  (0, [.inl 0]),
  (16, [.inr (some 59), .inr (some 60), .inl 0]),
  (2, List.replicate 16 (.inr (some 61))),
  (2, List.replicate 16 (.inr (some 61))),
  (0, [.inl 0]),
  (16, [.inr (some 63), .inr (some 64), .inl 0]),
  (2, List.replicate 60 (.inr (some 65))),
  (2, List.replicate 60 (.inr (some 65))),
  (0, [.inl 0]),
  (14, [.inr (some 67), .inl 0]),
  (0, List.replicate 24 (.inl 0)),
  (0, [.inl 0]),
  (2, List.replicate 16 (.inr (some 68)))]
def hM : List MC := [(21, [.inl 0, .inr (some 1), .inr (some 2), .inl 0, .inr (some 3), .inr (some 4), .inr (some 5), .inl 0, .inr (some 6), .inr (some 7), .inl 0, .inl 0, .inl 0, .inl 0, .inl 0, .inl 120000, .inl 0, .inr (some 8), .inl 0, .inr (some 9), .inl 0, .inr none, .inr none]),
  (0, List.replicate 10 (.inl 0)),
  (1, List.replicate 10 (.inl 0)),
  (2, [.inr (some 10), .inr (some 11), .inr (some 12), .inr (some 13), .inr (some 14), .inr (some 15), .inr (some 16), .inr (some 17), .inr (some 18), .inr (some 19), .inr (some 20), .inr (some 21), .inr (some 22), .inr (some 23), .inr (some 24), .inr (some 25)]),
  (2, List.replicate 40 (.inr none)),
  (2, List.replicate 40 (.inr none)),
  (2, List.replicate 4000 (.inr none)),
  (2, List.replicate 4000 (.inr none)),
  (3, List.replicate 64 (.inr none)),
  (0, List.replicate 12 (.inl 0)),
  (0, [.inl 100]),
  (0, [.inl 100]),
  (0, [.inl 100]),
  (0, [.inl 100]),
  (0, [.inl 100]),
  (0, [.inl 100]),
  (0, [.inl 100]),
  (0, [.inl 100]),
  (0, [.inl 100]),
  (0, [.inl 100]),
  (0, [.inl 100]),
  (0, [.inl 100]),
  (0, [.inl 100]),
  (0, [.inl 100]),
  (0, [.inl 100]),
  (0, [.inl 100])]
def hS : List MC := [(21, [.inl 0, .inr (some 71), .inr (some 72), .inl 0, .inr (some 73), .inr (some 74), .inr (some 75), .inl 0, .inr (some 76), .inr (some 77), .inl 0, .inl 0, .inl 0, .inl 0, .inl 0, .inl 120000, .inl 0, .inr (some 78), .inl 0, .inr (some 79), .inl 0, .inr none, .inr none]),
  (0, List.replicate 10 (.inl 0)),
  (1, List.replicate 10 (.inl 0)),
  (2, [.inr (some 80), .inr (some 81), .inr (some 82), .inr (some 83), .inr (some 84), .inr (some 85), .inr (some 86), .inr (some 87), .inr (some 88), .inr (some 89), .inr (some 90), .inr (some 91), .inr (some 92), .inr (some 93), .inr (some 94), .inr (some 95)]),
  (2, List.replicate 40 (.inr none)),
  (2, List.replicate 40 (.inr none)),
  (2, List.replicate 4000 (.inr none)),
  (2, List.replicate 4000 (.inr none)),
  (3, List.replicate 64 (.inr none)),
  (0, List.replicate 12 (.inl 0)),
  (0, [.inl 100]),
  (0, [.inl 100]),
  (0, [.inl 100]),
  (0, [.inl 100]),
  (0, [.inl 100]),
  (0, [.inl 100]),
  (0, [.inl 100]),
  (0, [.inl 100]),
  (0, [.inl 100]),
  (0, [.inl 100]),
  (0, [.inl 100]),
  (0, [.inl 100]),
  (0, [.inl 100]),
  (0, [.inl 100]),
  (0, [.inl 100]),
  (0, [.inl 100])]
def hJ : List MC := [(20, [.inr (some 2), .inr (some 7), .inr (some 11), .inr (some 17), .inr (some 29), .inr (some 41), .inr (some 37), .inr (some 66), .inr (some 69)]),
  (10, [.inl 120000, .inl 0]),
  (11, [.inr (some 3), .inr (some 4), .inl 0, .inr (some 5), .inr (some 6)]),
  (0, List.replicate 22 (.inl 0)),
  (1, List.replicate 22 (.inl 0)),
  (0, List.replicate 24 (.inl 0)),
  (0, List.replicate 24 (.inl 0)),
  (12, [.inr (some 2), .inr (some 8), .inr (some 9), .inr (some 10)]),
  (0, List.replicate 576 (.inl 0)),
  (0, List.replicate 24 (.inl 0)),
  (0, List.replicate 24 (.inl 0)),
  (13, [.inr (some 2), .inr (some 1), .inr (some 12), .inr (some 13), .inl 0, .inr (some 14), .inl 0, .inr (some 15), .inr (some 16), .inl 0, .inl 0]),
  (0, List.replicate 24 (.inl 0)),
  (0, List.replicate 48 (.inl 0)),
  (0, List.replicate 24 (.inl 0)),
  (0, [.inl 0]),
  (0, [.inl 0]),
  (15, [.inr (some 2), .inr (some 1), .inr (some 18), .inr (some 20), .inr (some 22), .inr (some 24), .inr (some 26), .inr (some 28), .inl 0, .inl 0, .inl 0, .inl 0, .inl 0]),
  (14, [.inr (some 19), .inl 0]),
  (0, List.replicate 96 (.inl 0)),
  (14, [.inr (some 21), .inl 0]),
  (0, List.replicate 24 (.inl 0)),
  (14, [.inr (some 23), .inl 0]),
  (0, List.replicate 68 (.inl 0)),
  (14, [.inr (some 25), .inl 0]),
  (0, List.replicate 48 (.inl 0)),
  (14, [.inr (some 27), .inl 0]),
  (0, List.replicate 24 (.inl 0)),
  (0, List.replicate 12 (.inl 0)),
  (17, [.inr (some 2), .inr (some 11), .inr (some 30), .inr (some 31), .inr (some 33), .inl 0, .inl 0]),
  (0, List.replicate 24 (.inl 0)),
  (14, [.inr (some 32), .inl 0]),
  (0, List.replicate 24 (.inl 0)),
  (16, [.inr (some 34), .inr (some 35), .inl 0]),
  (2, []),
  (2, []),
  (0, [.inl 0]),
  (18, [.inr (some 2), .inr (some 38), .inl 0, .inr (some 39), .inr (some 40)]),
  (0, List.replicate 12 (.inl 0)),
  (0, [.inl 0]),
  (0, [.inl 0]),
  (19, [.inr (some 2), .inr (some 7), .inr (some 11), .inr (some 29), .inr (some 17), .inr (some 37), .inr (some 42), .inr (some 44), .inr (some 46), .inr (some 50), .inr (some 54), .inr (some 58), .inr (some 62), .inl 0]),
  (14, [.inr (some 43), .inl 0]),
  (0, List.replicate 24 (.inl 0)),
  (14, [.inr (some 45), .inl 0]),
  (0, List.replicate 24 (.inl 0)),
  (16, [.inr (some 47), .inr (some 48), .inl 0]),
  (2, List.replicate 16 (.inr (some 49))),
  (2, List.replicate 16 (.inr (some 49))),
  (0, [.inl 0]),
  (16, [.inr (some 51), .inr (some 52), .inl 0]),
  (2, List.replicate 16 (.inr (some 53))),
  (2, List.replicate 16 (.inr (some 53))),
  (0, [.inl 0]),
  (16, [.inr (some 55), .inr (some 56), .inl 0]),
  (2, List.replicate 60 (.inr (some 57))),
  (2, List.replicate 60 (.inr (some 57))),
  (0, [.inl 0]),
  (16, [.inr (some 59), .inr (some 60), .inl 0]),
  (2, List.replicate 16 (.inr (some 61))),
  (2, List.replicate 16 (.inr (some 61))),
  (0, [.inl 0]),
  (16, [.inr (some 63), .inr (some 64), .inl 0]),
  (2, List.replicate 60 (.inr (some 65))),
  (2, List.replicate 60 (.inr (some 65))),
  (0, [.inl 0]),
  (14, [.inr (some 67), .inl 0]),
  (0, List.replicate 24 (.inl 0)),
  (0, [.inl 0]),
  (2, List.replicate 16 (.inr (some 68))),
  (21, [.inl 0, .inr (some 71), .inr (some 72), .inl 0, .inr (some 73), .inr (some 74), .inr (some 75), .inl 0, .inr (some 76), .inr (some 77), .inl 0, .inl 0, .inl 0, .inl 0, .inl 0, .inl 120000, .inl 0, .inr (some 78), .inl 0, .inr (some 79), .inl 0, .inr none, .inr none]),
  (0, List.replicate 10 (.inl 0)),
  (1, List.replicate 10 (.inl 0)),
  (2, [.inr (some 80), .inr (some 81), .inr (some 82), .inr (some 83), .inr (some 84), .inr (some 85), .inr (some 86), .inr (some 87), .inr (some 88), .inr (some 89), .inr (some 90), .inr (some 91), .inr (some 92), .inr (some 93), .inr (some 94), .inr (some 95)]),
  (2, List.replicate 40 (.inr none)),
  (2, List.replicate 40 (.inr none)),
  (2, List.replicate 4000 (.inr none)),
  (2, List.replicate 4000 (.inr none)),
  (3, List.replicate 64 (.inr none)),
  (0, List.replicate 12 (.inl 0)),
  (0, [.inl 100]),
  (0, [.inl 100]),
  (0, [.inl 100]),
  (0, [.inl 100]),
  (0, [.inl 100]),
  (0, [.inl 100]),
  (0, [.inl 100]),
  (0, [.inl 100]),
  (0, [.inl 100]),
  (0, [.inl 100]),
  (0, [.inl 100]),
  (0, [.inl 100]),
  (0, [.inl 100]),
  (0, [.inl 100]),
  (0, [.inl 100]),
  (0, [.inl 100])]
set_option maxRecDepth 1000000 in
theorem hD_made : fx 5000 9 0 0 [some (.inr (some 0)), none, none, none] [] [(20, (mty.getD 10 []).map mdef)] = some (none, hD) := endsV_eq (by decide +kernel)
set_option maxRecDepth 1000000 in
theorem hJ_made : fx 5000 9 92 0 [some (.inr (some 70)), none] [] (hD ++ [(21, (mty.getD 11 []).map mdef)]) = some (none, hJ) := endsV_eq (by decide +kernel)
set_option maxRecDepth 1000000 in
theorem hS_is : hS = hM.map (shc 70) := eqH_eq (by decide +kernel)
set_option maxRecDepth 1000000 in
theorem hM_cl : hM.all (fun c => c.2.all (clv hM.length)) = true := by decide +kernel
set_option maxRecDepth 1000000 in
theorem hD_sl : mslots hD ≤ 20000 := by decide +kernel
set_option maxRecDepth 1000000 in
theorem hJ_sl : mslots hJ ≤ 20000 := by decide +kernel
/-- what is left behind a call of the desk, of the model -/
def okD (h : List MC) : Prop := h.length ≤ 500 ∧ mslots (h.drop 96) ≤ 20000 ∧ (h.drop 70).take 26 = hS
def okM (h : List MC) : Prop := h.length ≤ 500 ∧ mslots (h.drop 26) ≤ 20000
end
section
/-! A RUN CUT INTO PIECES: steps within one frame, a call being run to its end -/
def fs1 (F d M j : Nat) (ml : List (Option MV)) (st : List MV) (h : List MC) : Option MS := match fget M j with
    | none => none
    | some (pc, ig, len, nj, tj, a, b, cl) => match mmt[M]? with
      | none => none
      | some q => match cl with
        | 0 => match mpsG (fun _ => some (a, b)) (fun _ => some a) (fun _ => some a) (fun _ => some (Int32.ofNat a)) q.2.2.2.2.1 (q.1.name == "<init>") ig len pc ml st h with
          | some u => some (nj, u.2.1, u.2.2.1, u.2.2.2)
          | none => none
        | 1 => match ig with
          | .goto _ => if len = 3 then some (tj, ml, st, h) else none
          | .ifCond c _ => match st with
            | .inl x :: st => if len = 3 then (match mcmp c x 0 with
              | true => some (tj, ml, st, h)
              | false => some (nj, ml, st, h)) else none
            | _ => none
          | .if_icmp c _ => match st with
            | .inl y :: .inl x :: st => if len = 3 then (match mcmp c x y with
              | true => some (tj, ml, st, h)
              | false => some (nj, ml, st, h)) else none
            | _ => none
          | _ => none
        | 3 => match mcalG (fun _ => some (a, b)) d ig len st h with
            | some (M', d', as, rest) => match mmt[M']? with
              | none => none
              | some q' => match fx F d' M' 0 (as.map some ++ List.replicate (q'.2.2.1 - as.length) none) [] h with
                | none => none
                | some r => some (nj, ml, r.1.toList ++ rest, r.2)
            | none => none
        | _ => none
def fxp (F : Nat) : Nat → Nat → Nat → Nat → List (Option MV) → List MV → List MC → Option MS
  | 0, _, _, j, ml, st, h => some (j, ml, st, h)
  | n + 1, d, M, j, ml, st, h => match fs1 F d M j ml st h with
    | some u => fxp F n d M u.1 u.2.1 u.2.2.1 u.2.2.2
    | none => none
theorem fs1_PF {F d M j : Nat} {ml : List (Option MV)} {st : List MV} {h : List MC} {u : MS} {Q : Option MV → List MC → Prop} (hs : fs1 F d M j ml st h = some u) (k : PF d M u.1 u.2.1 u.2.2.1 u.2.2.2 Q) : PF d M j ml st h Q := by
  unfold fs1 at hs
  split at hs
  · cases hs
  · next pc ig len nj tj a b cl hx =>
    split at hs
    · cases hs
    · next q hq =>
      split at hs
      · split at hs
        · next v hv =>
          obtain ⟨p1, ml1, st1, h1⟩ := v
          cases hs
          exact F_ps hx hq hv k
        · cases hs
      · split at hs
        · split at hs
          · next hl => subst hl; cases hs; exact F_goto hx hq k
          · cases hs
        · split at hs
          · split at hs
            · next hl =>
              subst hl
              split at hs
              · next hc => cases hs; exact F_ift hx hq hc k
              · next hc => cases hs; exact F_iff hx hq hc k
            · cases hs
          · cases hs
        · split at hs
          · split at hs
            · next hl =>
              subst hl
              split at hs
              · next hc => cases hs; exact F_ct hx hq hc k
              · next hc => cases hs; exact F_cf hx hq hc k
            · cases hs
          · cases hs
        · cases hs
      · split at hs
        · next M' d' as rest hc =>
          split at hs
          · cases hs
          · next q' hq' =>
            split at hs
            · cases hs
            · next r hr =>
              cases hs
              exact F_call hx hq hc hq' ⟨F, r.1, r.2, hr, k⟩
        · cases hs
      · cases hs
theorem fxp_PF {F : Nat} : ∀ {n d M j : Nat} {ml : List (Option MV)} {st : List MV} {h : List MC} {u : MS} {Q : Option MV → List MC → Prop}, fxp F n d M j ml st h = some u → PF d M u.1 u.2.1 u.2.2.1 u.2.2.2 Q → PF d M j ml st h Q
  | 0, d, M, j, ml, st, h, u, Q, hs, k => by
    simp only [fxp, Option.some.injEq] at hs
    subst hs
    exact k
  | n + 1, d, M, j, ml, st, h, u, Q, hs, k => by
    unfold fxp at hs
    split at hs
    · next v hv => exact fs1_PF hv (fxp_PF hs k)
    · cases hs
/-- a closed piece ends so -/
def eqO : Option MV → Option MV → Bool
  | some x, some y => eqV x y
  | none, none => true
  | _, _ => false
theorem eqO_eq : ∀ {x y : Option MV}, eqO x y = true → x = y
  | some x, some y, h => by rw [eqV_eq h]
  | none, none, _ => rfl
  | some _, none, h => by simp [eqO] at h
  | none, some _, h => by simp [eqO] at h
def endsP (r : Option MS) (j : Nat) (ml : List (Option MV)) (st : List MV) (h : List MC) : Bool := match r with
  | some (j2, ml2, st2, h2) => Nat.beq j2 j && eqL eqO ml2 ml && eqL eqV st2 st && eqH h2 h
  | none => false
theorem endsP_eq {r : Option MS} {j : Nat} {ml : List (Option MV)} {st : List MV} {h : List MC} (e : endsP r j ml st h = true) : r = some (j, ml, st, h) := by
  unfold endsP at e
  split at e
  · next j2 ml2 st2 h2 =>
    simp only [Bool.and_eq_true] at e
    rw [Nat.eq_of_beq_eq_true e.1.1.1, eqL_eq eqO_eq e.1.1.2, eqL_eq eqV_eq e.1.2, eqH_eq e.2]
  · cases e
theorem piece {F n d M j j2 : Nat} {ml ml2 : List (Option MV)} {st st2 : List MV} {h h2 : List MC} {Q : Option MV → List MC → Prop} (e : endsP (fxp F n d M j ml st h) j2 ml2 st2 h2 = true) (k : PF d M j2 ml2 st2 h2 Q) : PF d M j ml st h Q := fxp_PF (endsP_eq e) k
/-- a closed run ends with an answer and a heap -/
def endsA (r : Option (Option MV × List MC)) (v : MV) (k : List MC) : Bool := match r with
  | some (some w, h) => eqV w v && eqH h k
  | _ => false
theorem endsA_eq {r : Option (Option MV × List MC)} {v : MV} {k : List MC} (h : endsA r v k = true) : r = some (some v, k) := by
  unfold endsA at h
  split at h
  · next w h2 =>
    simp only [Bool.and_eq_true] at h
    rw [eqV_eq h.1, eqH_eq h.2]
  · cases h
end
section
/-! ANY INSTRUCTION THAT NEITHER CALLS NOR RETURNS -/
theorem mgrid_len (n0 N K : Nat) : (mgrid n0 N K).length = N + 1 := by simp [mgrid]
theorem mslots_rep (N : Nat) (c : MC) : mslots (List.replicate N c) = N * c.2.length := by
  induction N with
  | zero => simp [mslots]
  | succ N ih => rw [List.replicate_succ]; simp only [mslots, ih]; rw [Nat.succ_mul]; omega
theorem mgrid_slots (n0 N K : Nat) : mslots (mgrid n0 N K) = N + N * K := by simp [mgrid, mslots, mslots_rep]
section S4
variable {p : Program} {l : Launch} {e : Env} {R : Room} {s : State} {m : MethodId} {args : Array Value} {below : List Frame} {meth : Method} {c : Code} {H : Heap} {locs : List Loc} {cells slots : Nat} {Q : State → Prop} {cc : ByteArray} {pc : Nat} {ls : Array Slot} {ads : List Nat} {D : va_G} {A : Nat → Prop} {own : Nat} {h : List MC}
set_option maxHeartbeats 4000000 in
theorem sim_ps {mL : Nat} {ini : Bool} (he : p.tables.exec = Jvm.exec) (hb : c.code = cc) (hown : s.vm.findClass (mon own) = some m.cls) (hts : ∀ w ∈ lw_g, w.before args s = true) (hini : ini = true → meth.name = "<init>") (hXf : Xf s) (hA : ∀ q, s.heap.size ≤ q → A q)
    {ml : List (Option MV)} {st : List MV} {st0 : List Value} {ig : Instr} {len : Nat} {q : MS} (hdg : decode cc pc = .ok (ig, len)) (hps : mps own ini ig len pc ml st h = some q) (hW : Wd D A s H ads h) (hS : va_S A s.heap H locs) (hL : Lr ads ml ls mL) (hst : vrs ads st st0)
    (hrc : q.2.2.2.length + cells ≤ h.length + R.cells) (hrs : mslots q.2.2.2 + slots ≤ mslots h + R.slots)
    (kk : ∀ (H' : Heap) (locs' : List Loc) (ls' : Array Slot) (st1 : List Value) (ads' : List Nat) (c' s' : Nat), (∃ l, ads' = ads ++ l) → Wd D A s H' ads' q.2.2.2 → va_S A s.heap H' locs' → Lr ads' q.2.1 ls' mL → vrs ads' q.2.2.1 st1 → c' + h.length = cells + q.2.2.2.length → s' + mslots h = slots + mslots q.2.2.2 → W p l e R s m args below meth c H' locs' c' s' Q (F0 m q.1 ls' st1)) :
    W p l e R s m args below meth c H locs cells slots Q (F0 m pc ls st0) := by
  have hkq : ∀ (ls' : Array Slot) (st1 : List Value), q.2.2.2 = h → Lr ads q.2.1 ls' mL → vrs ads q.2.2.1 st1 → W p l e R s m args below meth c H locs cells slots Q (F0 m q.1 ls' st1) := fun ls' st1 hh h1 h2 => kk H locs ls' st1 ads cells slots ⟨[], by simp⟩ (by rw [hh]; exact hW) hS h1 h2 (by rw [hh]) (by rw [hh])
  have hks : ∀ (H' : Heap) (locs' : List Loc) (st1 : List Value) (a : Nat) (cc0 cc1 : MC), h[a]? = some cc0 → cc1.2.length = cc0.2.length → q.2.2.2 = h.set a cc1 → q.2.1 = ml → Wd D A s H' ads (h.set a cc1) → va_S A s.heap H' locs' → vrs ads q.2.2.1 st1 → W p l e R s m args below meth c H' locs' cells slots Q (F0 m q.1 ls st1) := fun H' locs' st1 a cc0 cc1 h0 hl hh hm h1 h2 h3 => kk H' locs' ls st1 ads cells slots ⟨[], by simp⟩ (by rw [hh]; exact h1) h2 (by rw [hm]; exact hL) h3 (by rw [hh]; simp) (by rw [hh, mslots_set h0 hl])
  cases ig
  case aconst_null =>
    simp only [mps, mpsG, k_aconst_null, k_iconst, k_bipush, k_sipush, k_ldc, k_iload, k_iload_n, k_aload, k_aload_n, k_istore, k_istore_n, k_astore, k_astore_n, k_iinc, k_iadd, k_isub, k_imul, k_iand, k_ior, k_ishl, k_ishr, k_dup, k_pop, k_goto, k_ifCond, k_if_icmp, k_ifnull, k_ifnonnull, k_getfield, k_putfield, k_iaload, k_baload, k_aaload, k_iastore, k_bastore, k_aastore, k_arraylength, k_new, k_newarray, k_anewarray, k_multianewarray] at hps
    split at hps
    · next hl => subst hl; cases hps; exact lv_null he hb hdg (hkq ls _ rfl hL ⟨rfl, hst⟩)
    · cases hps
  case iconst i =>
    simp only [mps, mpsG, k_aconst_null, k_iconst, k_bipush, k_sipush, k_ldc, k_iload, k_iload_n, k_aload, k_aload_n, k_istore, k_istore_n, k_astore, k_astore_n, k_iinc, k_iadd, k_isub, k_imul, k_iand, k_ior, k_ishl, k_ishr, k_dup, k_pop, k_goto, k_ifCond, k_if_icmp, k_ifnull, k_ifnonnull, k_getfield, k_putfield, k_iaload, k_baload, k_aaload, k_iastore, k_bastore, k_aastore, k_arraylength, k_new, k_newarray, k_anewarray, k_multianewarray] at hps
    split at hps
    · next hl => subst hl; cases hps; exact lv_iconst he hb hdg rfl (hkq ls _ rfl hL ⟨rfl, hst⟩)
    · cases hps
  case bipush i =>
    simp only [mps, mpsG, k_aconst_null, k_iconst, k_bipush, k_sipush, k_ldc, k_iload, k_iload_n, k_aload, k_aload_n, k_istore, k_istore_n, k_astore, k_astore_n, k_iinc, k_iadd, k_isub, k_imul, k_iand, k_ior, k_ishl, k_ishr, k_dup, k_pop, k_goto, k_ifCond, k_if_icmp, k_ifnull, k_ifnonnull, k_getfield, k_putfield, k_iaload, k_baload, k_aaload, k_iastore, k_bastore, k_aastore, k_arraylength, k_new, k_newarray, k_anewarray, k_multianewarray] at hps
    split at hps
    · next hl => subst hl; cases hps; exact lv_bipush he hb hdg rfl (hkq ls _ rfl hL ⟨rfl, hst⟩)
    · cases hps
  case sipush i =>
    simp only [mps, mpsG, k_aconst_null, k_iconst, k_bipush, k_sipush, k_ldc, k_iload, k_iload_n, k_aload, k_aload_n, k_istore, k_istore_n, k_astore, k_astore_n, k_iinc, k_iadd, k_isub, k_imul, k_iand, k_ior, k_ishl, k_ishr, k_dup, k_pop, k_goto, k_ifCond, k_if_icmp, k_ifnull, k_ifnonnull, k_getfield, k_putfield, k_iaload, k_baload, k_aaload, k_iastore, k_bastore, k_aastore, k_arraylength, k_new, k_newarray, k_anewarray, k_multianewarray] at hps
    split at hps
    · next hl => subst hl; cases hps; exact lv_sipush he hb hdg rfl (hkq ls _ rfl hL ⟨rfl, hst⟩)
    · cases hps
  case ldc i =>
    simp only [mps, mpsG, k_aconst_null, k_iconst, k_bipush, k_sipush, k_ldc, k_iload, k_iload_n, k_aload, k_aload_n, k_istore, k_istore_n, k_astore, k_astore_n, k_iinc, k_iadd, k_isub, k_imul, k_iand, k_ior, k_ishl, k_ishr, k_dup, k_pop, k_goto, k_ifCond, k_if_icmp, k_ifnull, k_ifnonnull, k_getfield, k_putfield, k_iaload, k_baload, k_aaload, k_iastore, k_bastore, k_aastore, k_arraylength, k_new, k_newarray, k_anewarray, k_multianewarray] at hps
    split at hps
    · next hl =>
      subst hl
      obtain ⟨v, hv, rfl⟩ := Option.map_eq_some_iff.mp hps
      exact lv_ldc he hb hown (hts _ (fk hv)) hdg (hkq ls _ rfl hL ⟨rfl, hst⟩)
    · cases hps
  case iload k =>
    simp only [mps, mpsG, k_aconst_null, k_iconst, k_bipush, k_sipush, k_ldc, k_iload, k_iload_n, k_aload, k_aload_n, k_istore, k_istore_n, k_astore, k_astore_n, k_iinc, k_iadd, k_isub, k_imul, k_iand, k_ior, k_ishl, k_ishr, k_dup, k_pop, k_goto, k_ifCond, k_if_icmp, k_ifnull, k_ifnonnull, k_getfield, k_putfield, k_iaload, k_baload, k_aaload, k_iastore, k_bastore, k_aastore, k_arraylength, k_new, k_newarray, k_anewarray, k_multianewarray] at hps
    split at hps
    · next hl =>
      subst hl
      obtain ⟨x, hx, rfl⟩ := Option.map_eq_some_iff.mp hps
      exact lv_iload he hb hdg (mint_of hL hx) (hkq ls _ rfl hL ⟨rfl, hst⟩)
    · cases hps
  case iload_n k =>
    simp only [mps, mpsG, k_aconst_null, k_iconst, k_bipush, k_sipush, k_ldc, k_iload, k_iload_n, k_aload, k_aload_n, k_istore, k_istore_n, k_astore, k_astore_n, k_iinc, k_iadd, k_isub, k_imul, k_iand, k_ior, k_ishl, k_ishr, k_dup, k_pop, k_goto, k_ifCond, k_if_icmp, k_ifnull, k_ifnonnull, k_getfield, k_putfield, k_iaload, k_baload, k_aaload, k_iastore, k_bastore, k_aastore, k_arraylength, k_new, k_newarray, k_anewarray, k_multianewarray] at hps
    split at hps
    · next hl =>
      subst hl
      obtain ⟨x, hx, rfl⟩ := Option.map_eq_some_iff.mp hps
      exact lv_iload_n he hb hdg rfl (mint_of hL hx) (hkq ls _ rfl hL ⟨rfl, hst⟩)
    · cases hps
  case aload k =>
    simp only [mps, mpsG, k_aconst_null, k_iconst, k_bipush, k_sipush, k_ldc, k_iload, k_iload_n, k_aload, k_aload_n, k_istore, k_istore_n, k_astore, k_astore_n, k_iinc, k_iadd, k_isub, k_imul, k_iand, k_ior, k_ishl, k_ishr, k_dup, k_pop, k_goto, k_ifCond, k_if_icmp, k_ifnull, k_ifnonnull, k_getfield, k_putfield, k_iaload, k_baload, k_aaload, k_iastore, k_bastore, k_aastore, k_arraylength, k_new, k_newarray, k_anewarray, k_multianewarray] at hps
    split at hps
    · next hl =>
      subst hl
      obtain ⟨x, hx, rfl⟩ := Option.map_eq_some_iff.mp hps
      obtain ⟨z, hz, hlz⟩ := mref_of hL hx
      rcases vr_nr hz with hn | ⟨a, hn⟩
      · subst hn; exact lv_aloadN he hb hdg hlz (hkq ls _ rfl hL ⟨hz, hst⟩)
      · subst hn; exact lv_aload he hb hdg hlz (hkq ls _ rfl hL ⟨hz, hst⟩)
    · cases hps
  case aload_n k =>
    simp only [mps, mpsG, k_aconst_null, k_iconst, k_bipush, k_sipush, k_ldc, k_iload, k_iload_n, k_aload, k_aload_n, k_istore, k_istore_n, k_astore, k_astore_n, k_iinc, k_iadd, k_isub, k_imul, k_iand, k_ior, k_ishl, k_ishr, k_dup, k_pop, k_goto, k_ifCond, k_if_icmp, k_ifnull, k_ifnonnull, k_getfield, k_putfield, k_iaload, k_baload, k_aaload, k_iastore, k_bastore, k_aastore, k_arraylength, k_new, k_newarray, k_anewarray, k_multianewarray] at hps
    split at hps
    · next hl =>
      subst hl
      obtain ⟨x, hx, rfl⟩ := Option.map_eq_some_iff.mp hps
      obtain ⟨z, hz, hlz⟩ := mref_of hL hx
      rcases vr_nr hz with hn | ⟨a, hn⟩
      · subst hn; exact lv_aload_nN he hb hdg rfl hlz (hkq ls _ rfl hL ⟨hz, hst⟩)
      · subst hn; exact lv_aload_n he hb hdg rfl hlz (hkq ls _ rfl hL ⟨hz, hst⟩)
    · cases hps
  case istore k =>
    simp only [mps, mpsG, k_aconst_null, k_iconst, k_bipush, k_sipush, k_ldc, k_iload, k_iload_n, k_aload, k_aload_n, k_istore, k_istore_n, k_astore, k_astore_n, k_iinc, k_iadd, k_isub, k_imul, k_iand, k_ior, k_ishl, k_ishr, k_dup, k_pop, k_goto, k_ifCond, k_if_icmp, k_ifnull, k_ifnonnull, k_getfield, k_putfield, k_iaload, k_baload, k_aaload, k_iastore, k_bastore, k_aastore, k_arraylength, k_new, k_newarray, k_anewarray, k_multianewarray] at hps
    split at hps
    · next x st =>
      split at hps
      · next hl =>
        obtain ⟨rfl, hk⟩ := hl
        cases hps
        obtain ⟨r1, rfl, hr1⟩ := vrs_i hst
        exact lv_istore he hb hdg (lvA_has hL.2.1 hL.2.2.1) (by rw [← hL.1]; exact hk) rfl fun ls' hl' => hkq ls' _ rfl (Lr_store hL rfl hl') hr1
      · cases hps
    · cases hps
  case istore_n k =>
    simp only [mps, mpsG, k_aconst_null, k_iconst, k_bipush, k_sipush, k_ldc, k_iload, k_iload_n, k_aload, k_aload_n, k_istore, k_istore_n, k_astore, k_astore_n, k_iinc, k_iadd, k_isub, k_imul, k_iand, k_ior, k_ishl, k_ishr, k_dup, k_pop, k_goto, k_ifCond, k_if_icmp, k_ifnull, k_ifnonnull, k_getfield, k_putfield, k_iaload, k_baload, k_aaload, k_iastore, k_bastore, k_aastore, k_arraylength, k_new, k_newarray, k_anewarray, k_multianewarray] at hps
    split at hps
    · next x st =>
      split at hps
      · next hl =>
        obtain ⟨rfl, hk⟩ := hl
        cases hps
        obtain ⟨r1, rfl, hr1⟩ := vrs_i hst
        exact lv_istore_n he hb hdg rfl (lvA_has hL.2.1 hL.2.2.1) (by rw [← hL.1]; exact hk) rfl fun ls' hl' => hkq ls' _ rfl (Lr_store hL rfl hl') hr1
      · cases hps
    · cases hps
  case astore k =>
    simp only [mps, mpsG, k_aconst_null, k_iconst, k_bipush, k_sipush, k_ldc, k_iload, k_iload_n, k_aload, k_aload_n, k_istore, k_istore_n, k_astore, k_astore_n, k_iinc, k_iadd, k_isub, k_imul, k_iand, k_ior, k_ishl, k_ishr, k_dup, k_pop, k_goto, k_ifCond, k_if_icmp, k_ifnull, k_ifnonnull, k_getfield, k_putfield, k_iaload, k_baload, k_aaload, k_iastore, k_bastore, k_aastore, k_arraylength, k_new, k_newarray, k_anewarray, k_multianewarray] at hps
    split at hps
    · next x st =>
      split at hps
      · next hl =>
        obtain ⟨rfl, hk⟩ := hl
        cases hps
        obtain ⟨z, r, rfl, hz, hr⟩ := vrs_v hst
        rcases vr_nr hz with hn | ⟨a, hn⟩
        · subst hn; exact lv_astoreN he hb hdg (lvA_has hL.2.1 hL.2.2.1) (by rw [← hL.1]; exact hk) rfl fun ls' hl' => hkq ls' _ rfl (Lr_store hL hz hl') hr
        · subst hn; exact lv_astore he hb hdg (lvA_has hL.2.1 hL.2.2.1) (by rw [← hL.1]; exact hk) rfl fun ls' hl' => hkq ls' _ rfl (Lr_store hL hz hl') hr
      · cases hps
    · cases hps
  case astore_n k =>
    simp only [mps, mpsG, k_aconst_null, k_iconst, k_bipush, k_sipush, k_ldc, k_iload, k_iload_n, k_aload, k_aload_n, k_istore, k_istore_n, k_astore, k_astore_n, k_iinc, k_iadd, k_isub, k_imul, k_iand, k_ior, k_ishl, k_ishr, k_dup, k_pop, k_goto, k_ifCond, k_if_icmp, k_ifnull, k_ifnonnull, k_getfield, k_putfield, k_iaload, k_baload, k_aaload, k_iastore, k_bastore, k_aastore, k_arraylength, k_new, k_newarray, k_anewarray, k_multianewarray] at hps
    split at hps
    · next x st =>
      split at hps
      · next hl =>
        obtain ⟨rfl, hk⟩ := hl
        cases hps
        obtain ⟨z, r, rfl, hz, hr⟩ := vrs_v hst
        rcases vr_nr hz with hn | ⟨a, hn⟩
        · subst hn; exact lv_astore_nN he hb hdg rfl (lvA_has hL.2.1 hL.2.2.1) (by rw [← hL.1]; exact hk) rfl fun ls' hl' => hkq ls' _ rfl (Lr_store hL hz hl') hr
        · subst hn; exact lv_astore_n he hb hdg rfl (lvA_has hL.2.1 hL.2.2.1) (by rw [← hL.1]; exact hk) rfl fun ls' hl' => hkq ls' _ rfl (Lr_store hL hz hl') hr
      · cases hps
    · cases hps
  case iinc k n =>
    simp only [mps, mpsG, k_aconst_null, k_iconst, k_bipush, k_sipush, k_ldc, k_iload, k_iload_n, k_aload, k_aload_n, k_istore, k_istore_n, k_astore, k_astore_n, k_iinc, k_iadd, k_isub, k_imul, k_iand, k_ior, k_ishl, k_ishr, k_dup, k_pop, k_goto, k_ifCond, k_if_icmp, k_ifnull, k_ifnonnull, k_getfield, k_putfield, k_iaload, k_baload, k_aaload, k_iastore, k_bastore, k_aastore, k_arraylength, k_new, k_newarray, k_anewarray, k_multianewarray] at hps
    split at hps
    · next hl =>
      obtain ⟨rfl, hk⟩ := hl
      obtain ⟨x, hx, rfl⟩ := Option.map_eq_some_iff.mp hps
      have hm := lvA_mem (mint_of hL hx)
      obtain ⟨j, hj⟩ := List.getElem?_of_mem hm
      exact lv_iinc he hb hdg (lvA_has hL.2.1 hL.2.2.1) hj rfl (by rw [← hL.1]; exact hk) rfl fun ls' hl' => hkq ls' _ rfl (Lr_store hL rfl hl') hst
    · cases hps
  case iadd =>
    simp only [mps, mpsG, k_aconst_null, k_iconst, k_bipush, k_sipush, k_ldc, k_iload, k_iload_n, k_aload, k_aload_n, k_istore, k_istore_n, k_astore, k_astore_n, k_iinc, k_iadd, k_isub, k_imul, k_iand, k_ior, k_ishl, k_ishr, k_dup, k_pop, k_goto, k_ifCond, k_if_icmp, k_ifnull, k_ifnonnull, k_getfield, k_putfield, k_iaload, k_baload, k_aaload, k_iastore, k_bastore, k_aastore, k_arraylength, k_new, k_newarray, k_anewarray, k_multianewarray] at hps
    split at hps
    · next y x st =>
      split at hps
      · next hl => subst hl; cases hps; obtain ⟨r1, rfl, hr1⟩ := vrs_i hst; obtain ⟨r2, rfl, hr2⟩ := vrs_i hr1; exact lv_iadd he hb hdg (hkq ls _ rfl hL ⟨rfl, hr2⟩)
      · cases hps
    · cases hps
  case isub =>
    simp only [mps, mpsG, k_aconst_null, k_iconst, k_bipush, k_sipush, k_ldc, k_iload, k_iload_n, k_aload, k_aload_n, k_istore, k_istore_n, k_astore, k_astore_n, k_iinc, k_iadd, k_isub, k_imul, k_iand, k_ior, k_ishl, k_ishr, k_dup, k_pop, k_goto, k_ifCond, k_if_icmp, k_ifnull, k_ifnonnull, k_getfield, k_putfield, k_iaload, k_baload, k_aaload, k_iastore, k_bastore, k_aastore, k_arraylength, k_new, k_newarray, k_anewarray, k_multianewarray] at hps
    split at hps
    · next y x st =>
      split at hps
      · next hl => subst hl; cases hps; obtain ⟨r1, rfl, hr1⟩ := vrs_i hst; obtain ⟨r2, rfl, hr2⟩ := vrs_i hr1; exact lv_isub he hb hdg (hkq ls _ rfl hL ⟨rfl, hr2⟩)
      · cases hps
    · cases hps
  case imul =>
    simp only [mps, mpsG, k_aconst_null, k_iconst, k_bipush, k_sipush, k_ldc, k_iload, k_iload_n, k_aload, k_aload_n, k_istore, k_istore_n, k_astore, k_astore_n, k_iinc, k_iadd, k_isub, k_imul, k_iand, k_ior, k_ishl, k_ishr, k_dup, k_pop, k_goto, k_ifCond, k_if_icmp, k_ifnull, k_ifnonnull, k_getfield, k_putfield, k_iaload, k_baload, k_aaload, k_iastore, k_bastore, k_aastore, k_arraylength, k_new, k_newarray, k_anewarray, k_multianewarray] at hps
    split at hps
    · next y x st =>
      split at hps
      · next hl => subst hl; cases hps; obtain ⟨r1, rfl, hr1⟩ := vrs_i hst; obtain ⟨r2, rfl, hr2⟩ := vrs_i hr1; exact lv_imul he hb hdg (hkq ls _ rfl hL ⟨rfl, hr2⟩)
      · cases hps
    · cases hps
  case iand =>
    simp only [mps, mpsG, k_aconst_null, k_iconst, k_bipush, k_sipush, k_ldc, k_iload, k_iload_n, k_aload, k_aload_n, k_istore, k_istore_n, k_astore, k_astore_n, k_iinc, k_iadd, k_isub, k_imul, k_iand, k_ior, k_ishl, k_ishr, k_dup, k_pop, k_goto, k_ifCond, k_if_icmp, k_ifnull, k_ifnonnull, k_getfield, k_putfield, k_iaload, k_baload, k_aaload, k_iastore, k_bastore, k_aastore, k_arraylength, k_new, k_newarray, k_anewarray, k_multianewarray] at hps
    split at hps
    · next y x st =>
      split at hps
      · next hl => subst hl; cases hps; obtain ⟨r1, rfl, hr1⟩ := vrs_i hst; obtain ⟨r2, rfl, hr2⟩ := vrs_i hr1; exact lv_iand he hb hdg (hkq ls _ rfl hL ⟨rfl, hr2⟩)
      · cases hps
    · cases hps
  case ior =>
    simp only [mps, mpsG, k_aconst_null, k_iconst, k_bipush, k_sipush, k_ldc, k_iload, k_iload_n, k_aload, k_aload_n, k_istore, k_istore_n, k_astore, k_astore_n, k_iinc, k_iadd, k_isub, k_imul, k_iand, k_ior, k_ishl, k_ishr, k_dup, k_pop, k_goto, k_ifCond, k_if_icmp, k_ifnull, k_ifnonnull, k_getfield, k_putfield, k_iaload, k_baload, k_aaload, k_iastore, k_bastore, k_aastore, k_arraylength, k_new, k_newarray, k_anewarray, k_multianewarray] at hps
    split at hps
    · next y x st =>
      split at hps
      · next hl => subst hl; cases hps; obtain ⟨r1, rfl, hr1⟩ := vrs_i hst; obtain ⟨r2, rfl, hr2⟩ := vrs_i hr1; exact lv_ior he hb hdg (hkq ls _ rfl hL ⟨rfl, hr2⟩)
      · cases hps
    · cases hps
  case ishl =>
    simp only [mps, mpsG, k_aconst_null, k_iconst, k_bipush, k_sipush, k_ldc, k_iload, k_iload_n, k_aload, k_aload_n, k_istore, k_istore_n, k_astore, k_astore_n, k_iinc, k_iadd, k_isub, k_imul, k_iand, k_ior, k_ishl, k_ishr, k_dup, k_pop, k_goto, k_ifCond, k_if_icmp, k_ifnull, k_ifnonnull, k_getfield, k_putfield, k_iaload, k_baload, k_aaload, k_iastore, k_bastore, k_aastore, k_arraylength, k_new, k_newarray, k_anewarray, k_multianewarray] at hps
    split at hps
    · next y x st =>
      split at hps
      · next hl => subst hl; cases hps; obtain ⟨r1, rfl, hr1⟩ := vrs_i hst; obtain ⟨r2, rfl, hr2⟩ := vrs_i hr1; exact lv_ishl he hb hdg (hkq ls _ rfl hL ⟨rfl, hr2⟩)
      · cases hps
    · cases hps
  case ishr =>
    simp only [mps, mpsG, k_aconst_null, k_iconst, k_bipush, k_sipush, k_ldc, k_iload, k_iload_n, k_aload, k_aload_n, k_istore, k_istore_n, k_astore, k_astore_n, k_iinc, k_iadd, k_isub, k_imul, k_iand, k_ior, k_ishl, k_ishr, k_dup, k_pop, k_goto, k_ifCond, k_if_icmp, k_ifnull, k_ifnonnull, k_getfield, k_putfield, k_iaload, k_baload, k_aaload, k_iastore, k_bastore, k_aastore, k_arraylength, k_new, k_newarray, k_anewarray, k_multianewarray] at hps
    split at hps
    · next y x st =>
      split at hps
      · next hl => subst hl; cases hps; obtain ⟨r1, rfl, hr1⟩ := vrs_i hst; obtain ⟨r2, rfl, hr2⟩ := vrs_i hr1; exact lv_ishr he hb hdg (hkq ls _ rfl hL ⟨rfl, hr2⟩)
      · cases hps
    · cases hps
  case dup =>
    simp only [mps, mpsG, k_aconst_null, k_iconst, k_bipush, k_sipush, k_ldc, k_iload, k_iload_n, k_aload, k_aload_n, k_istore, k_istore_n, k_astore, k_astore_n, k_iinc, k_iadd, k_isub, k_imul, k_iand, k_ior, k_ishl, k_ishr, k_dup, k_pop, k_goto, k_ifCond, k_if_icmp, k_ifnull, k_ifnonnull, k_getfield, k_putfield, k_iaload, k_baload, k_aaload, k_iastore, k_bastore, k_aastore, k_arraylength, k_new, k_newarray, k_anewarray, k_multianewarray] at hps
    split at hps
    · next v st =>
      split at hps
      · next hl => subst hl; cases hps; obtain ⟨x, r, rfl, hx, hr⟩ := vrs_v hst; exact lv_dup he hb hdg (vr_cat hx) (hkq ls _ rfl hL ⟨hx, hx, hr⟩)
      · cases hps
    · cases hps
  case pop =>
    simp only [mps, mpsG, k_aconst_null, k_iconst, k_bipush, k_sipush, k_ldc, k_iload, k_iload_n, k_aload, k_aload_n, k_istore, k_istore_n, k_astore, k_astore_n, k_iinc, k_iadd, k_isub, k_imul, k_iand, k_ior, k_ishl, k_ishr, k_dup, k_pop, k_goto, k_ifCond, k_if_icmp, k_ifnull, k_ifnonnull, k_getfield, k_putfield, k_iaload, k_baload, k_aaload, k_iastore, k_bastore, k_aastore, k_arraylength, k_new, k_newarray, k_anewarray, k_multianewarray] at hps
    split at hps
    · next v st =>
      split at hps
      · next hl => subst hl; cases hps; obtain ⟨x, r, rfl, hx, hr⟩ := vrs_v hst; exact lv_pop he hb hdg (vr_cat hx) (hkq ls _ rfl hL hr)
      · cases hps
    · cases hps
  case goto off =>
    simp only [mps, mpsG, k_aconst_null, k_iconst, k_bipush, k_sipush, k_ldc, k_iload, k_iload_n, k_aload, k_aload_n, k_istore, k_istore_n, k_astore, k_astore_n, k_iinc, k_iadd, k_isub, k_imul, k_iand, k_ior, k_ishl, k_ishr, k_dup, k_pop, k_goto, k_ifCond, k_if_icmp, k_ifnull, k_ifnonnull, k_getfield, k_putfield, k_iaload, k_baload, k_aaload, k_iastore, k_bastore, k_aastore, k_arraylength, k_new, k_newarray, k_anewarray, k_multianewarray] at hps
    split at hps
    · next hl =>
      subst hl
      obtain ⟨t, ht, rfl⟩ := Option.map_eq_some_iff.mp hps
      exact lv_goto he hb hdg (mjmp_of ht) (hkq ls _ rfl hL hst)
    · cases hps
  case ifCond cnd off =>
    simp only [mps, mpsG, k_aconst_null, k_iconst, k_bipush, k_sipush, k_ldc, k_iload, k_iload_n, k_aload, k_aload_n, k_istore, k_istore_n, k_astore, k_astore_n, k_iinc, k_iadd, k_isub, k_imul, k_iand, k_ior, k_ishl, k_ishr, k_dup, k_pop, k_goto, k_ifCond, k_if_icmp, k_ifnull, k_ifnonnull, k_getfield, k_putfield, k_iaload, k_baload, k_aaload, k_iastore, k_bastore, k_aastore, k_arraylength, k_new, k_newarray, k_anewarray, k_multianewarray] at hps
    split at hps
    · next x st =>
      split at hps
      · next hl =>
        subst hl
        obtain ⟨t, ht, rfl⟩ := Option.map_eq_some_iff.mp hps
        obtain ⟨r1, rfl, hr1⟩ := vrs_i hst
        exact s_if he hb hdg (mjmp_of ht) (hkq ls _ rfl hL hr1)
      · cases hps
    · cases hps
  case if_icmp cnd off =>
    simp only [mps, mpsG, k_aconst_null, k_iconst, k_bipush, k_sipush, k_ldc, k_iload, k_iload_n, k_aload, k_aload_n, k_istore, k_istore_n, k_astore, k_astore_n, k_iinc, k_iadd, k_isub, k_imul, k_iand, k_ior, k_ishl, k_ishr, k_dup, k_pop, k_goto, k_ifCond, k_if_icmp, k_ifnull, k_ifnonnull, k_getfield, k_putfield, k_iaload, k_baload, k_aaload, k_iastore, k_bastore, k_aastore, k_arraylength, k_new, k_newarray, k_anewarray, k_multianewarray] at hps
    split at hps
    · next y x st =>
      split at hps
      · next hl =>
        subst hl
        obtain ⟨t, ht, rfl⟩ := Option.map_eq_some_iff.mp hps
        obtain ⟨r1, rfl, hr1⟩ := vrs_i hst
        obtain ⟨r2, rfl, hr2⟩ := vrs_i hr1
        exact s_icmp he hb hdg (mjmp_of ht) (hkq ls _ rfl hL hr2)
      · cases hps
    · cases hps
  case ifnull off =>
    simp only [mps, mpsG, k_aconst_null, k_iconst, k_bipush, k_sipush, k_ldc, k_iload, k_iload_n, k_aload, k_aload_n, k_istore, k_istore_n, k_astore, k_astore_n, k_iinc, k_iadd, k_isub, k_imul, k_iand, k_ior, k_ishl, k_ishr, k_dup, k_pop, k_goto, k_ifCond, k_if_icmp, k_ifnull, k_ifnonnull, k_getfield, k_putfield, k_iaload, k_baload, k_aaload, k_iastore, k_bastore, k_aastore, k_arraylength, k_new, k_newarray, k_anewarray, k_multianewarray] at hps
    split at hps
    · next st =>
      split at hps
      · next hl =>
        subst hl
        obtain ⟨t, ht, rfl⟩ := Option.map_eq_some_iff.mp hps
        obtain ⟨r1, rfl, hr1⟩ := vrs_n hst
        exact lv_ifnullN he hb hdg (mjmp_of ht) (hkq ls _ rfl hL hr1)
      · cases hps
    · next a st =>
      split at hps
      · next hl =>
        subst hl
        cases hps
        obtain ⟨qa, r1, rfl, -, hr1⟩ := vrs_r hst
        exact lv_ifnull he hb hdg (hkq ls _ rfl hL hr1)
      · cases hps
    · cases hps
  case ifnonnull off =>
    simp only [mps, mpsG, k_aconst_null, k_iconst, k_bipush, k_sipush, k_ldc, k_iload, k_iload_n, k_aload, k_aload_n, k_istore, k_istore_n, k_astore, k_astore_n, k_iinc, k_iadd, k_isub, k_imul, k_iand, k_ior, k_ishl, k_ishr, k_dup, k_pop, k_goto, k_ifCond, k_if_icmp, k_ifnull, k_ifnonnull, k_getfield, k_putfield, k_iaload, k_baload, k_aaload, k_iastore, k_bastore, k_aastore, k_arraylength, k_new, k_newarray, k_anewarray, k_multianewarray] at hps
    split at hps
    · next a st =>
      split at hps
      · next hl =>
        subst hl
        obtain ⟨t, ht, rfl⟩ := Option.map_eq_some_iff.mp hps
        obtain ⟨qa, r1, rfl, -, hr1⟩ := vrs_r hst
        exact lv_ifnonnull he hb hdg (mjmp_of ht) (hkq ls _ rfl hL hr1)
      · cases hps
    · next st =>
      split at hps
      · next hl =>
        subst hl
        cases hps
        obtain ⟨r1, rfl, hr1⟩ := vrs_n hst
        exact lv_ifnonnullN he hb hdg (hkq ls _ rfl hL hr1)
      · cases hps
    · cases hps
  case getfield i =>
    simp only [mps, mpsG, k_aconst_null, k_iconst, k_bipush, k_sipush, k_ldc, k_iload, k_iload_n, k_aload, k_aload_n, k_istore, k_istore_n, k_astore, k_astore_n, k_iinc, k_iadd, k_isub, k_imul, k_iand, k_ior, k_ishl, k_ishr, k_dup, k_pop, k_goto, k_ifCond, k_if_icmp, k_ifnull, k_ifnonnull, k_getfield, k_putfield, k_iaload, k_baload, k_aaload, k_iastore, k_bastore, k_aastore, k_arraylength, k_new, k_newarray, k_anewarray, k_multianewarray] at hps
    split at hps
    · next a st =>
      split at hps
      · next ci k t vs hf hc =>
        split at hps
        · next hl =>
          obtain ⟨rfl, rfl⟩ := hl
          obtain ⟨v, hv, rfl⟩ := Option.map_eq_some_iff.mp hps
          obtain ⟨qa, r1, rfl, hqa, hr1⟩ := vrs_r hst
          exact s_getf he hb hown hts hW hf hqa hc hv hdg fun x hx => hkq ls _ rfl hL ⟨hx, hr1⟩
        · cases hps
      · cases hps
    · cases hps
  case putfield i =>
    simp only [mps, mpsG, k_aconst_null, k_iconst, k_bipush, k_sipush, k_ldc, k_iload, k_iload_n, k_aload, k_aload_n, k_istore, k_istore_n, k_astore, k_astore_n, k_iinc, k_iadd, k_isub, k_imul, k_iand, k_ior, k_ishl, k_ishr, k_dup, k_pop, k_goto, k_ifCond, k_if_icmp, k_ifnull, k_ifnonnull, k_getfield, k_putfield, k_iaload, k_baload, k_aaload, k_iastore, k_bastore, k_aastore, k_arraylength, k_new, k_newarray, k_anewarray, k_multianewarray] at hps
    split at hps
    · next v a st =>
      split at hps
      · next ci k t vs hf hc =>
        split at hps
        · next r ty hr hty =>
          split at hps
          · next hl =>
            obtain ⟨rfl, rfl, hk, hk2, hfit, hfin⟩ := hl
            cases hps
            obtain ⟨x, r1, rfl, hx, hr1⟩ := vrs_v hst
            obtain ⟨qa, r2, rfl, hqa, hr2⟩ := vrs_r hr1
            exact s_putf he hb hown hts hW hS hf hqa hc hk hr hty hfit hx (fun hz => ⟨hini (hfin hz).1, (hfin hz).2⟩) hdg fun H1 locs1 hW1 hS1 => hks H1 locs1 _ a _ _ hc (by simp) rfl rfl hW1 hS1 hr2
          · cases hps
        · cases hps
      · cases hps
    · cases hps
  case iaload =>
    simp only [mps, mpsG, k_aconst_null, k_iconst, k_bipush, k_sipush, k_ldc, k_iload, k_iload_n, k_aload, k_aload_n, k_istore, k_istore_n, k_astore, k_astore_n, k_iinc, k_iadd, k_isub, k_imul, k_iand, k_ior, k_ishl, k_ishr, k_dup, k_pop, k_goto, k_ifCond, k_if_icmp, k_ifnull, k_ifnonnull, k_getfield, k_putfield, k_iaload, k_baload, k_aaload, k_iastore, k_bastore, k_aastore, k_arraylength, k_new, k_newarray, k_anewarray, k_multianewarray] at hps
    split at hps
    · next i a st =>
      split at hps
      · next vs hc =>
        split at hps
        · next hl =>
          subst hl
          obtain ⟨x, hx, rfl⟩ := Option.map_eq_some_iff.mp hps
          obtain ⟨r1, rfl, hr1⟩ := vrs_i hst
          obtain ⟨qa, r2, rfl, hqa, hr2⟩ := vrs_r hr1
          exact s_iald he hb hW hqa hc hx hdg (hkq ls _ rfl hL ⟨rfl, hr2⟩)
        · cases hps
      · cases hps
    · cases hps
  case baload =>
    simp only [mps, mpsG, k_aconst_null, k_iconst, k_bipush, k_sipush, k_ldc, k_iload, k_iload_n, k_aload, k_aload_n, k_istore, k_istore_n, k_astore, k_astore_n, k_iinc, k_iadd, k_isub, k_imul, k_iand, k_ior, k_ishl, k_ishr, k_dup, k_pop, k_goto, k_ifCond, k_if_icmp, k_ifnull, k_ifnonnull, k_getfield, k_putfield, k_iaload, k_baload, k_aaload, k_iastore, k_bastore, k_aastore, k_arraylength, k_new, k_newarray, k_anewarray, k_multianewarray] at hps
    split at hps
    · next i a st =>
      split at hps
      · next vs hc =>
        split at hps
        · next hl =>
          subst hl
          obtain ⟨x, hx, rfl⟩ := Option.map_eq_some_iff.mp hps
          obtain ⟨r1, rfl, hr1⟩ := vrs_i hst
          obtain ⟨qa, r2, rfl, hqa, hr2⟩ := vrs_r hr1
          exact s_bald he hb hW hqa hc hx hdg (hkq ls _ rfl hL ⟨rfl, hr2⟩)
        · cases hps
      · cases hps
    · cases hps
  case aaload =>
    simp only [mps, mpsG, k_aconst_null, k_iconst, k_bipush, k_sipush, k_ldc, k_iload, k_iload_n, k_aload, k_aload_n, k_istore, k_istore_n, k_astore, k_astore_n, k_iinc, k_iadd, k_isub, k_imul, k_iand, k_ior, k_ishl, k_ishr, k_dup, k_pop, k_goto, k_ifCond, k_if_icmp, k_ifnull, k_ifnonnull, k_getfield, k_putfield, k_iaload, k_baload, k_aaload, k_iastore, k_bastore, k_aastore, k_arraylength, k_new, k_newarray, k_anewarray, k_multianewarray] at hps
    split at hps
    · next i a st =>
      split at hps
      · next t vs hc =>
        split at hps
        · next hl =>
          obtain ⟨rfl, htt⟩ := hl
          obtain ⟨x, hx, rfl⟩ := Option.map_eq_some_iff.mp hps
          obtain ⟨r1, rfl, hr1⟩ := vrs_i hst
          obtain ⟨qa, r2, rfl, hqa, hr2⟩ := vrs_r hr1
          exact s_aald he hb hW hqa hc htt hx hdg fun z hz => hkq ls _ rfl hL ⟨hz, hr2⟩
        · cases hps
      · cases hps
    · cases hps
  case iastore =>
    simp only [mps, mpsG, k_aconst_null, k_iconst, k_bipush, k_sipush, k_ldc, k_iload, k_iload_n, k_aload, k_aload_n, k_istore, k_istore_n, k_astore, k_astore_n, k_iinc, k_iadd, k_isub, k_imul, k_iand, k_ior, k_ishl, k_ishr, k_dup, k_pop, k_goto, k_ifCond, k_if_icmp, k_ifnull, k_ifnonnull, k_getfield, k_putfield, k_iaload, k_baload, k_aaload, k_iastore, k_bastore, k_aastore, k_arraylength, k_new, k_newarray, k_anewarray, k_multianewarray] at hps
    split at hps
    · next x i a st =>
      split at hps
      · next vs hc =>
        split at hps
        · next hl =>
          subst hl
          obtain ⟨j, hj, rfl⟩ := Option.map_eq_some_iff.mp hps
          obtain ⟨r1, rfl, hr1⟩ := vrs_i hst
          obtain ⟨r2, rfl, hr2⟩ := vrs_i hr1
          obtain ⟨qa, r3, rfl, hqa, hr3⟩ := vrs_r hr2
          exact s_iast he hb hW hS hqa hc hj hdg fun H1 locs1 hW1 hS1 => hks H1 locs1 _ a _ _ hc (by simp) rfl rfl hW1 hS1 hr3
        · cases hps
      · cases hps
    · cases hps
  case bastore =>
    simp only [mps, mpsG, k_aconst_null, k_iconst, k_bipush, k_sipush, k_ldc, k_iload, k_iload_n, k_aload, k_aload_n, k_istore, k_istore_n, k_astore, k_astore_n, k_iinc, k_iadd, k_isub, k_imul, k_iand, k_ior, k_ishl, k_ishr, k_dup, k_pop, k_goto, k_ifCond, k_if_icmp, k_ifnull, k_ifnonnull, k_getfield, k_putfield, k_iaload, k_baload, k_aaload, k_iastore, k_bastore, k_aastore, k_arraylength, k_new, k_newarray, k_anewarray, k_multianewarray] at hps
    split at hps
    · next x i a st =>
      split at hps
      · next vs hc =>
        split at hps
        · next hl =>
          obtain ⟨rfl, hx⟩ := hl
          obtain ⟨j, hj, rfl⟩ := Option.map_eq_some_iff.mp hps
          obtain ⟨r1, rfl, hr1⟩ := vrs_i hst
          obtain ⟨r2, rfl, hr2⟩ := vrs_i hr1
          obtain ⟨qa, r3, rfl, hqa, hr3⟩ := vrs_r hr2
          exact s_bast he hb hW hS hqa hc hx hj hdg fun H1 locs1 hW1 hS1 => hks H1 locs1 _ a _ _ hc (by simp) rfl rfl hW1 hS1 hr3
        · cases hps
      · cases hps
    · cases hps
  case aastore =>
    simp only [mps, mpsG, k_aconst_null, k_iconst, k_bipush, k_sipush, k_ldc, k_iload, k_iload_n, k_aload, k_aload_n, k_istore, k_istore_n, k_astore, k_astore_n, k_iinc, k_iadd, k_isub, k_imul, k_iand, k_ior, k_ishl, k_ishr, k_dup, k_pop, k_goto, k_ifCond, k_if_icmp, k_ifnull, k_ifnonnull, k_getfield, k_putfield, k_iaload, k_baload, k_aaload, k_iastore, k_bastore, k_aastore, k_arraylength, k_new, k_newarray, k_anewarray, k_multianewarray] at hps
    split at hps
    · next b i a st =>
      split at hps
      · next t vs u us hc hcb =>
        split at hps
        · next hl =>
          obtain ⟨rfl, htt, hu⟩ := hl
          obtain ⟨j, hj, rfl⟩ := Option.map_eq_some_iff.mp hps
          obtain ⟨qb, r1, rfl, hqb, hr1⟩ := vrs_r hst
          obtain ⟨r2, rfl, hr2⟩ := vrs_i hr1
          obtain ⟨qa, r3, rfl, hqa, hr3⟩ := vrs_r hr2
          exact s_aast he hb hW hS hqa hqb hc hcb htt hu hj hdg fun H1 locs1 hW1 hS1 => hks H1 locs1 _ a _ _ hc (by simp) rfl rfl hW1 hS1 hr3
        · cases hps
      · cases hps
    · next i a st =>
      split at hps
      · next t vs hc =>
        split at hps
        · next hl =>
          obtain ⟨rfl, htt⟩ := hl
          obtain ⟨j, hj, rfl⟩ := Option.map_eq_some_iff.mp hps
          obtain ⟨r1, rfl, hr1⟩ := vrs_n hst
          obtain ⟨r2, rfl, hr2⟩ := vrs_i hr1
          obtain ⟨qa, r3, rfl, hqa, hr3⟩ := vrs_r hr2
          exact s_aastN he hb hW hS hqa hc htt hj hdg fun H1 locs1 hW1 hS1 => hks H1 locs1 _ a _ _ hc (by simp) rfl rfl hW1 hS1 hr3
        · cases hps
      · cases hps
    · cases hps
  case arraylength =>
    simp only [mps, mpsG, k_aconst_null, k_iconst, k_bipush, k_sipush, k_ldc, k_iload, k_iload_n, k_aload, k_aload_n, k_istore, k_istore_n, k_astore, k_astore_n, k_iinc, k_iadd, k_isub, k_imul, k_iand, k_ior, k_ishl, k_ishr, k_dup, k_pop, k_goto, k_ifCond, k_if_icmp, k_ifnull, k_ifnonnull, k_getfield, k_putfield, k_iaload, k_baload, k_aaload, k_iastore, k_bastore, k_aastore, k_arraylength, k_new, k_newarray, k_anewarray, k_multianewarray] at hps
    split at hps
    · next a st =>
      split at hps
      · next t vs hc =>
        split at hps
        · next hl =>
          obtain ⟨rfl, htt⟩ := hl
          cases hps
          obtain ⟨qa, r1, rfl, hqa, hr1⟩ := vrs_r hst
          exact s_alen he hb hW hqa hc htt hdg (hkq ls _ rfl hL ⟨rfl, hr1⟩)
        · cases hps
      · cases hps
    · cases hps
  case new i =>
    simp only [mps, mpsG, k_aconst_null, k_iconst, k_bipush, k_sipush, k_ldc, k_iload, k_iload_n, k_aload, k_aload_n, k_istore, k_istore_n, k_astore, k_astore_n, k_iinc, k_iadd, k_isub, k_imul, k_iand, k_ior, k_ishl, k_ishr, k_dup, k_pop, k_goto, k_ifCond, k_if_icmp, k_ifnull, k_ifnonnull, k_getfield, k_putfield, k_iaload, k_baload, k_aaload, k_iastore, k_bastore, k_aastore, k_arraylength, k_new, k_newarray, k_anewarray, k_multianewarray] at hps
    split at hps
    · next ci hf =>
      split at hps
      · next hl =>
        subst hl
        cases hps
        have hal : ads.length = h.length := by obtain ⟨ws, tys, h1, h2, -⟩ := hW; rw [← h1, h2]; simp
        simp only [List.length_append, List.length_cons, List.length_nil] at hrc
        simp only [mslots_app, List.length_map] at hrs
        exact s_new he hb hown hts hA hW hS hf (by omega) (by omega) hdg fun H1 qn hW1 hS1 => kk H1 locs ls _ (ads ++ [qn]) _ _ ⟨[qn], rfl⟩ hW1 hS1 (Lr_mono hL) ⟨⟨qn, by rw [← hal]; simp, rfl⟩, vrs_mono hst⟩ (by simp; omega) (by simp [mslots_app]; omega)
      · cases hps
    · cases hps
  case newarray ty =>
    simp only [mps, mpsG, k_aconst_null, k_iconst, k_bipush, k_sipush, k_ldc, k_iload, k_iload_n, k_aload, k_aload_n, k_istore, k_istore_n, k_astore, k_astore_n, k_iinc, k_iadd, k_isub, k_imul, k_iand, k_ior, k_ishl, k_ishr, k_dup, k_pop, k_goto, k_ifCond, k_if_icmp, k_ifnull, k_ifnonnull, k_getfield, k_putfield, k_iaload, k_baload, k_aaload, k_iastore, k_bastore, k_aastore, k_arraylength, k_new, k_newarray, k_anewarray, k_multianewarray] at hps
    split at hps
    · next n st =>
      split at hps
      · next hl =>
        obtain ⟨rfl, hn, hn2⟩ := hl
        have hal : ads.length = h.length := by obtain ⟨ws, tys, h1, h2, -⟩ := hW; rw [← h1, h2]; simp
        split at hps
        · cases hps
          obtain ⟨r1, rfl, hr1⟩ := vrs_i hst
          simp only [List.length_append, List.length_cons, List.length_nil] at hrc
          simp only [mslots_app, List.length_replicate] at hrs
          exact s_newi he hb hts hA hW hS hn hn2 (by omega) (by omega) hdg fun H1 qn hW1 hS1 => kk H1 locs ls _ (ads ++ [qn]) _ _ ⟨[qn], rfl⟩ hW1 hS1 (Lr_mono hL) ⟨⟨qn, by rw [← hal]; simp, rfl⟩, vrs_mono hr1⟩ (by simp; omega) (by simp [mslots_app]; omega)
        · cases hps
          obtain ⟨r1, rfl, hr1⟩ := vrs_i hst
          simp only [List.length_append, List.length_cons, List.length_nil] at hrc
          simp only [mslots_app, List.length_replicate] at hrs
          exact s_newz he hb hts hA hW hS hn hn2 (by omega) (by omega) hdg fun H1 qn hW1 hS1 => kk H1 locs ls _ (ads ++ [qn]) _ _ ⟨[qn], rfl⟩ hW1 hS1 (Lr_mono hL) ⟨⟨qn, by rw [← hal]; simp, rfl⟩, vrs_mono hr1⟩ (by simp; omega) (by simp [mslots_app]; omega)
        · cases hps
      · cases hps
    · cases hps
  case anewarray i =>
    simp only [mps, mpsG, k_aconst_null, k_iconst, k_bipush, k_sipush, k_ldc, k_iload, k_iload_n, k_aload, k_aload_n, k_istore, k_istore_n, k_astore, k_astore_n, k_iinc, k_iadd, k_isub, k_imul, k_iand, k_ior, k_ishl, k_ishr, k_dup, k_pop, k_goto, k_ifCond, k_if_icmp, k_ifnull, k_ifnonnull, k_getfield, k_putfield, k_iaload, k_baload, k_aaload, k_iastore, k_bastore, k_aastore, k_arraylength, k_new, k_newarray, k_anewarray, k_multianewarray] at hps
    split at hps
    · next n st t hf =>
      split at hps
      · next hl =>
        obtain ⟨rfl, hn, hn2, htt⟩ := hl
        have hal : ads.length = h.length := by obtain ⟨ws, tys, h1, h2, -⟩ := hW; rw [← h1, h2]; simp
        cases hps
        obtain ⟨r1, rfl, hr1⟩ := vrs_i hst
        simp only [List.length_append, List.length_cons, List.length_nil] at hrc
        simp only [mslots_app, List.length_replicate] at hrs
        exact s_anew he hb hown hts hXf hA hW hS hf htt hn hn2 (by omega) (by omega) hdg fun H1 qn hW1 hS1 => kk H1 locs ls _ (ads ++ [qn]) _ _ ⟨[qn], rfl⟩ hW1 hS1 (Lr_mono hL) ⟨⟨qn, by rw [← hal]; simp, rfl⟩, vrs_mono hr1⟩ (by simp; omega) (by simp [mslots_app]; omega)
      · cases hps
    · cases hps
  case multianewarray i dm =>
    simp only [mps, mpsG, k_multianewarray] at hps
    split at hps
    · next k n st hf =>
      split at hps
      · next hl =>
        obtain ⟨rfl, rfl, hn, hk, hn2, hk2⟩ := hl
        have hal : ads.length = h.length := by obtain ⟨ws, tys, h1, h2, -⟩ := hW; rw [← h1, h2]; simp
        cases hps
        obtain ⟨r1, rfl, hr1⟩ := vrs_i hst
        obtain ⟨r2, rfl, hr2⟩ := vrs_i hr1
        simp only [List.length_append, mgrid_len] at hrc
        simp only [mslots_apps, mgrid_slots] at hrs
        exact s_mna he hb hown hts hXf hA hW hS hf hn hk hn2 hk2 (by omega) (by omega) hdg fun H1 qn ads2 hW1 hS1 => kk H1 locs ls _ (ads ++ (qn :: ads2)) _ _ ⟨qn :: ads2, rfl⟩ hW1 hS1 (Lr_mono hL) ⟨⟨qn, by rw [← hal]; simp, rfl⟩, vrs_mono hr2⟩ (by simp only [List.length_append, mgrid_len]; omega) (by simp only [mslots_apps, mgrid_slots]; omega)
      · cases hps
    · cases hps
  all_goals (simp [mps, mpsG, k_aconst_null, k_iconst, k_bipush, k_sipush, k_ldc, k_iload, k_iload_n, k_aload, k_aload_n, k_istore, k_istore_n, k_astore, k_astore_n, k_iinc, k_iadd, k_isub, k_imul, k_iand, k_ior, k_ishl, k_ishr, k_dup, k_pop, k_goto, k_ifCond, k_if_icmp, k_ifnull, k_ifnonnull, k_getfield, k_putfield, k_iaload, k_baload, k_aaload, k_iastore, k_bastore, k_aastore, k_arraylength, k_new, k_newarray, k_anewarray, k_multianewarray] at hps)
end S4
end
section
/-! Object's constructor, arraycopy, min, clone, the cast behind it -/
theorem Xc_warm {s U : State} (hW : s.WarmedH U.vm) (h : Xc s) : Xc U := va_Nw.warmC hW h
theorem Xc_same {u U : State} (he : u.vm = U.vm) (h : Xc u) : Xc U := va_Nw.same rfl he h
theorem ec_cpy {tys : List (ClassId × FieldType)} {ty : FieldType} {us vs : List MV} {cB : ClassId} {f g : Nat → Int32} {t1 sp dp n : Nat} (ht : tys[t1]? = some (cB, ty)) (hf : ∀ (j : Nat) (v : MV), us[j]? = some v → v = .inl (f j)) (hg : ∀ (j : Nat) (v : MV), vs[j]? = some v → v = .inl (g j)) (h1 : sp + n ≤ us.length) (h2 : dp + n ≤ vs.length) :
    ecI tys ty (vs.take dp ++ ((us.drop sp).take n ++ vs.drop (dp + n))) (.inl (cB, vs.length, .inl (va_cpy f g sp dp n))) := by
  refine ⟨cB, va_cpy f g sp dp n, t1, ?_, ht, fun j v hj => ?_⟩
  · have : (vs.take dp ++ ((us.drop sp).take n ++ vs.drop (dp + n))).length = vs.length := by simp only [List.length_append, List.length_take, List.length_drop]; omega
    rw [this]
  · by_cases ha : j < dp
    · rw [List.getElem?_append_left (by simp; omega), List.getElem?_take_of_lt ha] at hj
      rw [pk_cpy_out (Or.inl ha)]
      exact hg j v hj
    · rw [List.getElem?_append_right (by simp; omega)] at hj
      have hl : (vs.take dp).length = dp := by simp; omega
      rw [hl] at hj
      by_cases hb : j < dp + n
      · rw [List.getElem?_append_left (by simp; omega), List.getElem?_take_of_lt (by omega), List.getElem?_drop] at hj
        rw [pk_cpy_in (by omega) hb]
        exact hf _ v hj
      · rw [List.getElem?_append_right (by simp; omega)] at hj
        have hl2 : ((us.drop sp).take n).length = n := by simp; omega
        rw [hl2, List.getElem?_drop] at hj
        rw [pk_cpy_out (Or.inr (by omega))]
        have : dp + n + (j - dp - n) = j := by omega
        rw [this] at hj
        exact hg j v hj
section S5
variable {p : Program} {l : Launch} {e : Env} {R : Room} {s : State} {m : MethodId} {args : Array Value} {below : List Frame} {meth : Method} {c : Code} {H : Heap} {locs : List Loc} {cells slots : Nat} {Q : State → Prop} {cc : ByteArray} {pc : Nat} {ls : Array Slot} {ads : List Nat} {D : va_G} {A : Nat → Prop} {own : Nat} {h : List MC}
set_option maxHeartbeats 4000000 in
theorem sim_nat {mL d : Nat} (he : p.tables.exec = Jvm.exec) (hb : c.code = cc) (hml : c.maxLocals = mL) (hown : s.vm.findClass (mon own) = some m.cls) (hts : ∀ w ∈ lw_g, w.before args s = true) (hXc : Xc s) (hA : ∀ q, s.heap.size ≤ q → A q) (hfr : d ≤ R.frames) (hlo : 41 * d ≤ R.locals)
    {ml : List (Option MV)} {st : List MV} {st0 : List Value} {ig : Instr} {len : Nat} {q : MS} (hdg : decode cc pc = .ok (ig, len)) (hps : mnat own d ig len pc ml st h = some q) (hW : Wd D A s H ads h) (hS : va_S A s.heap H locs) (hL : Lr ads ml ls mL) (hst : vrs ads st st0)
    (hrc : q.2.2.2.length + cells ≤ h.length + R.cells) (hrs : mslots q.2.2.2 + slots ≤ mslots h + R.slots)
    (kk : ∀ (H' : Heap) (locs' : List Loc) (ls' : Array Slot) (st1 : List Value) (ads' : List Nat) (c' s' : Nat), (∃ l, ads' = ads ++ l) → Wd D A s H' ads' q.2.2.2 → va_S A s.heap H' locs' → Lr ads' q.2.1 ls' mL → vrs ads' q.2.2.1 st1 → c' + h.length = cells + q.2.2.2.length → s' + mslots h = slots + mslots q.2.2.2 → W p l e R s m args below meth c H' locs' c' s' Q (F0 m q.1 ls' st1)) :
    W p l e R s m args below meth c H locs cells slots Q (F0 m pc ls st0) := by
  have hsz : c.maxLocals = ls.size := hml.trans hL.2.1.symm
  unfold mnat mnatG at hps
  split at hps
  · next i =>
    split at hps
    · next M b rest hk =>
      split at hps
      · next hl =>
        obtain ⟨rfl, hd, hrl⟩ := hl
        cases hps
        obtain ⟨qb, r, rfl, hqb, hr⟩ := vrs_r hst
        obtain ⟨pp, hpp⟩ := fl hk
        simp only [ckL, if_true] at hpp
        have hcat := vrs_cat hr
        refine W.objInit he hb hown (hts _ (wat_mem hpp)) (hts _ w_oin) (hts _ w_oco) rfl hsz.symm rfl hdg (by omega) ?_ (W.eq (g2 := F0 m (pc + 3) ls r) rfl (kk H locs ls _ ads cells slots ⟨[], by simp⟩ hW hS hL hr rfl rfl))
        show 2 * 0 + (r.map fun v => v.category).sum + 12 ≤ R.locals
        rw [hcat]
        omega
      · cases hps
    · cases hps
  · next i =>
    split at hps
    · next M n dp b sp a rest hk =>
      split at hps
      · next us vs hca hcb =>
        split at hps
        · next hl =>
          obtain ⟨rfl, hd, hrl, hsp, hdp, hn, hu, hv⟩ := hl
          cases hps
          obtain ⟨r1, rfl, hr1⟩ := vrs_i hst
          obtain ⟨r2, rfl, hr2⟩ := vrs_i hr1
          obtain ⟨qb, r3, rfl, hqb, hr3⟩ := vrs_r hr2
          obtain ⟨r4, rfl, hr4⟩ := vrs_i hr3
          obtain ⟨qa, r5, rfl, hqa, hr5⟩ := vrs_r hr4
          obtain ⟨pp, hpp⟩ := fl hk
          simp only [ckL, if_true, if_false, show ¬ (4 = 3) by decide] at hpp
          obtain ⟨ws, tys, h1, h2, h3, hP, hD, hK, h7⟩ := hW
          obtain ⟨ea, hwa⟩ := wd_cell h1 h2 hqa hca
          obtain ⟨eb, hwb⟩ := wd_cell h1 h2 hqb hcb
          obtain ⟨cA, f, t0, hfe, ht, hf⟩ := ec_int (h3 a _ _ hca hwa)
          obtain ⟨cB, g, t1, hge, ht1, hg⟩ := ec_int (h3 b _ _ hcb hwb)
          simp only at hfe hge
          subst hfe
          subst hge
          have hcat := vrs_cat hr5
          refine va_copyi he hb hsz hown (hts _ (wat_mem hpp)) (hts _ w_acn) (hts _ w_acs) (hts _ w_aci) hK hP hD hS a b t0 t1 hwa hwb ht ht1 rfl hsp hdp hn hu hv (fun i _ => rfl) (by omega) ?_ hdg fun H1 locs1 hP1 hD1 hS1 => ?_
          · rw [hcat]
            have : nativeFrameWords "java/lang/System" "arraycopy" 5 ≤ 20 := by decide
            omega
          · exact kk H1 locs1 ls _ ads cells slots ⟨[], by simp⟩ (wd_set h1 h2 h3 hK h7 hwb (Or.inl ⟨rfl, ec_cpy ht1 hf hg hu hv⟩) hP1 hD1) hS1 hL hr5 (by simp) (by simp only; rw [mslots_set hcb (by simp only [List.length_append, List.length_take, List.length_drop]; omega)])
        · cases hps
      · cases hps
    · next M y x rest hk =>
      split at hps
      · next hl =>
        obtain ⟨rfl, hd, hrl⟩ := hl
        cases hps
        obtain ⟨r1, rfl, hr1⟩ := vrs_i hst
        obtain ⟨r2, rfl, hr2⟩ := vrs_i hr1
        obtain ⟨pp, hpp⟩ := fl hk
        simp only [ckL, if_true, if_false, show ¬ (7 = 3) by decide, show ¬ (7 = 4) by decide] at hpp
        have hcat := vrs_cat hr2
        simp only at hrc hrs
        refine va_mmin he hb hsz hown (hts _ (wat_mem hpp)) (hts _ w_mis) (hts _ w_mii) (hts _ w_mic) (by omega) ?_ (by omega) (by omega) hdg (kk H locs ls _ ads cells slots ⟨[], by simp⟩ hW hS hL ⟨rfl, hr2⟩ rfl rfl)
        rw [hcat]
        omega
      · cases hps
    · cases hps
  · next i =>
    split at hps
    · next M a rest hk =>
      split at hps
      · next vs hca =>
        split at hps
        · next hl =>
          obtain ⟨rfl, hd, hrl⟩ := hl
          cases hps
          have hal : ads.length = h.length := by obtain ⟨ws, tys, h1, h2, -⟩ := hW; rw [← h1, h2]; simp
          obtain ⟨qa, r, rfl, hqa, hr⟩ := vrs_r hst
          obtain ⟨pp, hpp⟩ := fl hk
          simp only [ckL, if_true, if_false, show ¬ (8 = 3) by decide, show ¬ (8 = 4) by decide, show ¬ (8 = 7) by decide] at hpp
          obtain ⟨ws, tys, h1, h2, h3, hP, hD, hK, h7⟩ := hW
          obtain ⟨ea, hwa⟩ := wd_cell h1 h2 hqa hca
          obtain ⟨cA, f, t0, hfe, ht, hf⟩ := ec_int (h3 a _ _ hca hwa)
          simp only at hfe
          subst hfe
          have hcat := vrs_cat hr
          simp only [List.length_append, List.length_cons, List.length_nil] at hrc
          simp only [mslots_app] at hrs
          refine va_clone he hb hsz hown (hts _ (wat_mem hpp)) (hts _ w_cls) (hts _ w_cln) (hts _ w_cli) (hts _ w_cle) hXc hK hP hD hS hA a t0 hwa ht (hK.2 t0 _ ht).2 (fun i v hv => ?_) (by omega) ?_ (by omega) (by simp only; omega) hdg fun qn H1 hK1 hP1 hD1 hS1 => ?_
          · rw [vp_cell_i] at hv
            by_cases hi : i < vs.length
            · rw [arrV_read _ _ hi] at hv; cases hv; rfl
            · rw [Array.getElem?_eq_none (by rw [arrV_size]; omega)] at hv; cases hv
          · rw [hcat]; omega
          · refine kk H1 locs ls _ (ads ++ [qn]) _ _ ⟨[qn], rfl⟩ (wd_push (ts := [(cA, .int)]) h1 h2 h3 hK1 (fun k x hx => ?_) (Or.inl ⟨rfl, cA, f, tys.length, rfl, by simp, hf⟩) hP1 hD1) hS1 (Lr_mono hL) ⟨⟨qn, by rw [← hal]; simp, rfl⟩, vrs_mono hr⟩ (by simp; omega) (by simp [mslots_app]; omega)
            by_cases hk : k < tys.length
            · rw [List.getElem?_append_left hk] at hx; exact h7 k x hx
            · have : k = tys.length := by have := (List.getElem?_eq_some_iff.mp hx).1; simp at this; omega
              subst this; simp at hx; subst hx; trivial
        · cases hps
      · cases hps
    · cases hps
  · next i =>
    split at hps
    · next a rest hk =>
      split at hps
      · next vs hca =>
        split at hps
        · next hl =>
          subst hl
          cases hps
          obtain ⟨qa, r, rfl, hqa, hr⟩ := vrs_r hst
          have hW' := hW
          obtain ⟨ws, tys, h1, h2, h3, hP, hD, hK, h7⟩ := hW
          obtain ⟨ea, hwa⟩ := wd_cell h1 h2 hqa hca
          obtain ⟨cA, f, t0, hfe, ht, hf⟩ := ec_int (h3 a _ _ hca hwa)
          simp only at hfe
          subst hfe
          have hlk := fa hk (Or.inl rfl)
          simp only [if_true] at hlk
          exact va_castA he hb hown (hts _ hlk) hP a hwa (hK.2 t0 _ ht).2 hdg (kk H locs ls _ ads cells slots ⟨[], by simp⟩ hW' hS hL ⟨⟨qa, hqa, rfl⟩, hr⟩ rfl rfl)
        · cases hps
      · cases hps
    · cases hps
  · cases hps
end S5
end
section
/-! A WHOLE RUN OF THE SMALL MACHINE IS A RUN OF THE MACHINE: a contract for every run -/
def rmD (d mc ms : Nat) : Room := { frames := d, cells := mc, slots := ms, locals := 41 * d }
abbrev wsM (q : MM) : List Cond := Cond.code q.1 q.2.1 q.2.2.1 q.2.2.2.1 :: lw_g
def ro (ads : List Nat) (r : Option MV) (oc : Outcome) : Prop := match r with
  | none => oc = .returned none
  | some v => ∃ x, vr ads v x ∧ oc = .returned (some x)
/-- the facts of the state that go along: what the tables hold besides the words, and that all from here on may be written -/
def Xs (A : Nat → Prop) (s : State) : Prop := Xf s ∧ Xc s ∧ ∀ q, s.heap.size ≤ q → A q
def PcM (D : va_G) (A : Nat → Prop) (ads : List Nat) (h : List MC) (xs : List Value) : Array Value → State → Prop := va_Pc xs (fun U => Wd D A U U.heap ads h ∧ Xs A U)
def QcM (D : va_G) (A : Nat → Prop) (ads : List Nat) (hE : List MC) (r : Option MV) : Array Value → State → Outcome → State → Prop := fun _ st oc t => ∃ ads', (∃ l, ads' = ads ++ l) ∧ ro ads' r oc ∧ Wd D A t t.heap ads' hE ∧ va_F A st t
theorem PcM_blind {D : va_G} {A : Nat → Prop} {ads : List Nat} {h : List MC} {xs : List Value} : FrameBlind (PcM D A ads h xs) := by
  intro a U g mk q
  obtain ⟨q0, qW, q1, q2, q3⟩ := q
  exact ⟨q0, Wd_moved (u := U) (U := U.calling g mk a) (Vm.Alike.refl U.vm) qW, Xf_same (u := U) (U := U.calling g mk a) rfl q1, Xc_same (u := U) (U := U.calling g mk a) rfl q2, q3⟩
theorem PcM_at {D : va_G} {A : Nat → Prop} {ads : List Nat} {h : List MC} {xs : List Value} {s : State} {H : Heap} {locs : List Loc} (hW : Wd D A s H ads h) (hf : Xf s) (hc : Xc s) (hA : ∀ q, s.heap.size ≤ q → A q) (hS : va_S A s.heap H locs) : ∀ U : State, U.heap = H → s.WarmedH U.vm → PcM D A ads h xs xs.toArray U := by
  intro U hU hw
  exact ⟨rfl, by rw [hU]; exact Wd_moved hw.alike hW, Xf_warm hw hf, Xc_warm hw hc, fun q hq => hA q (by rw [hU] at hq; exact Nat.le_trans hS.1 hq)⟩
theorem lva_mem {ads : List Nat} : ∀ {vs : List MV} {xs : List Value} {i k : Nat} {v : MV}, vrs ads vs xs → vs[i]? = some v → ∃ x, vr ads v x ∧ (k + i, x) ∈ lv_args k xs
  | [], [], _, _, _, _, h => by simp at h
  | _ :: _, x :: xs, 0, k, _, hr, h => by simp at h; subst h; exact ⟨x, hr.1, by simp [lv_args]⟩
  | _ :: vs, x :: xs, i + 1, k, v, hr, h => by
    simp at h
    obtain ⟨y, h1, h2⟩ := lva_mem (k := k + 1) hr.2 h
    refine ⟨y, h1, ?_⟩
    have hc := vr_cat hr.1
    simp only [lv_args, hc, show ¬ (1 = 2) by decide, if_false]
    exact List.mem_cons_of_mem _ (by rw [show k + (i + 1) = k + 1 + i by omega]; exact h2)
  | [], _ :: _, _, _, _, h, _ => h.elim
  | _ :: _, [], _, _, _, h, _ => h.elim
theorem lgs_len {ads : List Nat} : ∀ {vs : List MV} {xs : List Value}, vrs ads vs xs → (lg_sl xs).length = vs.length
  | [], [], _ => rfl
  | _ :: vs, x :: xs, h => by
    have hc := vr_cat h.1
    have := lgs_len h.2
    simp only [lg_sl] at this
    simp only [lg_sl, List.flatMap_cons, hc, show ¬ (1 = 2) by decide, if_false, List.length_append, List.length_cons, List.length_nil, this]
    omega
  | [], _ :: _, h => h.elim
  | _ :: _, [], h => h.elim
theorem Lr_entry {ads : List Nat} {vs : List MV} {xs : List Value} {n : Nat} (h : vrs ads vs xs) (hn : vs.length ≤ n) : Lr ads (vs.map some ++ List.replicate (n - vs.length) none) ((lg_sl xs ++ List.replicate (n - (lg_sl xs).length) Slot.unset).toArray) n := by
  have hl := lgs_len h
  have he := lv_entry xs (n := n) (by omega)
  refine ⟨by simp; omega, he.1, he.2.1, fun i v hv => ?_⟩
  by_cases hi : i < vs.length
  · rw [List.getElem?_append_left (by simpa using hi)] at hv
    simp only [List.getElem?_map, Option.map_eq_some_iff] at hv
    obtain ⟨w, hw, hw2⟩ := hv
    cases hw2
    obtain ⟨x, h1, h2⟩ := lva_mem (k := 0) h hw
    exact ⟨x, h1, by simpa using he.2.2 _ h2⟩
  · rw [List.getElem?_append_right (by simp; omega)] at hv
    simp only [List.getElem?_replicate] at hv
    split at hv <;> cases hv
section S6
variable {p : Program} {l : Launch} {e : Env} {R : Room} {s : State} {m : MethodId} {args : Array Value} {below : List Frame} {meth : Method} {c : Code} {H : Heap} {locs : List Loc} {cells slots : Nat} {Q : State → Prop} {cc : ByteArray} {pc : Nat} {ls : Array Slot} {ads : List Nat} {D : va_G} {A : Nat → Prop} {own : Nat} {h : List MC}
/-- behind a call -/
theorem s_run {mc ms : Nat} {hE : List MC} {r : Option MV} {as : Array Value} {rest : List MV} {st0 rest0 : List Value} (hr : va_Run p l e R s m args below meth c H locs cells slots mc ms (F0 m pc ls st0) rest0 (QcM D A ads hE r as) A) (hS : va_S A s.heap H locs) (hrest : vrs ads rest rest0)
    (kk : ∀ (H1 : Heap) (locs1 : List Loc) (ads' : List Nat) (st1 : List Value), (∃ l, ads' = ads ++ l) → Wd D A s H1 ads' hE → va_S A s.heap H1 locs1 → vrs ads' (r.toList ++ rest) st1 → W p l e R s m args below meth c H1 locs1 (cells + mc) (slots + ms) Q (F0 m (pc + 3) ls st1)) : W p l e R s m args below meth c H locs cells slots Q (F0 m pc ls st0) := by
  intro T hT X
  obtain ⟨v, st₀, t, T', L, h0, X', hL, e1, e2, ⟨ads', ⟨la, rfl⟩, hro, hWd, hz, hk⟩, st⟩ := hr T hT X
  rw [h0] at hz hk
  have hal : s.vm.Alike t.vm := by rw [← e2]; exact X'.warmed.alike
  have hv : vrs (ads ++ la) (r.toList ++ rest) (v.toList ++ rest0) := by
    match r, hro with
    | none, hro => cases hro; exact vrs_mono hrest
    | some w, ⟨x, hx, hro⟩ => cases hro; exact ⟨hx, vrs_mono hrest⟩
  obtain ⟨t2, a1, b1⟩ := kk T'.heap (locs ++ L) (ads ++ la) (v.toList ++ rest0) ⟨la, rfl⟩ (by rw [e1]; exact Wd_moved hal.symm hWd)
    ⟨Nat.le_trans hS.1 (by rw [e1]; exact hz), fun q h1 h2 => by rw [e1, hk q (Nat.lt_of_lt_of_le h1 hS.1) h2]; exact hS.2.1 q h1 h2, fun q hq => by
      rcases List.mem_append.mp hq with h | h
      · exact hS.2.2 q h
      · exact hL q h⟩ hv T' rfl X'
  exact ⟨t2, st t2 a1, b1⟩
theorem wsM_good {q : MM} {M : Nat} (hq : mmt[M]? = some q) : GoodIn lw_g (wsM q) := gtbl (fun w hw => by
  rcases List.mem_cons.mp hw with rfl | h
  · exact (fm hq).1
  · exact h)
set_option maxHeartbeats 4000000 in
/-- a call of a method with code -/
theorem sim_cal {mL d M' d' : Nat} {as rest : List MV} {q : MM} {mc ms : Nat} {hE : List MC} {r : Option MV} (he : p.tables.exec = Jvm.exec) (hb : c.code = cc) (hml : c.maxLocals = mL) (hown : s.vm.findClass (mon own) = some m.cls) (hts : ∀ w ∈ lw_g, w.before args s = true) (hXf : Xf s) (hXc : Xc s) (hA : ∀ q, s.heap.size ≤ q → A q) (hfr : d ≤ R.frames) (hlo : 41 * d ≤ R.locals)
    {ml : List (Option MV)} {st : List MV} {st0 : List Value} {ig : Instr} {len : Nat} (hdg : decode cc pc = .ok (ig, len)) (hcal : mcal own d ig len st h = some (M', d', as, rest)) (hq : mmt[M']? = some q) (hW : Wd D A s H ads h) (hS : va_S A s.heap H locs) (hL : Lr ads ml ls mL) (hst : vrs ads st st0)
    (hM : ∀ xs, vrs ads as xs → as.length ≤ q.2.2.1 → Met l q.1 (wsM q) (rmD d' mc ms) (PcM D A ads h xs) (QcM D A ads hE r) mc ms A) (hrc : cells + mc ≤ R.cells) (hrs : slots + ms ≤ R.slots)
    (kk : ∀ (H1 : Heap) (locs1 : List Loc) (ads' : List Nat) (st1 : List Value), (∃ l, ads' = ads ++ l) → Wd D A s H1 ads' hE → va_S A s.heap H1 locs1 → vrs ads' (r.toList ++ rest) st1 → W p l e R s m args below meth c H1 locs1 (cells + mc) (slots + ms) Q (F0 m (pc + 3) ls st1)) : W p l e R s m args below meth c H locs cells slots Q (F0 m pc ls st0) := by
  obtain ⟨f1, f2, f3, f4⟩ := fm hq
  have hgood := wsM_good hq
  unfold mcal mcalG at hcal
  split at hcal
  · next i =>
    split at hcal
    · next M2 d2 hk =>
      split at hcal
      · next q2 hq2 =>
        split at hcal
        · next b rs hdrop =>
          split at hcal
          · next t us hcb =>
            split at hcal
            · next hl =>
              obtain ⟨rfl, ht, ho12, hrl, hkL, hL22⟩ := hl
              cases hcal
              cases hq.symm.trans hq2
              obtain ⟨sa, sb⟩ := vrs_split q.2.2.2.2.2 hst
              rw [hdrop] at sb
              obtain ⟨qb, r0, hst2, hqb, hr0⟩ := vrs_r sb
              obtain ⟨pp, hpp⟩ := fl hk
              simp only [ckL, hq, show ¬ (0 = 3) by decide, show ¬ (0 = 4) by decide, show ¬ (0 = 7) by decide, show ¬ (0 = 8) by decide, if_true, if_false, Bool.and_eq_true] at hpp
              obtain ⟨⟨⟨g1, g2⟩, g3⟩, g4⟩ := hpp
              have hxs : vrs ads (.inr (some b) :: (st.take q.2.2.2.2.2).reverse) (.ref qb :: (st0.take q.2.2.2.2.2).reverse) := ⟨⟨qb, hqb, rfl⟩, vrs_rev sa⟩
              have hlen : (st.take q.2.2.2.2.2).length = q.2.2.2.2.2 := by
                have : (st.drop q.2.2.2.2.2).length ≠ 0 := by rw [hdrop]; simp
                simp at this ⊢
                omega
              have hMet := hM _ hxs (by simp only [List.length_cons, List.length_reverse, hlen]; omega)
              have hW' := hW
              obtain ⟨ws, tys, h1, h2, h3, hP, hD, hK, h7⟩ := hW
              obtain ⟨eb, hwb⟩ := wd_cell h1 h2 hqb hcb
              subst ht
              obtain ⟨fs, hfe, -⟩ := ec_obj (h3 b _ _ hcb hwb)
              simp only at hfe
              subst hfe
              have hcl : ∃ rc, mcl[q.2.2.2.2.1]? = some rc ∧ rc.1 = q.1.cls := by
                have hz : (mcl.map (·.1)) = mown.take 12 := by decide +kernel
                have hl12 : mcl.length = 12 := by decide +kernel
                have hlt : q.2.2.2.2.1 < mcl.length := by rw [hl12]; exact ho12
                refine ⟨mcl[q.2.2.2.2.1], List.getElem?_eq_getElem hlt, ?_⟩
                have h9 : (mcl.map (·.1))[q.2.2.2.2.1]? = some (mcl[q.2.2.2.2.1]).1 := by simp [hlt]
                rw [hz, List.getElem?_take_of_lt ho12] at h9
                rw [← f4]
                simp [mon, List.getD, h9]
              obtain ⟨rc, hrc1, hrc2⟩ := hcl
              have hrecv := va_recv hK hP hrc1 hwb
              rw [hrc2] at hrecv
              refine s_run (va_runV (Ts := lw_g) (own := mon own) (C := q.1.cls) (As := (st0.take q.2.2.2.2.2).reverse) (rest := r0) (n := q.2.2.2.2.2) ⟨he, hb, hml, hown, hts⟩ hMet ⟨callB_of q.2.2.2.2.2 hts hgood rfl rfl rfl (hts _ (wat_mem g4)) (hts _ (wat_mem g1)) f3 ⟨?_, ?_⟩, hts _ (wat_mem g2), hts _ (wat_mem g3)⟩ ⟨PcM_blind, hrecv, PcM_at hW' hXf hXc hA hS⟩ rfl ?_ hL.2.1 ?_ ?_ hdg ⟨hrc, hrs⟩) hS hr0 kk
              · show d' + 1 ≤ R.frames; exact hfr
              · show 8 + (q.2.2.1 + 11) + 41 * d' ≤ R.locals; omega
              · rw [List.length_reverse, vrs_len sa]; exact hlen
              · rw [List.reverse_reverse, ← hst2, List.take_append_drop]
              · exact lv_room (by rw [vrs_cat hr0]; exact hrl)
            · cases hcal
          · cases hcal
        · cases hcal
      · cases hcal
    · cases hcal
  · next i =>
    split at hcal
    · next kd M2 d2 hk =>
      split at hcal
      · next q2 hq2 =>
        split at hcal
        · next hl =>
          obtain ⟨rfl, hkd, hkl, hrl, hkL, hL22⟩ := hl
          cases hcal
          cases hq.symm.trans hq2
          obtain ⟨sa, sb⟩ := vrs_split q.2.2.2.2.2 hst
          obtain ⟨pp, hpp⟩ := fl hk
          have hlen : (st.take q.2.2.2.2.2).length = q.2.2.2.2.2 := by rw [List.length_take]; omega
          have hMet := hM _ (vrs_rev sa) (by rw [List.length_reverse, hlen]; exact hkL)
          have hR1 : (rmD d' mc ms).frames + 1 ≤ R.frames := hfr
          have hR2 : 8 + (q.2.2.1 + 11) + (rmD d' mc ms).locals ≤ R.locals := by show 8 + (q.2.2.1 + 11) + 41 * d' ≤ R.locals; omega
          have hAs : ((st0.take q.2.2.2.2.2).reverse).length = q.2.2.2.2.2 := by rw [List.length_reverse, vrs_len sa]; exact hlen
          have hsk : st0 = ((st0.take q.2.2.2.2.2).reverse).reverse ++ st0.drop q.2.2.2.2.2 := by rw [List.reverse_reverse, List.take_append_drop]
          rcases hkd with hkd | hkd
          · subst hkd
            simp only [ckL, hq, show ¬ (1 = 3) by decide, show ¬ (1 = 4) by decide, show ¬ (1 = 7) by decide, show ¬ (1 = 8) by decide, show ¬ (1 = 0) by decide, if_true, if_false, Bool.and_eq_true] at hpp
            obtain ⟨⟨g1, g2⟩, g4⟩ := hpp
            exact s_run (va_runS (Ts := lw_g) (own := mon own) (As := (st0.take q.2.2.2.2.2).reverse) (rest := st0.drop q.2.2.2.2.2) (n := q.2.2.2.2.2) ⟨he, hb, hml, hown, hts⟩ hMet ⟨callB_of q.2.2.2.2.2 hts hgood rfl rfl rfl (hts _ (wat_mem g4)) (hts _ (wat_mem g1)) f3 ⟨hR1, hR2⟩, hts _ (wat_mem g2)⟩ ⟨PcM_blind, PcM_at hW hXf hXc hA hS⟩ rfl hAs hL.2.1 hsk (lv_room (by rw [vrs_cat sb]; exact hrl)) hdg ⟨hrc, hrs⟩) hS sb kk
          · subst hkd
            have hnest := hXf.2 own i 5 M' q hk (Or.inl rfl) hq
            simp only [ckL, hq, show ¬ (5 = 3) by decide, show ¬ (5 = 4) by decide, show ¬ (5 = 7) by decide, show ¬ (5 = 8) by decide, show ¬ (5 = 0) by decide, show ¬ (5 = 1) by decide, show ¬ (5 = 2) by decide, if_true, if_false, Bool.and_eq_true] at hpp
            obtain ⟨⟨g1, g2⟩, g4⟩ := hpp
            exact s_run (va_runSN (Ts := lw_g) (own := mon own) (As := (st0.take q.2.2.2.2.2).reverse) (rest := st0.drop q.2.2.2.2.2) (n := q.2.2.2.2.2) ⟨he, hb, hml, hown, hts⟩ hMet ⟨va_cnB q.2.2.2.2.2 hts hgood rfl rfl rfl hnest (hts _ (wat_mem g4)) f3 ⟨hR1, hR2⟩, hts _ (wat_mem g2), trivial⟩ ⟨PcM_blind, PcM_at hW hXf hXc hA hS⟩ rfl hAs hL.2.1 hsk (lv_room (by rw [vrs_cat sb]; exact hrl)) hdg ⟨hrc, hrs⟩) hS sb kk
        · cases hcal
      · cases hcal
    · cases hcal
  · next i =>
    split at hcal
    · next kd M2 d2 hk =>
      split at hcal
      · next q2 hq2 =>
        split at hcal
        · next b rs hdrop =>
          split at hcal
          · next hl =>
            obtain ⟨rfl, hkd, hrl, hkL, hL22, hnone⟩ := hl
            cases hcal
            cases hq.symm.trans hq2
            obtain ⟨sa, sb⟩ := vrs_split q.2.2.2.2.2 hst
            rw [hdrop] at sb
            obtain ⟨qb, r0, hst2, hqb, hr0⟩ := vrs_r sb
            obtain ⟨pp, hpp⟩ := fl hk
            have hxs : vrs ads (.inr (some b) :: (st.take q.2.2.2.2.2).reverse) (.ref qb :: (st0.take q.2.2.2.2.2).reverse) := ⟨⟨qb, hqb, rfl⟩, vrs_rev sa⟩
            have hlen : (st.take q.2.2.2.2.2).length = q.2.2.2.2.2 := by
              have : (st.drop q.2.2.2.2.2).length ≠ 0 := by rw [hdrop]; simp
              simp at this ⊢
              omega
            have hMet := hM _ hxs (by simp only [List.length_cons, List.length_reverse, hlen]; omega)
            have hwq : wsM q = Cond.code q.1 q.2.1 q.2.2.1 none :: lw_g := by unfold wsM; rw [hnone]
            have hR1 : (rmD d' mc ms).frames + 1 ≤ R.frames := hfr
            have hR2 : 8 + (q.2.2.1 + 11) + (rmD d' mc ms).locals ≤ R.locals := by show 8 + (q.2.2.1 + 11) + 41 * d' ≤ R.locals; omega
            have hAs : ((st0.take q.2.2.2.2.2).reverse).length = q.2.2.2.2.2 := by rw [List.length_reverse, vrs_len sa]; exact hlen
            have hsk : st0 = ((st0.take q.2.2.2.2.2).reverse).reverse ++ .ref qb :: r0 := by rw [List.reverse_reverse, ← hst2, List.take_append_drop]
            rcases hkd with hkd | hkd
            · subst hkd
              simp only [ckL, hq, show ¬ (2 = 3) by decide, show ¬ (2 = 4) by decide, show ¬ (2 = 7) by decide, show ¬ (2 = 8) by decide, show ¬ (2 = 0) by decide, show ¬ (2 = 1) by decide, if_true, if_false, Bool.and_eq_true, decide_eq_true_eq] at hpp
              obtain ⟨⟨⟨g1, g2⟩, g4⟩, g5⟩ := hpp
              exact s_run (va_runI (Ts := lw_g) (own := mon own) (As := (st0.take q.2.2.2.2.2).reverse) (rest := r0) (n := q.2.2.2.2.2) ⟨he, hb, hml, hown, hts⟩ hMet ⟨callB_of q.2.2.2.2.2 hts hgood hwq rfl rfl (hts _ (wat_mem g4)) (hts _ (wat_mem g1)) f3 ⟨hR1, hR2⟩, g5, hts _ (wat_mem g2)⟩ ⟨PcM_blind, PcM_at hW hXf hXc hA hS⟩ rfl hAs hL.2.1 hsk (lv_room (by rw [vrs_cat hr0]; exact hrl)) hdg ⟨hrc, hrs⟩) hS hr0 kk
            · subst hkd
              have hnest := hXf.2 own i 6 M' q hk (Or.inr rfl) hq
              simp only [ckL, hq, show ¬ (6 = 3) by decide, show ¬ (6 = 4) by decide, show ¬ (6 = 7) by decide, show ¬ (6 = 8) by decide, show ¬ (6 = 0) by decide, show ¬ (6 = 1) by decide, show ¬ (6 = 2) by decide, show ¬ (6 = 5) by decide, if_true, if_false, Bool.and_eq_true, decide_eq_true_eq] at hpp
              obtain ⟨⟨⟨g1, g2⟩, g4⟩, g5⟩ := hpp
              exact s_run (va_runIN (Ts := lw_g) (own := mon own) (As := (st0.take q.2.2.2.2.2).reverse) (rest := r0) (n := q.2.2.2.2.2) ⟨he, hb, hml, hown, hts⟩ hMet ⟨va_cnB q.2.2.2.2.2 hts hgood hwq rfl rfl hnest (hts _ (wat_mem g4)) f3 ⟨hR1, hR2⟩, g5, hts _ (wat_mem g2)⟩ ⟨PcM_blind, PcM_at hW hXf hXc hA hS⟩ rfl hAs hL.2.1 hsk (lv_room (by rw [vrs_cat hr0]; exact hrl)) hdg ⟨hrc, hrs⟩) hS hr0 kk
          · cases hcal
        · cases hcal
      · cases hcal
    · cases hcal
  · cases hcal
end S6
end
section
/-! THE SIMULATION -/
theorem hm_e {d1 : List Nat} {ads0 ads ads' : List Nat} (h : ∃ l, ads = ads0 ++ l) (h2 : ∃ l, ads' = ads ++ l) : ∃ l, ads' = ads0 ++ l := by
  obtain ⟨a, rfl⟩ := h
  obtain ⟨b, rfl⟩ := h2
  exact ⟨a ++ b, by rw [List.append_assoc]⟩
/-- what a run of n steps at most is owed: from any place of an activation -/
def Sim (n : Nat) : Prop := ∀ (d M pc : Nat) (ml : List (Option MV)) (st : List MV) (h hE : List MC) (r : Option MV) (q : MM), mmt[M]? = some q → mx n d M pc ml st h = some (r, hE) →
  ∀ (p : Program) (l : Launch) (e : Env) (R : Room) (s : State) (m : MethodId) (args : Array Value) (below : List Frame) (meth : Method) (c : Code) (H : Heap) (locs : List Loc) (cells slots : Nat) (ads0 ads : List Nat) (D : va_G) (A : Nat → Prop) (ls : Array Slot) (st0 : List Value) (c0 s0 mc ms : Nat),
    p.tables.exec = Jvm.exec → c.code = q.2.1 → c.maxLocals = q.2.2.1 → meth.sig.returnType = q.2.2.2.1 → meth.locks = false → s.vm.findClass (mon q.2.2.2.2.1) = some m.cls → (∀ w ∈ lw_g, w.before args s = true) → meth.name = q.1.name → Xf s → Xc s → (∀ q, s.heap.size ≤ q → A q) →
    d ≤ R.frames → 41 * d ≤ R.locals → mc ≤ R.cells → ms ≤ R.slots → (∃ l, ads = ads0 ++ l) → Wd D A s H ads h → va_S A s.heap H locs → Lr ads ml ls q.2.2.1 → vrs ads st st0 →
    h.length = c0 + cells → mslots h = s0 + slots → hE.length = c0 + mc → mslots hE = s0 + ms →
    W p l e R s m args below meth c H locs cells slots (MQ below (QcM D A ads0 hE r) args s mc ms A) (F0 m pc ls st0)
/-- a run is a contract -/
theorem met_of {n : Nat} (hS : Sim n) {d M : Nat} {as : List MV} {h hE : List MC} {r : Option MV} {q : MM} (hq : mmt[M]? = some q) (hmx : mx n d M 0 (as.map some ++ List.replicate (q.2.2.1 - as.length) none) [] h = some (r, hE)) (l : Launch) (D : va_G) (A : Nat → Prop) (ads : List Nat) (xs : List Value) (hxs : vrs ads as xs) (hlen : as.length ≤ q.2.2.1) :
    Met l q.1 (wsM q) (rmD d (hE.length - h.length) (mslots hE - mslots h)) (PcM D A ads h xs) (QcM D A ads hE r) (hE.length - h.length) (mslots hE - mslots h) A := by
  obtain ⟨f1, f2, f3, f4⟩ := fm hq
  have hmono : hle h hE := mx_mono hmx
  refine Met.ofW (cc := q.2.1) (maxL := q.2.2.1) (ret := q.2.2.2.1) f2 rfl ?_
  intro p e s m args below meth c s₁ B hml hv
  obtain ⟨rfl, hW, hXf, hXc, hA⟩ := hv
  have hts : ∀ w ∈ lw_g, w.before xs.toArray s = true := fun w hw => atoms_spec (ws := wsM q) B.pre w (List.mem_cons_of_mem _ hw)
  have hown : s.vm.findClass (mon q.2.2.2.2.1) = some m.cls := by rw [f4]; exact findClass_of_methodNamed B.named
  rw [lg_entry_eq]
  exact hS d M 0 _ [] h hE r q hq hmx p l e _ s m xs.toArray below meth c s.heap [] 0 0 ads ads D A _ [] h.length (mslots h) _ _ B.exec B.bytes hml B.returns B.notSynchronized hown hts (name_of_methodNamed B.named B.method).1 hXf hXc hA (Nat.le_refl _) (Nat.le_refl _) (Nat.le_refl _) (Nat.le_refl _) ⟨[], by simp⟩ hW va_S.rf (Lr_entry hxs hlen) trivial rfl rfl (by have := hmono.1; omega) (by have := hmono.2; omega)
set_option maxHeartbeats 4000000 in
theorem sim_all : ∀ n, Sim n
  | 0 => by intro d M pc ml st h hE r q hq hmx; simp [mx] at hmx
  | n + 1 => by
    have ih := sim_all n
    intro d M pc ml st h hE r q hq hmx p l e R s m args below meth c H locs cells slots ads0 ads D A ls st0 c0 s0 mc ms he hb hml hret hlk hown hts hname hXf hXc hA hfr hlo hmc hms hads hW hS hL hst hc1 hc2 hc3 hc4
    have hmono := mx_mono hmx
    simp only [hle] at hmono
    unfold mx at hmx
    rw [hq] at hmx
    simp only at hmx
    split at hmx
    · cases hmx
    · next ig len hdg =>
      split at hmx
      · next r2 hr2 =>
        cases hmx
        have e1 : cells = mc := by omega
        have e2 : slots = ms := by omega
        subst e1
        subst e2
        have hfree : ∀ q ∈ locs, A q.base := hS.2.2
        unfold mret at hr2
        split at hr2
        · split at hr2
          · next v ty hty =>
            split at hr2
            · next hl =>
              obtain ⟨rfl, hfit⟩ := hl
              cases hr2
              obtain ⟨r0, rfl, hr0⟩ := vrs_i hst
              match r0, hr0 with
              | [], _ => exact W.zret he hb (hret.trans (by assumption)) (mfit_ok (ads := ads) hfit rfl).1 (fun t ht hw => ⟨ads, hads, ⟨_, rfl, rfl⟩, by rw [ht]; exact Wd_moved hw.alike hW, hS.F ht⟩) hfree hdg
            · cases hr2
          · cases hr2
        · split at hr2
          · next v ty hty =>
            split at hr2
            · next hl =>
              obtain ⟨rfl, hfit⟩ := hl
              cases hr2
              obtain ⟨x, r0, rfl, hx, hr0⟩ := vrs_v hst
              match r0, hr0 with
              | [], _ =>
                have hrt : (∃ n, ty = .object n) ∨ ∃ t, ty = .array t := by
                  cases ty <;> first | exact Or.inl ⟨_, rfl⟩ | exact Or.inr ⟨_, rfl⟩ | (simp [mfit] at hfit)
                exact W.aret he hb (hret.trans (by assumption)) hrt (vr_nr hx) (fun t ht hw => ⟨ads, hads, ⟨_, hx, rfl⟩, by rw [ht]; exact Wd_moved hw.alike hW, hS.F ht⟩) hfree hdg
            · cases hr2
          · cases hr2
        · split at hr2
          · next hty =>
            split at hr2
            · next hl =>
              subst hl
              cases hr2
              match st0, hst with
              | [], _ => exact W.vret he hb (hret.trans (by assumption)) (fun t ht hw => ⟨ads, hads, rfl, by rw [ht]; exact Wd_moved hw.alike hW, hS.F ht⟩) hfree hdg
            · cases hr2
          · cases hr2
        · cases hr2
      · split at hmx
        · next M' d' as rest hcal =>
          split at hmx
          · cases hmx
          · next q' hq' =>
            obtain ⟨⟨r1, h1⟩, hm1, hm2⟩ := Option.bind_eq_some_iff.mp hmx
            simp only at hm2
            have mo1 := mx_mono hm1
            have mo2 := mx_mono hm2
            simp only [hle] at mo1 mo2
            refine sim_cal (d := d) (mc := h1.length - h.length) (ms := mslots h1 - mslots h) (hE := h1) (r := r1) he hb hml hown hts hXf hXc hA hfr hlo hdg hcal hq' hW hS hL hst (fun xs hxs hlen => met_of ih hq' hm1 l D A ads xs hxs hlen) (by omega) (by omega) fun H1 locs1 ads' st1 ha hW1 hS1 hst1 => ?_
            obtain ⟨la, rfl⟩ := ha
            exact ih d M (pc + 3) ml (r1.toList ++ rest) h1 hE r q hq hm2 p l e R s m args below meth c H1 locs1 _ _ ads0 (ads ++ la) D A ls st1 c0 s0 mc ms he hb hml hret hlk hown hts hname hXf hXc hA hfr hlo hmc hms (hm_e (d1 := []) hads ⟨la, rfl⟩) hW1 hS1 (Lr_mono hL) hst1 (by omega) (by omega) hc3 hc4
        · split at hmx
          · next u hu =>
            have mo1 := mnat_mono hu
            have mo2 := mx_mono hmx
            simp only [hle] at mo1 mo2
            refine sim_nat (d := d) he hb hml hown hts hXc hA hfr hlo hdg hu hW hS hL hst (by omega) (by omega) fun H' locs' ls' st1 ads' c' s' ha hW1 hS1 hL1 hst1 e1 e2 => ?_
            exact ih d M u.1 u.2.1 u.2.2.1 u.2.2.2 hE r q hq hmx p l e R s m args below meth c H' locs' c' s' ads0 ads' D A ls' st1 c0 s0 mc ms he hb hml hret hlk hown hts hname hXf hXc hA hfr hlo hmc hms (hm_e (d1 := []) hads ha) hW1 hS1 hL1 hst1 (by omega) (by omega) hc3 hc4
          · split at hmx
            · next u hu =>
              have mo1 := mps_mono hu
              have mo2 := mx_mono hmx
              simp only [hle] at mo1 mo2
              refine sim_ps he hb hown hts (fun hz => by rw [hname]; simpa using hz) hXf hA hdg hu hW hS hL hst (by omega) (by omega) fun H' locs' ls' st1 ads' c' s' ha hW1 hS1 hL1 hst1 e1 e2 => ?_
              exact ih d M u.1 u.2.1 u.2.2.1 u.2.2.2 hE r q hq hmx p l e R s m args below meth c H' locs' c' s' ads0 ads' D A ls' st1 c0 s0 mc ms he hb hml hret hlk hown hts hname hXf hXc hA hfr hlo hmc hms (hm_e (d1 := []) hads ha) hW1 hS1 hL1 hst1 (by omega) (by omega) hc3 hc4
            · cases hmx
/-- EVERY RUN OF THE SMALL MACHINE IS A CONTRACT OF THE MACHINE -/
theorem met_run {n d M : Nat} {as : List MV} {h hE : List MC} {r : Option MV} {q : MM} (hq : mmt[M]? = some q) (hmx : mx n d M 0 (as.map some ++ List.replicate (q.2.2.1 - as.length) none) [] h = some (r, hE)) (l : Launch) (D : va_G) (A : Nat → Prop) (ads : List Nat) (xs : List Value) (hxs : vrs ads as xs) (hlen : as.length ≤ q.2.2.1) :
    Met l q.1 (wsM q) (rmD d (hE.length - h.length) (mslots hE - mslots h)) (PcM D A ads h xs) (QcM D A ads hE r) (hE.length - h.length) (mslots hE - mslots h) A :=
  met_of (sim_all n) hq hmx l D A ads xs hxs hlen
end
section
/-! HOW MANY CELLS A CALL MAKES AT LEAST, AND WHAT IT LEAVES ALONE -/
theorem nd_len : ∀ (n a : Nat) (l : List Nat), l.Nodup → (∀ q ∈ l, a ≤ q ∧ q < a + n) → l.length ≤ n
  | 0, a, l, _, h => by
    match l, h with
    | [], _ => exact Nat.le_refl _
    | q :: _, h => have := h q (by simp); omega
  | n + 1, a, l, hd, h => by
    by_cases hm : a + n ∈ l
    · have h1 := nd_len n a (l.erase (a + n)) (hd.erase _) (fun q hq => by
        have h2 := (hd.mem_erase_iff).mp hq
        have h3 := h q h2.2
        have h4 := h2.1
        omega)
      rw [List.length_erase_of_mem hm] at h1
      omega
    · have h1 := nd_len n a l hd (fun q hq => by
        have h3 := h q hq
        have h4 : q ≠ a + n := fun e => hm (e ▸ hq)
        omega)
      omega
theorem va_at_lt {D : va_G} {cl : List vw_C} {q : Nat × va_E} {H : Heap} (h : va_at D cl q H) : q.1 < H.size := by
  obtain ⟨a, e⟩ := q
  match e, h with
  | .inl a, h => exact (Array.getElem?_eq_some_iff.mp h).1
  | .inr o, h =>
    obtain ⟨r, -, cell, hc, -⟩ := h
    exact (Array.getElem?_eq_some_iff.mp hc).1
theorem va_at_kept {D : va_G} {cl : List vw_C} {q : Nat × va_E} {H H1 : Heap} (h : va_at D cl q H) (e : H1[q.1]? = H[q.1]?) : va_at D cl q H1 := by
  obtain ⟨a, e1⟩ := q
  match e1, h with
  | .inl a, h => exact e.trans h
  | .inr o, h =>
    obtain ⟨r, hr, ho⟩ := h
    exact ⟨r, hr, ho.kept e⟩
theorem Wd_in {D : va_G} {A : Nat → Prop} {s : State} {H : Heap} {ads : List Nat} {h : List MC} (w : Wd D A s H ads h) {q : Nat} (hq : q ∈ ads) : q < H.size ∧ A q := by
  obtain ⟨ws, tys, h1, h2, h3, h4, h5, h6, h7⟩ := w
  rw [← h1] at hq
  obtain ⟨x, hx, rfl⟩ := List.mem_map.mp hq
  obtain ⟨k, hk⟩ := List.mem_iff_getElem?.mp hx
  exact ⟨va_at_lt (h4 k x hk), h5.2 k x hk⟩
theorem Wd_kept {D : va_G} {A : Nat → Prop} {s : State} {H H1 : Heap} {ads : List Nat} {h : List MC} (w : Wd D A s H ads h) (e : ∀ q ∈ ads, H1[q]? = H[q]?) : Wd D A s H1 ads h := by
  obtain ⟨ws, tys, h1, h2, h3, h4, h5, h6, h7⟩ := w
  exact ⟨ws, tys, h1, h2, h3, fun k q hq => va_at_kept (h4 k q hq) (e q.1 (by rw [← h1]; exact List.mem_map_of_mem (List.mem_of_getElem? hq))), h5, h6, h7⟩
theorem Wd_A {D : va_G} {A A' : Nat → Prop} {s : State} {H : Heap} {ads : List Nat} {h : List MC} (w : Wd D A s H ads h) (hA : ∀ q ∈ ads, A' q) : Wd D A' s H ads h := by
  obtain ⟨ws, tys, h1, h2, h3, h4, h5, h6, h7⟩ := w
  exact ⟨ws, tys, h1, h2, h3, h4, ⟨h5.1, fun k q hq => hA q.1 (by rw [← h1]; exact List.mem_map_of_mem (List.mem_of_getElem? hq))⟩, h6, h7⟩
theorem Wd_nd {D : va_G} {A : Nat → Prop} {s : State} {H : Heap} {ads : List Nat} {h : List MC} (w : Wd D A s H ads h) : ads.Nodup := by
  obtain ⟨ws, tys, h1, h2, h3, h4, h5, h6, h7⟩ := w
  subst h1
  rw [List.Nodup, List.pairwise_iff_getElem]
  intro i j hi hj hij e
  simp only [List.length_map] at hi hj
  simp only [List.getElem_map] at e
  have := h5.1 i j _ _ (List.getElem?_eq_getElem hi) (List.getElem?_eq_getElem hj) e
  omega
theorem Wd_len {D : va_G} {A : Nat → Prop} {s : State} {H : Heap} {ads : List Nat} {h : List MC} (w : Wd D A s H ads h) : ads.length = h.length := by
  obtain ⟨ws, tys, h1, h2, -⟩ := w
  rw [← h1, List.length_map, h2]
theorem shv_0 (v : MV) : shv 0 v = v := by
  match v with
  | .inl i => rfl
  | .inr none => rfl
  | .inr (some a) => simp [shv]
theorem shc_0 (c : MC) : shc 0 c = c := by
  obtain ⟨t, vs⟩ := c
  simp only [shc]
  congr 1
  rw [show (shv 0) = id from funext shv_0, List.map_id]
/-- the cells behind are dropped -/
theorem Wd_drop {D : va_G} {A : Nat → Prop} {s : State} {H : Heap} {ads : List Nat} {g j : List MC} (w : Wd D A s H ads (g ++ j)) (hc : g.all (fun c => c.2.all (clv g.length)) = true) : Wd D A s H (ads.take g.length) g := by
  have h1 := Wd_pick (k := 0) (g := g) w (by rw [List.drop_zero, List.take_left, show (shc 0) = id from funext shc_0, List.map_id]) hc
  rwa [List.drop_zero] at h1
/-- what a call leaves: its world, all other cells as they were, its new cells new -/
def QcN (D : va_G) (A : Nat → Prop) (ads : List Nat) (h hE : List MC) (r : Option MV) : Array Value → State → Outcome → State → Prop := fun _ st oc t => ∃ la, ro (ads ++ la) r oc ∧ Wd D A t t.heap (ads ++ la) hE ∧ va_F A st t ∧ (∀ q, q < st.heap.size → q ∉ ads → t.heap[q]? = st.heap[q]?) ∧ (∀ q ∈ la, st.heap.size ≤ q) ∧ st.heap.size + (hE.length - h.length) ≤ t.heap.size
theorem met_runN {n d M : Nat} {as : List MV} {h hE : List MC} {r : Option MV} {q : MM} (hq : mmt[M]? = some q) (hmx : mx n d M 0 (as.map some ++ List.replicate (q.2.2.1 - as.length) none) [] h = some (r, hE)) (l : Launch) (D : va_G) (A : Nat → Prop) (ads : List Nat) (xs : List Value) (hxs : vrs ads as xs) (hlen : as.length ≤ q.2.2.1) :
    Met l q.1 (wsM q) (rmD d (hE.length - h.length) (mslots hE - mslots h)) (PcM D A ads h xs) (QcN D A ads h hE r) (hE.length - h.length) (mslots hE - mslots h) A := by
  intro p e ha hc hk s m args below hf happ hP hK
  obtain ⟨rfl, hW, hXf, hXc, hA⟩ := hP
  have hsub : ∀ q, (q ∈ ads ∨ s.heap.size ≤ q) → A q := fun q hq => hq.elim (fun h => (Wd_in hW h).2) (hA q)
  obtain ⟨k, o, h1, h2, h3, ⟨⟨ads', ⟨la, rfl⟩, hro, hWt, hF1, hF2⟩, L, hFE, hL⟩⟩ := met_run hq hmx l D (fun q => q ∈ ads ∨ s.heap.size ≤ q) ads xs hxs hlen p e ha hc hk s m xs.toArray below hf happ ⟨rfl, Wd_A hW (fun q hq => Or.inl hq), hXf, hXc, fun q hq => Or.inr hq⟩ hK
  have hlaN := List.nodup_append.mp (Wd_nd hWt)
  have hla : ∀ q ∈ la, s.heap.size ≤ q := fun q hq => by
    rcases (Wd_in hWt (List.mem_append_right _ hq)).2 with h | h
    · exact absurd rfl (hlaN.2.2 q h q hq)
    · exact h
  refine ⟨k, o, h1, h2, h3, ⟨⟨la, hro, Wd_A hWt (fun q hq => hsub q (Wd_in hWt hq).2), ⟨hF1, fun q hq hn => hF2 q hq (fun hq2 => hn (hsub q hq2))⟩, fun q hq hn => hF2 q hq (fun h => h.elim hn (fun h => by omega)), hla, ?_⟩, L, hFE, fun q hq => hsub _ (hL q hq)⟩⟩
  have hcard := nd_len _ s.heap.size la hlaN.2.1 (fun q hq => ⟨hla q hq, by
    have h9 := (Wd_in hWt (List.mem_append_right _ hq)).1
    exact Nat.lt_of_lt_of_le h9 (Nat.le_of_eq (Nat.add_sub_of_le hF1).symm)⟩)
  have e1 := Wd_len hWt
  have e2 := Wd_len hW
  rw [List.length_append] at e1
  omega
section S6
variable {p : Program} {l : Launch} {e : Env} {R : Room} {s : State} {m : MethodId} {args : Array Value} {below : List Frame} {meth : Method} {c : Code} {H : Heap} {locs : List Loc} {cells slots : Nat} {Q : State → Prop} {cc : ByteArray} {pc : Nat} {ls : Array Slot} {ads : List Nat} {D : va_G} {A : Nat → Prop} {own : Nat} {h : List MC}
/-- behind a call -/
theorem s_runN {mc ms : Nat} {hE : List MC} {r : Option MV} {as : Array Value} {rest : List MV} {st0 rest0 : List Value} (hr : va_Run p l e R s m args below meth c H locs cells slots mc ms (F0 m pc ls st0) rest0 (QcN D A ads h hE r as) A) (hS : va_S A s.heap H locs) (hrest : vrs ads rest rest0)
    (kk : ∀ (H1 : Heap) (locs1 : List Loc) (la : List Nat) (st1 : List Value), Wd D A s H1 (ads ++ la) hE → va_S A s.heap H1 locs1 → vrs (ads ++ la) (r.toList ++ rest) st1 → (∀ q, q < H.size → q ∉ ads → H1[q]? = H[q]?) → (∀ q ∈ la, H.size ≤ q) → H.size + (hE.length - h.length) ≤ H1.size → W p l e R s m args below meth c H1 locs1 (cells + mc) (slots + ms) Q (F0 m (pc + 3) ls st1)) : W p l e R s m args below meth c H locs cells slots Q (F0 m pc ls st0) := by
  intro T hT X
  obtain ⟨v, st₀, t, T', L, h0, X', hL, e1, e2, ⟨la, hro, hWd, ⟨hz, hk⟩, hkN, hla, hcnt⟩, st⟩ := hr T hT X
  rw [h0] at hz hk hkN hla hcnt
  have hal : s.vm.Alike t.vm := by rw [← e2]; exact X'.warmed.alike
  have hv : vrs (ads ++ la) (r.toList ++ rest) (v.toList ++ rest0) := by
    match r, hro with
    | none, hro => cases hro; exact vrs_mono hrest
    | some w, ⟨x, hx, hro⟩ => cases hro; exact ⟨hx, vrs_mono hrest⟩
  obtain ⟨t2, a1, b1⟩ := kk T'.heap (locs ++ L) la (v.toList ++ rest0) (by rw [e1]; exact Wd_moved hal.symm hWd)
    ⟨Nat.le_trans hS.1 (by rw [e1]; exact hz), fun q h1 h2 => by rw [e1, hk q (Nat.lt_of_lt_of_le h1 hS.1) h2]; exact hS.2.1 q h1 h2, fun q hq => by
      rcases List.mem_append.mp hq with h | h
      · exact hS.2.2 q h
      · exact hL q h⟩ hv (by rw [e1]; exact hkN) hla (by rw [e1]; exact hcnt) T' rfl X'
  exact ⟨t2, st t2 a1, b1⟩
set_option maxHeartbeats 4000000 in
/-- a call of a method with code, of an object -/
theorem sim_calN {mL d M' d' i : Nat} {as rest : List MV} {q : MM} {mc ms : Nat} {hE : List MC} {r : Option MV} (he : p.tables.exec = Jvm.exec) (hb : c.code = cc) (hml : c.maxLocals = mL) (hown : s.vm.findClass (mon own) = some m.cls) (hts : ∀ w ∈ lw_g, w.before args s = true) (hXf : Xf s) (hXc : Xc s) (hA : ∀ q, s.heap.size ≤ q → A q) (hfr : d ≤ R.frames) (hlo : 41 * d ≤ R.locals)
    {st : List MV} {st0 : List Value} (hdg : decode cc pc = .ok (.invokevirtual i, 3)) (hcal : mcal own d (.invokevirtual i) 3 st h = some (M', d', as, rest)) (hq : mmt[M']? = some q) (hW : Wd D A s H ads h) (hS : va_S A s.heap H locs) (hL : ls.size = mL) (hst : vrs ads st st0)
    (hM : ∀ xs, vrs ads as xs → as.length ≤ q.2.2.1 → Met l q.1 (wsM q) (rmD d' mc ms) (PcM D A ads h xs) (QcN D A ads h hE r) mc ms A) (hrc : cells + mc ≤ R.cells) (hrs : slots + ms ≤ R.slots)
    (kk : ∀ (H1 : Heap) (locs1 : List Loc) (la : List Nat) (st1 : List Value), Wd D A s H1 (ads ++ la) hE → va_S A s.heap H1 locs1 → vrs (ads ++ la) (r.toList ++ rest) st1 → (∀ q, q < H.size → q ∉ ads → H1[q]? = H[q]?) → (∀ q ∈ la, H.size ≤ q) → H.size + (hE.length - h.length) ≤ H1.size → W p l e R s m args below meth c H1 locs1 (cells + mc) (slots + ms) Q (F0 m (pc + 3) ls st1)) : W p l e R s m args below meth c H locs cells slots Q (F0 m pc ls st0) := by
  obtain ⟨f1, f2, f3, f4⟩ := fm hq
  have hgood := wsM_good hq
  simp only [mcal, mcalG] at hcal
  split at hcal
  · next M2 d2 hk =>
    split at hcal
    · next q2 hq2 =>
      split at hcal
      · next b rs hdrop =>
        split at hcal
        · next t us hcb =>
          split at hcal
          · next hl =>
            obtain ⟨-, ht, ho12, hrl, hkL, hL22⟩ := hl
            cases hcal
            cases hq.symm.trans hq2
            obtain ⟨sa, sb⟩ := vrs_split q.2.2.2.2.2 hst
            rw [hdrop] at sb
            obtain ⟨qb, r0, hst2, hqb, hr0⟩ := vrs_r sb
            obtain ⟨pp, hpp⟩ := fl hk
            simp only [ckL, hq, show ¬ (0 = 3) by decide, show ¬ (0 = 4) by decide, show ¬ (0 = 7) by decide, show ¬ (0 = 8) by decide, if_true, if_false, Bool.and_eq_true] at hpp
            obtain ⟨⟨⟨g1, g2⟩, g3⟩, g4⟩ := hpp
            have hxs : vrs ads (.inr (some b) :: (st.take q.2.2.2.2.2).reverse) (.ref qb :: (st0.take q.2.2.2.2.2).reverse) := ⟨⟨qb, hqb, rfl⟩, vrs_rev sa⟩
            have hlen : (st.take q.2.2.2.2.2).length = q.2.2.2.2.2 := by
              have : (st.drop q.2.2.2.2.2).length ≠ 0 := by rw [hdrop]; simp
              simp at this ⊢
              omega
            have hMet := hM _ hxs (by simp only [List.length_cons, List.length_reverse, hlen]; omega)
            have hW' := hW
            obtain ⟨ws, tys, h1, h2, h3, hP, hD, hK, h7⟩ := hW
            obtain ⟨eb, hwb⟩ := wd_cell h1 h2 hqb hcb
            subst ht
            obtain ⟨fs, hfe, -⟩ := ec_obj (h3 b _ _ hcb hwb)
            simp only at hfe
            subst hfe
            have hcl : ∃ rc, mcl[q.2.2.2.2.1]? = some rc ∧ rc.1 = q.1.cls := by
              have hz : (mcl.map (·.1)) = mown.take 12 := by decide +kernel
              have hl12 : mcl.length = 12 := by decide +kernel
              have hlt : q.2.2.2.2.1 < mcl.length := by rw [hl12]; exact ho12
              refine ⟨mcl[q.2.2.2.2.1], List.getElem?_eq_getElem hlt, ?_⟩
              have h9 : (mcl.map (·.1))[q.2.2.2.2.1]? = some (mcl[q.2.2.2.2.1]).1 := by simp [hlt]
              rw [hz, List.getElem?_take_of_lt ho12] at h9
              rw [← f4]
              simp [mon, List.getD, h9]
            obtain ⟨rc, hrc1, hrc2⟩ := hcl
            have hrecv := va_recv hK hP hrc1 hwb
            rw [hrc2] at hrecv
            refine s_runN (va_runV (Ts := lw_g) (own := mon own) (C := q.1.cls) (As := (st0.take q.2.2.2.2.2).reverse) (rest := r0) (n := q.2.2.2.2.2) ⟨he, hb, hml, hown, hts⟩ hMet ⟨callB_of q.2.2.2.2.2 hts hgood rfl rfl rfl (hts _ (wat_mem g4)) (hts _ (wat_mem g1)) f3 ⟨?_, ?_⟩, hts _ (wat_mem g2), hts _ (wat_mem g3)⟩ ⟨PcM_blind, hrecv, PcM_at hW' hXf hXc hA hS⟩ rfl ?_ hL ?_ ?_ hdg ⟨hrc, hrs⟩) hS hr0 kk
            · show d' + 1 ≤ R.frames; exact hfr
            · show 8 + (q.2.2.1 + 11) + 41 * d' ≤ R.locals; omega
            · rw [List.length_reverse, vrs_len sa]; exact hlen
            · rw [List.reverse_reverse, ← hst2, List.take_append_drop]
            · exact lv_room (by rw [vrs_cat hr0]; exact hrl)
          · cases hcal
        · cases hcal
      · cases hcal
    · cases hcal
  · cases hcal
end S6
end
section
/-! the decoded rows are the methods' own (a row a few methods) -/
set_option maxRecDepth 1000000 in
theorem okx_0 : (List.range' 0 12).all fcm = true := by decide +kernel
set_option maxRecDepth 1000000 in
theorem okx_12 : (List.range' 12 12).all fcm = true := by decide +kernel
set_option maxRecDepth 1000000 in
theorem okx_24 : (List.range' 24 12).all fcm = true := by decide +kernel
set_option maxRecDepth 1000000 in
theorem okx_36 : (List.range' 36 12).all fcm = true := by decide +kernel
set_option maxRecDepth 1000000 in
theorem okx_48 : (List.range' 48 12).all fcm = true := by decide +kernel
set_option maxRecDepth 1000000 in
theorem okx_60 : (List.range' 60 12).all fcm = true := by decide +kernel
set_option maxRecDepth 1000000 in
theorem okx_72 : (List.range' 72 12).all fcm = true := by decide +kernel
set_option maxRecDepth 1000000 in
theorem okx_84 : (List.range' 84 12).all fcm = true := by decide +kernel
set_option maxRecDepth 1000000 in
theorem okx_96 : (List.range' 96 12).all fcm = true := by decide +kernel
set_option maxRecDepth 1000000 in
theorem okx_108 : (List.range' 108 12).all fcm = true := by decide +kernel
set_option maxRecDepth 1000000 in
theorem okx_120 : (List.range' 120 12).all fcm = true := by decide +kernel
set_option maxRecDepth 1000000 in
theorem okx_132 : (List.range' 132 12).all fcm = true := by decide +kernel
set_option maxRecDepth 1000000 in
theorem okx_144 : (List.range' 144 3).all fcm = true := by decide +kernel
theorem mmt_len : mmt.length = 147 := by decide +kernel
theorem okx : ∀ M, Fok M := by
  intro M q hq
  have hM : M < 147 := by rw [← mmt_len]; exact (List.getElem?_eq_some_iff.mp hq).1
  have h : fcm M = true := by
    by_cases c0 : M < 12
    · exact List.all_eq_true.mp okx_0 M (List.mem_range'_1.mpr (by omega))
    by_cases c1 : M < 24
    · exact List.all_eq_true.mp okx_12 M (List.mem_range'_1.mpr (by omega))
    by_cases c2 : M < 36
    · exact List.all_eq_true.mp okx_24 M (List.mem_range'_1.mpr (by omega))
    by_cases c3 : M < 48
    · exact List.all_eq_true.mp okx_36 M (List.mem_range'_1.mpr (by omega))
    by_cases c4 : M < 60
    · exact List.all_eq_true.mp okx_48 M (List.mem_range'_1.mpr (by omega))
    by_cases c5 : M < 72
    · exact List.all_eq_true.mp okx_60 M (List.mem_range'_1.mpr (by omega))
    by_cases c6 : M < 84
    · exact List.all_eq_true.mp okx_72 M (List.mem_range'_1.mpr (by omega))
    by_cases c7 : M < 96
    · exact List.all_eq_true.mp okx_84 M (List.mem_range'_1.mpr (by omega))
    by_cases c8 : M < 108
    · exact List.all_eq_true.mp okx_96 M (List.mem_range'_1.mpr (by omega))
    by_cases c9 : M < 120
    · exact List.all_eq_true.mp okx_108 M (List.mem_range'_1.mpr (by omega))
    by_cases c10 : M < 132
    · exact List.all_eq_true.mp okx_120 M (List.mem_range'_1.mpr (by omega))
    by_cases c11 : M < 144
    · exact List.all_eq_true.mp okx_132 M (List.mem_range'_1.mpr (by omega))
    by_cases c12 : M < 147
    · exact List.all_eq_true.mp okx_144 M (List.mem_range'_1.mpr (by omega))
    omega
  exact Fok_of h q hq
end
section
/-! WHAT A CALL OF THE SCRIPT DOES, as a closed run: from the heap h to the heap h' and cells that nobody needs, with the answer v; at least cnt new cells, at most uc with us slots -/
def Run2 (M nl : Nat) (as : List MV) (h h' : List MC) (v : Int32) (cnt uc us : Nat) : Prop := ∃ j : List MC, PF 9 M 0 (as.map some ++ List.replicate (nl - as.length) none) [] h (fun r hE => r = some (.inl v) ∧ hE = h' ++ j) ∧ h'.all (fun c => c.2.all (clv h'.length)) = true ∧ h.length + cnt ≤ (h' ++ j).length ∧ (h' ++ j).length ≤ h.length + uc ∧ mslots ((h' ++ j).drop h.length) ≤ us
theorem Run2_of {n M nl uc us : Nat} {as : List MV} {h h' : List MC} {v : Int32} (e : endsA (fx n 9 M 0 (as.map some ++ List.replicate (nl - as.length) none) [] h) (.inl v) h' = true) (hc : h'.all (fun c => c.2.all (clv h'.length)) = true) (hl : h.length ≤ h'.length ∧ h'.length ≤ h.length + uc) (hs : mslots (h'.drop h.length) ≤ us) : Run2 M nl as h h' v 0 uc us :=
  ⟨[], ⟨n, some (.inl v), h', endsA_eq e, rfl, (List.append_nil _).symm⟩, hc, by rw [List.append_nil]; exact hl.1, by rw [List.append_nil]; exact hl.2, by rw [List.append_nil]; exact hs⟩
end
section
/-! THE LAW ON THE SCRIPT OF THE REFUTATION: what holds at its entry (as the kit's skeleton has it), a room that is large enough, and what is to be come to: an end with many new cells -/
def R_law : String := "EquationDeskLaw"
def lw_At (p : Program) (s : State) (m : MethodId) (meth : Method) (c : Code) (b L : Nat) (xs : Nat → Int32) : Prop :=
  p.tables.exec = Jvm.exec ∧ c.code = code ∧ meth.sig.returnType = ret ∧ c.maxLocals = 4 ∧ s.vm.findClass R_law = some m.cls ∧ (∀ w ∈ lw_tbl, w.before #[Value.ref b] s = true) ∧ va_X b L xs s s.heap ∧ b < s.heap.size ∧ meth.locks = false
def bigR : Room := { frames := 2048, cells := 790000, slots := 7390000, locals := 84000 }
abbrev lA (s : State) : Nat → Prop := fun q => s.heap.size ≤ q
def bZ (below : List Frame) (s : State) : State → Prop := fun t => ∃ o, t.status = .running ∧ Ended t below o ∧ s.heap.size + 742020 ≤ t.heap.size
abbrev LG (p : Program) (l : Launch) (e : Env) (s : State) (m : MethodId) (below : List Frame) (meth : Method) (c : Code) (b : Nat) (H : Heap) (locs : List Loc) (cells slots pc : Nat) (ls : Array Slot) (st : List Value) : Prop := W p l e bigR s m #[Value.ref b] below meth c H locs cells slots (bZ below s) (F0 m pc ls st)
/-- the law's own end, with 1 on the stack -/
theorem b_ret {p : Program} {l : Launch} {e : Env} {s : State} {m : MethodId} {below : List Frame} {meth : Method} {c : Code} {b : Nat} {locs : List Loc} {cells slots : Nat} (hx : p.tables.exec = Jvm.exec) (hb : c.code = code) (hr : meth.sig.returnType = ret) (hlocks : meth.locks = false) {pc : Nat} {H : Heap} {ls : Array Slot} (hcnt : s.heap.size + 742020 ≤ H.size) (hdg : decode code pc = .ok (.ireturn, 1)) : LG p l e s m below meth c b H locs cells slots pc ls [.int 1] := by
  intro T hT X
  obtain ⟨fs, hret, hrun, hended, hW, hframe⟩ := X.leave (v := some (.int 1)) (hlocks := hlocks) (fun h => by rw [hr] at h; cases h)
  have hmeth' : T.vm.method? m = some meth := X.method'
  have hh : (T.setFrames fs).heap = H := hT
  refine ⟨T.setFrames fs, ?_, .returned (some (.int 1)), hrun, hended, by rw [hh]; exact hcnt⟩
  jvm_step X.here [X.here.top, hx, hb, hdg, hmeth', hr, ret, narrow_b1]
  (try refine ⟨rfl, ?_⟩); (try refine ⟨rfl, ?_⟩)
  first | (intro acts; rw [hret _ acts rfl rfl rfl]) | rw [hret _ _ rfl rfl rfl]
  exact Steps.refl _
end
section
/-! the law's own rows: those that the script of the refutation comes to -/
theorem d_law_0 : decode code 0 = .ok (.new 7, 3) := by decide +kernel
theorem d_law_3 : decode code 3 = .ok (.dup, 1) := by decide +kernel
theorem d_law_4 : decode code 4 = .ok (.invokespecial 9, 3) := by decide +kernel
theorem d_law_7 : decode code 7 = .ok (.astore_n 1, 1) := by decide +kernel
theorem d_law_8 : decode code 8 = .ok (.new 10, 3) := by decide +kernel
theorem d_law_11 : decode code 11 = .ok (.dup, 1) := by decide +kernel
theorem d_law_12 : decode code 12 = .ok (.invokespecial 12, 3) := by decide +kernel
theorem d_law_15 : decode code 15 = .ok (.astore_n 2, 1) := by decide +kernel
theorem d_law_16 : decode code 16 = .ok (.iconst 0, 1) := by decide +kernel
theorem d_law_17 : decode code 17 = .ok (.istore_n 3, 1) := by decide +kernel
theorem d_law_18 : decode code 18 = .ok (.iload_n 3, 1) := by decide +kernel
theorem d_law_19 : decode code 19 = .ok (.aload_n 0, 1) := by decide +kernel
theorem d_law_20 : decode code 20 = .ok (.arraylength, 1) := by decide +kernel
theorem d_law_21 : decode code 21 = .ok (.bipush 6, 2) := by decide +kernel
theorem d_law_23 : decode code 23 = .ok (.isub, 1) := by decide +kernel
theorem d_law_24 : decode code 24 = .ok (.if_icmp .gt 811, 3) := by decide +kernel
theorem d_law_27 : decode code 27 = .ok (.aload_n 0, 1) := by decide +kernel
theorem d_law_28 : decode code 28 = .ok (.iload_n 3, 1) := by decide +kernel
theorem d_law_29 : decode code 29 = .ok (.iaload, 1) := by decide +kernel
theorem d_law_30 : decode code 30 = .ok (.bipush 31, 2) := by decide +kernel
theorem d_law_32 : decode code 32 = .ok (.iand, 1) := by decide +kernel
theorem d_law_33 : decode code 33 = .ok (.tableswitch 796 0 18 #[91, 140, 173, 226, 249, 282, 315, 348, 381, 444, 477, 530, 563, 586, 599, 658, 671, 730, 763], 91) := by decide +kernel
theorem d_law_124 : decode code 124 = .ok (.aload_n 1, 1) := by decide +kernel
theorem d_law_125 : decode code 125 = .ok (.aload_n 0, 1) := by decide +kernel
theorem d_law_126 : decode code 126 = .ok (.iload_n 3, 1) := by decide +kernel
theorem d_law_127 : decode code 127 = .ok (.iconst 1, 1) := by decide +kernel
theorem d_law_128 : decode code 128 = .ok (.iadd, 1) := by decide +kernel
theorem d_law_129 : decode code 129 = .ok (.iaload, 1) := by decide +kernel
theorem d_law_130 : decode code 130 = .ok (.aload_n 0, 1) := by decide +kernel
theorem d_law_131 : decode code 131 = .ok (.iload_n 3, 1) := by decide +kernel
theorem d_law_132 : decode code 132 = .ok (.iconst 2, 1) := by decide +kernel
theorem d_law_133 : decode code 133 = .ok (.iadd, 1) := by decide +kernel
theorem d_law_134 : decode code 134 = .ok (.iaload, 1) := by decide +kernel
theorem d_law_135 : decode code 135 = .ok (.ifCond .eq 7, 3) := by decide +kernel
theorem d_law_138 : decode code 138 = .ok (.iconst 1, 1) := by decide +kernel
theorem d_law_139 : decode code 139 = .ok (.goto 4, 3) := by decide +kernel
theorem d_law_142 : decode code 142 = .ok (.iconst 0, 1) := by decide +kernel
theorem d_law_143 : decode code 143 = .ok (.invokevirtual 13, 3) := by decide +kernel
theorem d_law_146 : decode code 146 = .ok (.aload_n 2, 1) := by decide +kernel
theorem d_law_147 : decode code 147 = .ok (.aload_n 0, 1) := by decide +kernel
theorem d_law_148 : decode code 148 = .ok (.iload_n 3, 1) := by decide +kernel
theorem d_law_149 : decode code 149 = .ok (.iconst 1, 1) := by decide +kernel
theorem d_law_150 : decode code 150 = .ok (.iadd, 1) := by decide +kernel
theorem d_law_151 : decode code 151 = .ok (.iaload, 1) := by decide +kernel
theorem d_law_152 : decode code 152 = .ok (.aload_n 0, 1) := by decide +kernel
theorem d_law_153 : decode code 153 = .ok (.iload_n 3, 1) := by decide +kernel
theorem d_law_154 : decode code 154 = .ok (.iconst 2, 1) := by decide +kernel
theorem d_law_155 : decode code 155 = .ok (.iadd, 1) := by decide +kernel
theorem d_law_156 : decode code 156 = .ok (.iaload, 1) := by decide +kernel
theorem d_law_157 : decode code 157 = .ok (.ifCond .eq 7, 3) := by decide +kernel
theorem d_law_160 : decode code 160 = .ok (.iconst 1, 1) := by decide +kernel
theorem d_law_161 : decode code 161 = .ok (.goto 4, 3) := by decide +kernel
theorem d_law_164 : decode code 164 = .ok (.iconst 0, 1) := by decide +kernel
theorem d_law_165 : decode code 165 = .ok (.invokevirtual 17, 3) := by decide +kernel
theorem d_law_168 : decode code 168 = .ok (.if_icmp .eq 661, 3) := by decide +kernel
theorem d_law_171 : decode code 171 = .ok (.iconst 0, 1) := by decide +kernel
theorem d_law_172 : decode code 172 = .ok (.ireturn, 1) := by decide +kernel
theorem d_law_206 : decode code 206 = .ok (.aload_n 1, 1) := by decide +kernel
theorem d_law_207 : decode code 207 = .ok (.aload_n 0, 1) := by decide +kernel
theorem d_law_208 : decode code 208 = .ok (.iload_n 3, 1) := by decide +kernel
theorem d_law_209 : decode code 209 = .ok (.iconst 1, 1) := by decide +kernel
theorem d_law_210 : decode code 210 = .ok (.iadd, 1) := by decide +kernel
theorem d_law_211 : decode code 211 = .ok (.iaload, 1) := by decide +kernel
theorem d_law_212 : decode code 212 = .ok (.aload_n 0, 1) := by decide +kernel
theorem d_law_213 : decode code 213 = .ok (.iload_n 3, 1) := by decide +kernel
theorem d_law_214 : decode code 214 = .ok (.iconst 2, 1) := by decide +kernel
theorem d_law_215 : decode code 215 = .ok (.iadd, 1) := by decide +kernel
theorem d_law_216 : decode code 216 = .ok (.iaload, 1) := by decide +kernel
theorem d_law_217 : decode code 217 = .ok (.aload_n 0, 1) := by decide +kernel
theorem d_law_218 : decode code 218 = .ok (.iload_n 3, 1) := by decide +kernel
theorem d_law_219 : decode code 219 = .ok (.iconst 3, 1) := by decide +kernel
theorem d_law_220 : decode code 220 = .ok (.iadd, 1) := by decide +kernel
theorem d_law_221 : decode code 221 = .ok (.iaload, 1) := by decide +kernel
theorem d_law_222 : decode code 222 = .ok (.aload_n 0, 1) := by decide +kernel
theorem d_law_223 : decode code 223 = .ok (.iload_n 3, 1) := by decide +kernel
theorem d_law_224 : decode code 224 = .ok (.iconst 4, 1) := by decide +kernel
theorem d_law_225 : decode code 225 = .ok (.iadd, 1) := by decide +kernel
theorem d_law_226 : decode code 226 = .ok (.iaload, 1) := by decide +kernel
theorem d_law_227 : decode code 227 = .ok (.invokevirtual 23, 3) := by decide +kernel
theorem d_law_230 : decode code 230 = .ok (.aload_n 2, 1) := by decide +kernel
theorem d_law_231 : decode code 231 = .ok (.aload_n 0, 1) := by decide +kernel
theorem d_law_232 : decode code 232 = .ok (.iload_n 3, 1) := by decide +kernel
theorem d_law_233 : decode code 233 = .ok (.iconst 1, 1) := by decide +kernel
theorem d_law_234 : decode code 234 = .ok (.iadd, 1) := by decide +kernel
theorem d_law_235 : decode code 235 = .ok (.iaload, 1) := by decide +kernel
theorem d_law_236 : decode code 236 = .ok (.aload_n 0, 1) := by decide +kernel
theorem d_law_237 : decode code 237 = .ok (.iload_n 3, 1) := by decide +kernel
theorem d_law_238 : decode code 238 = .ok (.iconst 2, 1) := by decide +kernel
theorem d_law_239 : decode code 239 = .ok (.iadd, 1) := by decide +kernel
theorem d_law_240 : decode code 240 = .ok (.iaload, 1) := by decide +kernel
theorem d_law_241 : decode code 241 = .ok (.aload_n 0, 1) := by decide +kernel
theorem d_law_242 : decode code 242 = .ok (.iload_n 3, 1) := by decide +kernel
theorem d_law_243 : decode code 243 = .ok (.iconst 3, 1) := by decide +kernel
theorem d_law_244 : decode code 244 = .ok (.iadd, 1) := by decide +kernel
theorem d_law_245 : decode code 245 = .ok (.iaload, 1) := by decide +kernel
theorem d_law_246 : decode code 246 = .ok (.aload_n 0, 1) := by decide +kernel
theorem d_law_247 : decode code 247 = .ok (.iload_n 3, 1) := by decide +kernel
theorem d_law_248 : decode code 248 = .ok (.iconst 4, 1) := by decide +kernel
theorem d_law_249 : decode code 249 = .ok (.iadd, 1) := by decide +kernel
theorem d_law_250 : decode code 250 = .ok (.iaload, 1) := by decide +kernel
theorem d_law_251 : decode code 251 = .ok (.invokevirtual 27, 3) := by decide +kernel
theorem d_law_254 : decode code 254 = .ok (.if_icmp .eq 575, 3) := by decide +kernel
theorem d_law_257 : decode code 257 = .ok (.iconst 0, 1) := by decide +kernel
theorem d_law_258 : decode code 258 = .ok (.ireturn, 1) := by decide +kernel
theorem d_law_348 : decode code 348 = .ok (.aload_n 1, 1) := by decide +kernel
theorem d_law_349 : decode code 349 = .ok (.aload_n 0, 1) := by decide +kernel
theorem d_law_350 : decode code 350 = .ok (.iload_n 3, 1) := by decide +kernel
theorem d_law_351 : decode code 351 = .ok (.iconst 1, 1) := by decide +kernel
theorem d_law_352 : decode code 352 = .ok (.iadd, 1) := by decide +kernel
theorem d_law_353 : decode code 353 = .ok (.iaload, 1) := by decide +kernel
theorem d_law_354 : decode code 354 = .ok (.aload_n 0, 1) := by decide +kernel
theorem d_law_355 : decode code 355 = .ok (.iload_n 3, 1) := by decide +kernel
theorem d_law_356 : decode code 356 = .ok (.iconst 2, 1) := by decide +kernel
theorem d_law_357 : decode code 357 = .ok (.iadd, 1) := by decide +kernel
theorem d_law_358 : decode code 358 = .ok (.iaload, 1) := by decide +kernel
theorem d_law_359 : decode code 359 = .ok (.invokevirtual 42, 3) := by decide +kernel
theorem d_law_362 : decode code 362 = .ok (.aload_n 2, 1) := by decide +kernel
theorem d_law_363 : decode code 363 = .ok (.aload_n 0, 1) := by decide +kernel
theorem d_law_364 : decode code 364 = .ok (.iload_n 3, 1) := by decide +kernel
theorem d_law_365 : decode code 365 = .ok (.iconst 1, 1) := by decide +kernel
theorem d_law_366 : decode code 366 = .ok (.iadd, 1) := by decide +kernel
theorem d_law_367 : decode code 367 = .ok (.iaload, 1) := by decide +kernel
theorem d_law_368 : decode code 368 = .ok (.aload_n 0, 1) := by decide +kernel
theorem d_law_369 : decode code 369 = .ok (.iload_n 3, 1) := by decide +kernel
theorem d_law_370 : decode code 370 = .ok (.iconst 2, 1) := by decide +kernel
theorem d_law_371 : decode code 371 = .ok (.iadd, 1) := by decide +kernel
theorem d_law_372 : decode code 372 = .ok (.iaload, 1) := by decide +kernel
theorem d_law_373 : decode code 373 = .ok (.invokevirtual 45, 3) := by decide +kernel
theorem d_law_376 : decode code 376 = .ok (.if_icmp .eq 453, 3) := by decide +kernel
theorem d_law_379 : decode code 379 = .ok (.iconst 0, 1) := by decide +kernel
theorem d_law_380 : decode code 380 = .ok (.ireturn, 1) := by decide +kernel
theorem d_law_829 : decode code 829 = .ok (.iinc 3 6, 3) := by decide +kernel
theorem d_law_832 : decode code 832 = .ok (.goto (-814), 3) := by decide +kernel
theorem d_law_835 : decode code 835 = .ok (.iconst 1, 1) := by decide +kernel
theorem d_law_836 : decode code 836 = .ok (.ireturn, 1) := by decide +kernel
end
section
/-! THE LAW: how it is walked -/
def iv (k : Nat) : Int32 := Int32.ofNat (6 * k)
theorem iv_at {k j : Nat} (hk : k < 512) (hj : j < 6) : ¬ iv k + Int32.ofNat j < 0 ∧ (iv k + Int32.ofNat j).toNatClampNeg = 6 * k + j := by
  have e : iv k + Int32.ofNat j = Int32.ofNat (6 * k + j) := by unfold iv; rw [Int32.ofNat_add]
  rw [e]
  refine ⟨fun h => ?_, Int32.toNatClampNeg_ofNat_of_lt (by omega)⟩
  rw [Int32.lt_iff_toInt_lt, Int32.toInt_ofNat_of_lt (by omega)] at h
  have h2 : (0 : Int32).toInt = 0 := by decide
  omega
theorem iv_op {k : Nat} (hk : k < 512) : ¬ iv k < 0 ∧ (iv k).toNatClampNeg = 6 * k := by
  refine ⟨fun h => ?_, Int32.toNatClampNeg_ofNat_of_lt (by omega)⟩
  unfold iv at h
  rw [Int32.lt_iff_toInt_lt, Int32.toInt_ofNat_of_lt (by omega)] at h
  have h2 : (0 : Int32).toInt = 0 := by decide
  omega
theorem iv_next (k : Nat) : iv k + 6 = iv (k + 1) := by
  unfold iv
  rw [show 6 * (k + 1) = 6 * k + 6 by omega, Int32.ofNat_add]
  rfl
theorem iv_in {k : Nat} (hk : k < 512) : ¬ Int32.ofNat 3072 - 6 < iv k := by
  intro h
  have e : Int32.ofNat 3072 - 6 = Int32.ofNat 3066 := by decide
  unfold iv at h
  rw [e, Int32.lt_iff_toInt_lt, Int32.toInt_ofNat_of_lt (by omega), Int32.toInt_ofNat_of_lt (by omega)] at h
  omega
theorem iv_out : Int32.ofNat 3072 - 6 < iv 512 := by decide
section LW
variable {p : Program} {l : Launch} {e : Env} {s : State} {m : MethodId} {below : List Frame} {meth : Method} {c : Code} {H : Heap} {locs : List Loc} {cells slots : Nat} {pc : Nat} {ls : Array Slot} {ads : List Nat} {D : va_G} {h : List MC} {b L : Nat} {xs : Nat → Int32} {rest0 : List Value}
theorem l_hts (C : lw_At p s m meth c b L xs) : ∀ w ∈ lw_g, w.before #[Value.ref b] s = true := fun w hw => C.2.2.2.2.2.1 w (List.mem_filter.mp hw).1
theorem l_xc (C : lw_At p s m meth c b L xs) : Xc s := va_Nw.of rfl (C.2.2.2.2.2.1 _ w_clc)
theorem l_xf (C : lw_At p s m meth c b L xs) : Xf s := by
  refine ⟨fun t ht => ?_, fun own i kd M q h1 h2 h3 => ?_⟩
  · rcases ht with rfl | rfl | rfl
    · exact C.2.2.2.2.2.1 _ w_oi
    · exact C.2.2.2.2.2.1 _ w_oii
    · exact C.2.2.2.2.2.1 _ w_oz
  · obtain ⟨pp, hpp⟩ := fl h1
    rcases h2 with rfl | rfl
    · simp only [ckL, h3, show ¬ (5 = 3) by decide, show ¬ (5 = 4) by decide, show ¬ (5 = 7) by decide, show ¬ (5 = 8) by decide, show ¬ (5 = 0) by decide, show ¬ (5 = 1) by decide, show ¬ (5 = 2) by decide, if_true, if_false, Bool.and_eq_true] at hpp
      exact va_Nw.of rfl (C.2.2.2.2.2.1 _ (watx_mem hpp.1.1))
    · simp only [ckL, h3, show ¬ (6 = 3) by decide, show ¬ (6 = 4) by decide, show ¬ (6 = 7) by decide, show ¬ (6 = 8) by decide, show ¬ (6 = 0) by decide, show ¬ (6 = 1) by decide, show ¬ (6 = 2) by decide, show ¬ (6 = 5) by decide, if_true, if_false, Bool.and_eq_true, decide_eq_true_eq] at hpp
      exact va_Nw.of rfl (C.2.2.2.2.2.1 _ (watx_mem hpp.1.1.1))
theorem l_own (C : lw_At p s m meth c b L xs) : s.vm.findClass (mon 14) = some m.cls := C.2.2.2.2.1
/-- a constructor that the law calls -/
theorem l_call {M' : Nat} {ig : Instr} {as rest st : List MV} {st0 : List Value} {q : MM} {Qc : Option MV → List MC → Prop} (C : lw_At p s m meth c b L xs) (hdg : decode code pc = .ok (ig, 3)) (hcal : mcal 14 10 ig 3 st h = some (M', 9, as, rest)) (hq : mmt[M']? = some q)
    (hW : Wd D (lA s) s H ads h) (hS : va_S (lA s) s.heap H locs) (hl : ls.size = 4 ∧ lv_wf ls) (hst : vrs ads st st0) (hpf : PF 9 M' 0 (as.map some ++ List.replicate (q.2.2.1 - as.length) none) [] h Qc)
    (hroom : ∀ r hE, Qc r hE → cells + (hE.length - h.length) ≤ bigR.cells ∧ slots + mslots (hE.drop h.length) ≤ bigR.slots)
    (kk : ∀ (r : Option MV) (hE : List MC) (H1 : Heap) (locs1 : List Loc) (ads' : List Nat) (st1 : List Value), Qc r hE → (∃ l, ads' = ads ++ l) → Wd D (lA s) s H1 ads' hE → va_S (lA s) s.heap H1 locs1 → vrs ads' (r.toList ++ rest) st1 → LG p l e s m below meth c b H1 locs1 (cells + (hE.length - h.length)) (slots + mslots (hE.drop h.length)) (pc + 3) ls st1) : LG p l e s m below meth c b H locs cells slots pc ls st0 := by
  obtain ⟨n, r, hE, hfx, hQ⟩ := hpf
  obtain ⟨y, hy, hy0⟩ := fpc_of (okx M' q hq).2
  have hmx := fx_sound okx hfx hy
  rw [hy0] at hmx
  have hks : mslots hE - mslots h = mslots (hE.drop h.length) := by
    have := mslots_keep (mx_keep hmx)
    simp only at this
    omega
  refine sim_cal (mL := 4) (d := 10) (own := 14) (cc := code) (ml := [none, none, none, none]) (mc := hE.length - h.length) (ms := mslots hE - mslots h) (hE := hE) (r := r) C.1 C.2.1 C.2.2.2.1 (l_own C) (l_hts C) (l_xf C) (l_xc C) (fun _ hq => hq) (by decide) (by decide) hdg hcal hq hW hS ⟨rfl, hl.1, hl.2, fun i v hv => ?_⟩ hst (fun xs hxs hlen => met_run hq hmx l D (lA s) ads xs hxs hlen) (hroom r hE hQ).1 (by rw [hks]; exact (hroom r hE hQ).2) fun H1 locs1 ads' st1 ha hW1 hS1 hst1 => ?_
  · exfalso
    match i, hv with
    | 0, hv => cases hv
    | 1, hv => cases hv
    | 2, hv => cases hv
    | 3, hv => cases hv
    | i + 4, hv => simp at hv
  · rw [hks]
    exact kk r hE H1 locs1 ads' st1 hQ ha hW1 hS1 hst1
/-- a method that the law calls: its closed run, then on behind it -/
theorem l_callN {M' i nl cnt uc us q0 : Nat} {as rest st : List MV} {st0 : List Value} {q : MM} {h' : List MC} {v : Int32} (C : lw_At p s m meth c b L xs) (hdg : decode code pc = .ok (.invokevirtual i, 3)) (hcal : mcal 14 10 (.invokevirtual i) 3 st h = some (M', 9, as, rest)) (hq : mmt[M']? = some q) (hnl : q.2.2.1 = nl)
    (hW : Wd D (lA s) s H ads h) (hS : va_S (lA s) s.heap H locs) (hl : ls.size = 4) (hst : vrs ads st st0) (hq0 : ads[0]? = some q0) (hpos : 0 < h'.length) (hrun : Run2 M' nl as h h' v cnt uc us) (hrc : cells + uc ≤ bigR.cells) (hrs : slots + us ≤ bigR.slots)
    (kk : ∀ (H1 : Heap) (locs1 : List Loc) (ads1 : List Nat) (st1 : List Value), Wd D (lA s) s H1 ads1 h' → ads1[0]? = some q0 → va_S (lA s) s.heap H1 locs1 → (∃ a9, vrs a9 (.inl v :: rest) st1) → (∀ q, q < H.size → q ∉ ads → H1[q]? = H[q]?) → (∀ q ∈ ads1, q ∈ ads ∨ H.size ≤ q) → H.size + cnt ≤ H1.size → LG p l e s m below meth c b H1 locs1 (cells + uc) (slots + us) (pc + 3) ls st1) : LG p l e s m below meth c b H locs cells slots pc ls st0 := by
  obtain ⟨j, ⟨n, r, hE, hfx, rfl, rfl⟩, hcl, hc1, hc2, hsl⟩ := hrun
  subst hnl
  obtain ⟨y, hy, hy0⟩ := fpc_of (okx M' q hq).2
  have hmx := fx_sound okx hfx hy
  rw [hy0] at hmx
  have hks : mslots (h' ++ j) - mslots h = mslots ((h' ++ j).drop h.length) := by
    have := mslots_keep (mx_keep hmx)
    simp only at this
    omega
  refine sim_calN (mL := 4) (d := 10) (own := 14) (cc := code) (mc := (h' ++ j).length - h.length) (ms := mslots (h' ++ j) - mslots h) (hE := h' ++ j) (r := some (.inl v)) C.1 C.2.1 C.2.2.2.1 (l_own C) (l_hts C) (l_xf C) (l_xc C) (fun _ hq => hq) (by decide) (by decide) hdg hcal hq hW hS hl hst (fun xs hxs hlen => met_runN hq hmx l D (lA s) ads xs hxs hlen) (by omega) (by omega) fun H1 locs1 la st1 hW1 hS1 hst1 hk hla hcnt => ?_
  refine W.widen (k := cells + uc) (n := slots + us) (by omega) (by omega) ?_
  refine kk H1 locs1 ((ads ++ la).take h'.length) st1 (Wd_drop hW1 hcl) ?_ hS1 ⟨_, hst1⟩ hk ?_ (by omega)
  · rw [List.getElem?_take_of_lt hpos, List.getElem?_append_left (List.getElem?_eq_some_iff.mp hq0).1]; exact hq0
  · intro q hq
    rcases List.mem_append.mp (List.mem_of_mem_take hq) with h | h
    · exact Or.inl h
    · exact Or.inr (hla q h)
/-- an argument: script[i + j] -/
theorem l_arg {k j : Nat} {n : Int} {a : Int32} (C : lw_At p s m meth c b 3072 xs) (hk : k < 512) (hS : va_S (lA s) s.heap H locs) (h0 : ls[0]? = some (.val (.ref b))) (h3 : ls[3]? = some (.val (.int (iv k)))) (hj : j < 6) (ha : xs (6 * k + j) = a) (d0 : decode code pc = .ok (.aload_n 0, 1)) (d1 : decode code (pc + 1) = .ok (.iload_n 3, 1)) (d2 : decode code (pc + 2) = .ok (.iconst n, 1)) (d3 : decode code (pc + 3) = .ok (.iadd, 1)) (d4 : decode code (pc + 4) = .ok (.iaload, 1)) (hv : Int32.ofInt n = Int32.ofNat j)
    (kk : LG p l e s m below meth c b H locs cells slots (pc + 5) ls (.int a :: rest0)) : LG p l e s m below meth c b H locs cells slots pc ls rest0 := by
  obtain ⟨hx, hb, -, -, -, -, hX, hbl, -⟩ := id C
  obtain ⟨i1, i2⟩ := iv_at hk hj
  refine lv_aload_n hx hb d0 rfl h0 ?_
  refine lv_iload_n hx hb d1 rfl h3 ?_
  refine lv_iconst (v := Int32.ofNat j) hx hb d2 hv ?_
  refine lv_iadd hx hb d3 ?_
  refine va_sld (A := lA s) hx hb hX hbl (Nat.not_le.mpr hbl) hS (fun q => ?_) d4 ?_
  · rcases q with q | q
    · exact i1 q
    · rw [i2] at q; omega
  · rw [i2, ha]; exact kk
/-- an argument's '!= 0', false -/
theorem l_bool0 {t : Nat} (C : lw_At p s m meth c b L xs) (d0 : decode code pc = .ok (.ifCond .eq 7, 3)) (d3 : decode code (pc + 7) = .ok (.iconst 0, 1)) (ht : t = pc + 8)
    (kk : LG p l e s m below meth c b H locs cells slots t ls (.int 0 :: rest0)) : LG p l e s m below meth c b H locs cells slots pc ls (.int 0 :: rest0) := by
  subst ht
  refine lv_if_eq (tgt := pc + 7) C.1 C.2.1 d0 (by omega) (fun h => ?_) (fun h => absurd rfl h)
  exact lv_iconst (v := 0) C.1 C.2.1 d3 (by decide) kk
end LW
end
section
/-! THE LAW ON THE SCRIPT: one call after the other -/
/-- where the law is, at its loop's head, before the call k: a desk with the heap hX, a model with the heap hM, N cells made at least -/
def IV (D : va_G) (s : State) (b k : Nat) (hX hM : List MC) (N : Nat) (H : Heap) (locs : List Loc) (ls : Array Slot) : Prop :=
  ∃ (adsX adsM : List Nat) (q0 q1 : Nat), Wd D (lA s) s H adsX hX ∧ Wd D (lA s) s H adsM hM ∧ (∀ q ∈ adsM, q ∉ adsX) ∧ adsX[0]? = some q0 ∧ adsM[0]? = some q1 ∧ va_S (lA s) s.heap H locs ∧ lv_has ls 4 [(3, .int (iv k)), (2, .ref q1), (1, .ref q0), (0, .ref b)] ∧ s.heap.size + N ≤ H.size
section LW
variable {p : Program} {l : Launch} {e : Env} {s : State} {m : MethodId} {below : List Frame} {meth : Method} {c : Code} {H : Heap} {locs : List Loc} {cells slots : Nat} {pc : Nat} {ls : Array Slot} {ads : List Nat} {D : va_G} {h : List MC} {b L : Nat} {xs : Nat → Int32} {rest0 : List Value}
/-- from the loop's head to the case -/
theorem l_head {k tgt : Nat} {o : Int32} {off : Int} {q0 q1 : Nat} (C : lw_At p s m meth c b 3072 xs) (hk : k < 512) (ho : xs (6 * k) = o) (hS : va_S (lA s) s.heap H locs) (hl : lv_has ls 4 [(3, .int (iv k)), (2, .ref q1), (1, .ref q0), (0, .ref b)]) (h1 : ¬ (o &&& 31).toInt < 0) (h2 : ¬ 18 < (o &&& 31).toInt) (h3 : (#[91, 140, 173, 226, 249, 282, 315, 348, 381, 444, 477, 530, 563, 586, 599, 658, 671, 730, 763] : Array Int)[((o &&& 31).toInt - 0).toNat]? = some off) (h4 : (33 : Int) + off = (tgt : Int))
    (kk : LG p l e s m below meth c b H locs cells slots tgt ls []) : LG p l e s m below meth c b H locs cells slots 18 ls [] := by
  obtain ⟨hx, hb, -, -, -, -, hX, hbl, -⟩ := id C
  obtain ⟨i1, i2⟩ := iv_op hk
  refine lv_iload_n hx hb d_law_18 rfl (lv_at hl 0 rfl) ?_
  refine lv_aload_n hx hb d_law_19 rfl (lv_at hl 3 rfl) ?_
  refine va_slen (A := lA s) hx hb hX hbl (Nat.not_le.mpr hbl) hS d_law_20 ?_
  refine lv_bipush (v := 6) hx hb d_law_21 (by decide) ?_
  refine lv_isub hx hb d_law_23 ?_
  refine lv_icmp_gt (tgt := 835) hx hb d_law_24 (by decide) (fun hn => absurd hn (iv_in hk)) (fun _ => ?_)
  refine lv_aload_n hx hb d_law_27 rfl (lv_at hl 3 rfl) ?_
  refine lv_iload_n hx hb d_law_28 rfl (lv_at hl 0 rfl) ?_
  refine va_sld (A := lA s) hx hb hX hbl (Nat.not_le.mpr hbl) hS (fun q => ?_) d_law_29 ?_
  · rcases q with q | q
    · exact i1 q
    · rw [i2] at q; omega
  rw [i2, ho]
  refine lv_bipush (v := 31) hx hb d_law_30 (by decide) ?_
  refine lv_iand hx hb d_law_32 ?_
  exact lv_tableIn (off := off) (tgt := tgt) hx hb d_law_33 h1 h2 h3 h4 kk
/-- behind the two calls: the answers are one, on to the loop's head -/
theorem l_tail {k q0 q1 : Nat} {off : Int} {v : Int32} (C : lw_At p s m meth c b 3072 xs) (hl : lv_has ls 4 [(3, .int (iv k)), (2, .ref q1), (1, .ref q0), (0, .ref b)]) (d0 : decode code pc = .ok (.if_icmp .eq off, 3)) (ht : (pc : Int) + off = ((829 : Nat) : Int))
    (kk : ∀ ls : Array Slot, lv_has ls 4 [(3, .int (iv (k + 1))), (2, .ref q1), (1, .ref q0), (0, .ref b)] → LG p l e s m below meth c b H locs cells slots 18 ls []) : LG p l e s m below meth c b H locs cells slots pc ls [.int v, .int v] := by
  have hx := C.1
  have hb := C.2.1
  refine lv_icmp_eq (tgt := 829) hx hb d0 ht (fun _ => ?_) (fun hne => absurd rfl hne)
  refine lv_iinc (v := iv (k + 1)) (lv' := [(3, .int (iv (k + 1))), (2, .ref q1), (1, .ref q0), (0, .ref b)]) hx hb d_law_829 hl (k := 0) rfl (iv_next k) (by decide) rfl (fun ls hl => ?_)
  exact lv_goto (tgt := 18) hx hb d_law_832 (by decide) (kk ls hl)
/-- the two worlds behind a call of the first -/
theorem two_on {adsX ads1 adsM : List Nat} {hM : List MC} {H1 : Heap} (hWM : Wd D (lA s) s H adsM hM) (hd : ∀ q ∈ adsM, q ∉ adsX) (hk : ∀ q, q < H.size → q ∉ adsX → H1[q]? = H[q]?) (hn : ∀ q ∈ ads1, q ∈ adsX ∨ H.size ≤ q) : Wd D (lA s) s H1 adsM hM ∧ (∀ q ∈ adsM, q ∉ ads1) := by
  refine ⟨Wd_kept hWM (fun q hq => hk q (Wd_in hWM hq).1 (hd q hq)), fun q hq h1 => ?_⟩
  rcases hn q h1 with h2 | h2
  · exact hd q hq h2
  · have := (Wd_in hWM hq).1
    omega
theorem vr2 {a9 : List Nat} {v w : Int32} {st1 : List Value} (h : vrs a9 [.inl v, .inl w] st1) : st1 = [.int v, .int w] := by
  match st1, h with
  | [], h => exact h.elim
  | [_], h => exact h.2.elim
  | [x, y], h => obtain ⟨h1, h2, -⟩ := h; rw [show x = .int v from h1, show y = .int w from h2]
  | _ :: _ :: _ :: _, h => exact h.2.2.elim
theorem vr1 {a9 : List Nat} {v : Int32} {st1 : List Value} (h : vrs a9 [.inl v] st1) : st1 = [.int v] := by
  match st1, h with
  | [], h => exact h.elim
  | [x], h => rw [show x = .int v from h.1]
  | _ :: _ :: _, h => exact h.2.elim
def nC (k : Nat) : Nat := 200 + 1491 * k
def nS (k : Nat) : Nat := 30000 + 8004 * k
theorem nC_le {k : Nat} (hk : k < 512) : nC k + 1491 ≤ 790000 := by unfold nC; omega
theorem nS_le {k : Nat} (hk : k < 512) : nS k + 8004 ≤ 7390000 := by unfold nS; omega
theorem cal_symbolX {h : List MC} {a1 a2 : Int32} (ht : (h[0]?).map (·.1) = some 20) : mcal 14 10 (.invokevirtual 13) 3 [.inl a2, .inl a1, .inr (some 0)] h = some (11, 9, [.inr (some 0), .inl a1, .inl a2], []) := by
  match h, ht with
  | (t, vs) :: r, ht =>
    have e : t = 20 := by simpa using ht
    subst e
    rfl
theorem cal_symbolM {h : List MC} {a1 a2 w : Int32} (ht : (h[0]?).map (·.1) = some 21) : mcal 14 10 (.invokevirtual 17) 3 [.inl a2, .inl a1, .inr (some 0), .inl w] h = some (93, 9, [.inr (some 0), .inl a1, .inl a2], [.inl w]) := by
  match h, ht with
  | (t, vs) :: r, ht =>
    have e : t = 21 := by simpa using ht
    subst e
    rfl
set_option maxRecDepth 1000000 in
set_option maxHeartbeats 40000000 in
/-- symbol -/
theorem st_symbol {k N cM : Nat} {hX hX1 hM hM1 : List MC} {v : Int32} {a1 : Int32} (C : lw_At p s m meth c b 3072 xs) (hk : k < 512) (x0 : xs (6 * k) = 0) (x1 : xs (6 * k + 1) = a1) (x2 : xs (6 * k + 2) = 0) (I : IV D s b k hX hM N H locs ls) (tX : (hX[0]?).map (·.1) = some 20) (tM : (hM[0]?).map (·.1) = some 21) (pX : 0 < hX1.length) (pM : 0 < hM1.length) (rX : Run2 11 3 [.inr (some 0), .inl a1, .inl 0] hX hX1 v 0 1 24) (rM : Run2 93 3 [.inr (some 0), .inl a1, .inl 0] hM hM1 v cM 1490 7980)
    (kk : ∀ (H : Heap) (locs : List Loc) (ls : Array Slot), IV D s b (k + 1) hX1 hM1 (N + cM) H locs ls → LG p l e s m below meth c b H locs (nC (k + 1)) (nS (k + 1)) 18 ls []) : LG p l e s m below meth c b H locs (nC k) (nS k) 18 ls [] := by
  obtain ⟨adsX, adsM, q0, q1, hWX, hWM, hd, hq0, hq1, hS, hl, hN⟩ := I
  have hx := C.1
  have hb := C.2.1
  have hc1 := nC_le hk
  have hs1 := nS_le hk
  refine l_head (tgt := 124) (off := 91) C hk x0 hS hl (by decide) (by decide) (by decide) (by decide) ?_
  refine lv_aload_n hx hb d_law_124 rfl (lv_at hl 2 rfl) ?_
  refine l_arg (j := 1) C hk hS (lv_at hl 3 rfl) (lv_at hl 0 rfl) (by decide) x1 d_law_125 d_law_126 d_law_127 d_law_128 d_law_129 (by decide) ?_
  refine l_arg (j := 2) C hk hS (lv_at hl 3 rfl) (lv_at hl 0 rfl) (by decide) x2 d_law_130 d_law_131 d_law_132 d_law_133 d_law_134 (by decide) ?_
  refine l_bool0 (t := 143) C d_law_135 d_law_142 (by decide) ?_
  refine l_callN (i := 13) (M' := 11) (nl := 3) (st := [.inl 0, .inl a1, .inr (some 0)]) (as := [.inr (some 0), .inl a1, .inl 0]) (rest := []) C d_law_143 (cal_symbolX tX) rfl rfl hWX hS hl.1 ⟨rfl, rfl, ⟨q0, hq0, rfl⟩, trivial⟩ hq0 pX rX (by show _ ≤ 790000; omega) (by show _ ≤ 7390000; omega) fun H1 locs1 ads1 st1 hW1 hz1 hS1 hst1 hk1 hn1 hc1 => ?_
  obtain ⟨a9, hst1⟩ := hst1
  have e1 := vr1 hst1
  subst e1
  obtain ⟨hWM1, hd1⟩ := two_on hWM hd hk1 hn1
  refine lv_aload_n hx hb d_law_146 rfl (lv_at hl 1 rfl) ?_
  refine l_arg (j := 1) C hk hS1 (lv_at hl 3 rfl) (lv_at hl 0 rfl) (by decide) x1 d_law_147 d_law_148 d_law_149 d_law_150 d_law_151 (by decide) ?_
  refine l_arg (j := 2) C hk hS1 (lv_at hl 3 rfl) (lv_at hl 0 rfl) (by decide) x2 d_law_152 d_law_153 d_law_154 d_law_155 d_law_156 (by decide) ?_
  refine l_bool0 (t := 165) C d_law_157 d_law_164 (by decide) ?_
  refine l_callN (i := 17) (M' := 93) (nl := 3) (st := [.inl 0, .inl a1, .inr (some 0), .inl v]) (as := [.inr (some 0), .inl a1, .inl 0]) (rest := [.inl v]) C d_law_165 (cal_symbolM tM) rfl rfl hWM1 hS1 hl.1 ⟨rfl, rfl, ⟨q1, hq1, rfl⟩, rfl, trivial⟩ hq1 pM rM (by show _ ≤ 790000; omega) (by show _ ≤ 7390000; omega) fun H2 locs2 ads2 st2 hW2 hz2 hS2 hst2 hk2 hn2 hc2 => ?_
  obtain ⟨a8, hst2⟩ := hst2
  have e2 := vr2 hst2
  subst e2
  obtain ⟨hWX2, hd2⟩ := two_on hW1 (fun q hq hq2 => hd1 q hq2 hq) hk2 hn2
  refine l_tail C hl d_law_168 (by decide) fun ls hl => ?_
  refine W.widen (k := nC (k + 1)) (n := nS (k + 1)) (by unfold nC; omega) (by unfold nS; omega) ?_
  exact kk H2 locs2 ls ⟨ads1, ads2, q0, q1, hWX2, hW2, fun q hq hq2 => hd2 q hq2 hq, hz1, hz2, hS2, hl, by omega⟩
theorem cal_termX {h : List MC} {a1 a2 a3 a4 : Int32} (ht : (h[0]?).map (·.1) = some 20) : mcal 14 10 (.invokevirtual 23) 3 [.inl a4, .inl a3, .inl a2, .inl a1, .inr (some 0)] h = some (16, 9, [.inr (some 0), .inl a1, .inl a2, .inl a3, .inl a4], []) := by
  match h, ht with
  | (t, vs) :: r, ht =>
    have e : t = 20 := by simpa using ht
    subst e
    rfl
theorem cal_termM {h : List MC} {a1 a2 a3 a4 w : Int32} (ht : (h[0]?).map (·.1) = some 21) : mcal 14 10 (.invokevirtual 27) 3 [.inl a4, .inl a3, .inl a2, .inl a1, .inr (some 0), .inl w] h = some (96, 9, [.inr (some 0), .inl a1, .inl a2, .inl a3, .inl a4], [.inl w]) := by
  match h, ht with
  | (t, vs) :: r, ht =>
    have e : t = 21 := by simpa using ht
    subst e
    rfl
set_option maxRecDepth 1000000 in
set_option maxHeartbeats 40000000 in
/-- term -/
theorem st_term {k N cM : Nat} {hX hX1 hM hM1 : List MC} {v : Int32} {a1 a2 a3 a4 : Int32} (C : lw_At p s m meth c b 3072 xs) (hk : k < 512) (x0 : xs (6 * k) = 2) (x1 : xs (6 * k + 1) = a1) (x2 : xs (6 * k + 2) = a2) (x3 : xs (6 * k + 3) = a3) (x4 : xs (6 * k + 4) = a4) (I : IV D s b k hX hM N H locs ls) (tX : (hX[0]?).map (·.1) = some 20) (tM : (hM[0]?).map (·.1) = some 21) (pX : 0 < hX1.length) (pM : 0 < hM1.length) (rX : Run2 16 7 [.inr (some 0), .inl a1, .inl a2, .inl a3, .inl a4] hX hX1 v 0 1 24) (rM : Run2 96 8 [.inr (some 0), .inl a1, .inl a2, .inl a3, .inl a4] hM hM1 v cM 1490 7980)
    (kk : ∀ (H : Heap) (locs : List Loc) (ls : Array Slot), IV D s b (k + 1) hX1 hM1 (N + cM) H locs ls → LG p l e s m below meth c b H locs (nC (k + 1)) (nS (k + 1)) 18 ls []) : LG p l e s m below meth c b H locs (nC k) (nS k) 18 ls [] := by
  obtain ⟨adsX, adsM, q0, q1, hWX, hWM, hd, hq0, hq1, hS, hl, hN⟩ := I
  have hx := C.1
  have hb := C.2.1
  have hc1 := nC_le hk
  have hs1 := nS_le hk
  refine l_head (tgt := 206) (off := 173) C hk x0 hS hl (by decide) (by decide) (by decide) (by decide) ?_
  refine lv_aload_n hx hb d_law_206 rfl (lv_at hl 2 rfl) ?_
  refine l_arg (j := 1) C hk hS (lv_at hl 3 rfl) (lv_at hl 0 rfl) (by decide) x1 d_law_207 d_law_208 d_law_209 d_law_210 d_law_211 (by decide) ?_
  refine l_arg (j := 2) C hk hS (lv_at hl 3 rfl) (lv_at hl 0 rfl) (by decide) x2 d_law_212 d_law_213 d_law_214 d_law_215 d_law_216 (by decide) ?_
  refine l_arg (j := 3) C hk hS (lv_at hl 3 rfl) (lv_at hl 0 rfl) (by decide) x3 d_law_217 d_law_218 d_law_219 d_law_220 d_law_221 (by decide) ?_
  refine l_arg (j := 4) C hk hS (lv_at hl 3 rfl) (lv_at hl 0 rfl) (by decide) x4 d_law_222 d_law_223 d_law_224 d_law_225 d_law_226 (by decide) ?_
  refine l_callN (i := 23) (M' := 16) (nl := 7) (st := [.inl a4, .inl a3, .inl a2, .inl a1, .inr (some 0)]) (as := [.inr (some 0), .inl a1, .inl a2, .inl a3, .inl a4]) (rest := []) C d_law_227 (cal_termX tX) rfl rfl hWX hS hl.1 ⟨rfl, rfl, rfl, rfl, ⟨q0, hq0, rfl⟩, trivial⟩ hq0 pX rX (by show _ ≤ 790000; omega) (by show _ ≤ 7390000; omega) fun H1 locs1 ads1 st1 hW1 hz1 hS1 hst1 hk1 hn1 hc1 => ?_
  obtain ⟨a9, hst1⟩ := hst1
  have e1 := vr1 hst1
  subst e1
  obtain ⟨hWM1, hd1⟩ := two_on hWM hd hk1 hn1
  refine lv_aload_n hx hb d_law_230 rfl (lv_at hl 1 rfl) ?_
  refine l_arg (j := 1) C hk hS1 (lv_at hl 3 rfl) (lv_at hl 0 rfl) (by decide) x1 d_law_231 d_law_232 d_law_233 d_law_234 d_law_235 (by decide) ?_
  refine l_arg (j := 2) C hk hS1 (lv_at hl 3 rfl) (lv_at hl 0 rfl) (by decide) x2 d_law_236 d_law_237 d_law_238 d_law_239 d_law_240 (by decide) ?_
  refine l_arg (j := 3) C hk hS1 (lv_at hl 3 rfl) (lv_at hl 0 rfl) (by decide) x3 d_law_241 d_law_242 d_law_243 d_law_244 d_law_245 (by decide) ?_
  refine l_arg (j := 4) C hk hS1 (lv_at hl 3 rfl) (lv_at hl 0 rfl) (by decide) x4 d_law_246 d_law_247 d_law_248 d_law_249 d_law_250 (by decide) ?_
  refine l_callN (i := 27) (M' := 96) (nl := 8) (st := [.inl a4, .inl a3, .inl a2, .inl a1, .inr (some 0), .inl v]) (as := [.inr (some 0), .inl a1, .inl a2, .inl a3, .inl a4]) (rest := [.inl v]) C d_law_251 (cal_termM tM) rfl rfl hWM1 hS1 hl.1 ⟨rfl, rfl, rfl, rfl, ⟨q1, hq1, rfl⟩, rfl, trivial⟩ hq1 pM rM (by show _ ≤ 790000; omega) (by show _ ≤ 7390000; omega) fun H2 locs2 ads2 st2 hW2 hz2 hS2 hst2 hk2 hn2 hc2 => ?_
  obtain ⟨a8, hst2⟩ := hst2
  have e2 := vr2 hst2
  subst e2
  obtain ⟨hWX2, hd2⟩ := two_on hW1 (fun q hq hq2 => hd1 q hq2 hq) hk2 hn2
  refine l_tail C hl d_law_254 (by decide) fun ls hl => ?_
  refine W.widen (k := nC (k + 1)) (n := nS (k + 1)) (by unfold nC; omega) (by unfold nS; omega) ?_
  exact kk H2 locs2 ls ⟨ads1, ads2, q0, q1, hWX2, hW2, fun q hq hq2 => hd2 q hq2 hq, hz1, hz2, hS2, hl, by omega⟩
theorem cal_greaterX {h : List MC} {a1 a2 : Int32} (ht : (h[0]?).map (·.1) = some 20) : mcal 14 10 (.invokevirtual 42) 3 [.inl a2, .inl a1, .inr (some 0)] h = some (30, 9, [.inr (some 0), .inl a1, .inl a2], []) := by
  match h, ht with
  | (t, vs) :: r, ht =>
    have e : t = 20 := by simpa using ht
    subst e
    rfl
theorem cal_greaterM {h : List MC} {a1 a2 w : Int32} (ht : (h[0]?).map (·.1) = some 21) : mcal 14 10 (.invokevirtual 45) 3 [.inl a2, .inl a1, .inr (some 0), .inl w] h = some (104, 9, [.inr (some 0), .inl a1, .inl a2], [.inl w]) := by
  match h, ht with
  | (t, vs) :: r, ht =>
    have e : t = 21 := by simpa using ht
    subst e
    rfl
set_option maxRecDepth 1000000 in
set_option maxHeartbeats 40000000 in
/-- greater -/
theorem st_greater {k N cM : Nat} {hX hX1 hM hM1 : List MC} {v : Int32} {a1 a2 : Int32} (C : lw_At p s m meth c b 3072 xs) (hk : k < 512) (x0 : xs (6 * k) = 6) (x1 : xs (6 * k + 1) = a1) (x2 : xs (6 * k + 2) = a2) (I : IV D s b k hX hM N H locs ls) (tX : (hX[0]?).map (·.1) = some 20) (tM : (hM[0]?).map (·.1) = some 21) (pX : 0 < hX1.length) (pM : 0 < hM1.length) (rX : Run2 30 3 [.inr (some 0), .inl a1, .inl a2] hX hX1 v 0 1 24) (rM : Run2 104 3 [.inr (some 0), .inl a1, .inl a2] hM hM1 v cM 1490 7980)
    (kk : ∀ (H : Heap) (locs : List Loc) (ls : Array Slot), IV D s b (k + 1) hX1 hM1 (N + cM) H locs ls → LG p l e s m below meth c b H locs (nC (k + 1)) (nS (k + 1)) 18 ls []) : LG p l e s m below meth c b H locs (nC k) (nS k) 18 ls [] := by
  obtain ⟨adsX, adsM, q0, q1, hWX, hWM, hd, hq0, hq1, hS, hl, hN⟩ := I
  have hx := C.1
  have hb := C.2.1
  have hc1 := nC_le hk
  have hs1 := nS_le hk
  refine l_head (tgt := 348) (off := 315) C hk x0 hS hl (by decide) (by decide) (by decide) (by decide) ?_
  refine lv_aload_n hx hb d_law_348 rfl (lv_at hl 2 rfl) ?_
  refine l_arg (j := 1) C hk hS (lv_at hl 3 rfl) (lv_at hl 0 rfl) (by decide) x1 d_law_349 d_law_350 d_law_351 d_law_352 d_law_353 (by decide) ?_
  refine l_arg (j := 2) C hk hS (lv_at hl 3 rfl) (lv_at hl 0 rfl) (by decide) x2 d_law_354 d_law_355 d_law_356 d_law_357 d_law_358 (by decide) ?_
  refine l_callN (i := 42) (M' := 30) (nl := 3) (st := [.inl a2, .inl a1, .inr (some 0)]) (as := [.inr (some 0), .inl a1, .inl a2]) (rest := []) C d_law_359 (cal_greaterX tX) rfl rfl hWX hS hl.1 ⟨rfl, rfl, ⟨q0, hq0, rfl⟩, trivial⟩ hq0 pX rX (by show _ ≤ 790000; omega) (by show _ ≤ 7390000; omega) fun H1 locs1 ads1 st1 hW1 hz1 hS1 hst1 hk1 hn1 hc1 => ?_
  obtain ⟨a9, hst1⟩ := hst1
  have e1 := vr1 hst1
  subst e1
  obtain ⟨hWM1, hd1⟩ := two_on hWM hd hk1 hn1
  refine lv_aload_n hx hb d_law_362 rfl (lv_at hl 1 rfl) ?_
  refine l_arg (j := 1) C hk hS1 (lv_at hl 3 rfl) (lv_at hl 0 rfl) (by decide) x1 d_law_363 d_law_364 d_law_365 d_law_366 d_law_367 (by decide) ?_
  refine l_arg (j := 2) C hk hS1 (lv_at hl 3 rfl) (lv_at hl 0 rfl) (by decide) x2 d_law_368 d_law_369 d_law_370 d_law_371 d_law_372 (by decide) ?_
  refine l_callN (i := 45) (M' := 104) (nl := 3) (st := [.inl a2, .inl a1, .inr (some 0), .inl v]) (as := [.inr (some 0), .inl a1, .inl a2]) (rest := [.inl v]) C d_law_373 (cal_greaterM tM) rfl rfl hWM1 hS1 hl.1 ⟨rfl, rfl, ⟨q1, hq1, rfl⟩, rfl, trivial⟩ hq1 pM rM (by show _ ≤ 790000; omega) (by show _ ≤ 7390000; omega) fun H2 locs2 ads2 st2 hW2 hz2 hS2 hst2 hk2 hn2 hc2 => ?_
  obtain ⟨a8, hst2⟩ := hst2
  have e2 := vr2 hst2
  subst e2
  obtain ⟨hWX2, hd2⟩ := two_on hW1 (fun q hq hq2 => hd1 q hq2 hq) hk2 hn2
  refine l_tail C hl d_law_376 (by decide) fun ls hl => ?_
  refine W.widen (k := nC (k + 1)) (n := nS (k + 1)) (by unfold nC; omega) (by unfold nS; omega) ?_
  exact kk H2 locs2 ls ⟨ads1, ads2, q0, q1, hWX2, hW2, fun q hq hq2 => hd2 q hq2 hq, hz1, hz2, hS2, hl, by omega⟩
end LW
end
section
/-! THE LAW ON THE SCRIPT: greater(6, 11) again and again, to the end -/
/-- the script: fourteen calls that set up, then 498 times greater(6, 11) -/
def scr (j : Nat) : Int32 := if j < 84 then ([0, 0, 0, 0, 0, 0, 0, 1, 0, 0, 0, 0, 0, 2, 0, 0, 0, 0, 2, 1, 0, 0, 0, 0, 2, 2, 2, 1, 1, 0, 2, 3, 2, 2, 2, 0, 2, 4, 2, 3, 3, 0, 2, 5, 2, 4, 3, 0, 2, 6, 1, 5, 0, 0, 2, 7, 2, 0, 0, 0, 2, 8, 2, 7, 7, 0, 2, 9, 2, 8, 8, 0, 2, 10, 2, 9, 8, 0, 2, 11, 1, 10, 0, 0] : List Int32).getD j 0 else ([6, 6, 11, 0, 0, 0] : List Int32).getD (j % 6) 0
theorem scr_g {k j : Nat} (hk : 14 ≤ k) (hj : j < 6) : scr (6 * k + j) = ([6, 6, 11, 0, 0, 0] : List Int32).getD j 0 := by
  unfold scr
  rw [if_neg (by omega), show (6 * k + j) % 6 = j by omega]
section LW
variable {p : Program} {l : Launch} {e : Env} {s : State} {m : MethodId} {below : List Frame} {meth : Method} {c : Code} {D : va_G} {b : Nat}
theorem l_exit {hX hM : List MC} {N cells slots : Nat} {H : Heap} {locs : List Loc} {ls : Array Slot} {xs : Nat → Int32} (C : lw_At p s m meth c b 3072 xs) (hN : 742020 ≤ N) (I : IV D s b 512 hX hM N H locs ls) : LG p l e s m below meth c b H locs cells slots 18 ls [] := by
  obtain ⟨adsX, adsM, q0, q1, hWX, hWM, hd, hq0, hq1, hS, hl, hN2⟩ := I
  obtain ⟨hx, hb, hr, -, -, -, hX, hbl, hlocks⟩ := id C
  refine lv_iload_n hx hb d_law_18 rfl (lv_at hl 0 rfl) ?_
  refine lv_aload_n hx hb d_law_19 rfl (lv_at hl 3 rfl) ?_
  refine va_slen (A := lA s) hx hb hX hbl (Nat.not_le.mpr hbl) hS d_law_20 ?_
  refine lv_bipush (v := 6) hx hb d_law_21 (by decide) ?_
  refine lv_isub hx hb d_law_23 ?_
  refine lv_icmp_gt (tgt := 835) hx hb d_law_24 (by decide) (fun _ => ?_) (fun hn => absurd iv_out hn)
  refine lv_iconst (v := 1) hx hb d_law_835 (by decide) ?_
  exact b_ret hx hb hr hlocks (by omega) d_law_836
theorem loopG {hX hM : List MC} (C : lw_At p s m meth c b 3072 scr) (tX : (hX[0]?).map (·.1) = some 20) (tM : (hM[0]?).map (·.1) = some 21) (pX : 0 < hX.length) (pM : 0 < hM.length) (rX : Run2 30 3 [.inr (some 0), .inl 6, .inl 11] hX hX 0 0 1 24) (rM : Run2 104 3 [.inr (some 0), .inl 6, .inl 11] hM hM 0 1490 1490 7980) :
    ∀ (n k N : Nat) (H : Heap) (locs : List Loc) (ls : Array Slot), k + n = 512 → 14 ≤ k → 1490 * (k - 14) ≤ N → IV D s b k hX hM N H locs ls → LG p l e s m below meth c b H locs (nC k) (nS k) 18 ls []
  | 0, k, N, H, locs, ls, h1, h2, h3, I => by
    have e : k = 512 := by omega
    subst e
    exact l_exit C (by omega) I
  | n + 1, k, N, H, locs, ls, h1, h2, h3, I => by
    refine st_greater (v := 0) C (by omega) (scr_g (j := 0) h2 (by decide)) (scr_g (j := 1) h2 (by decide)) (scr_g (j := 2) h2 (by decide)) I tX tM pX pM rX rM fun H locs ls I => ?_
    exact loopG C tX tM pX pM rX rM n (k + 1) (N + 1490) H locs ls (by omega) (by omega) (by omega) I
end LW
end
section
/-! A START OF WHICH THE STATEMENT SPEAKS: the witness's state (the kit's own start1.aboutOf) with the script in it, on a launch with more room -/
def launchR : Launch := { launch0 with maxCells := 800000, maxSlots := 7400000 }
def scrV : Array Value := ((List.range 3072).map fun j => Value.int (scr j)).toArray
def sR : State := start1.aboutOf scrV
def isAC : Cond → Bool
  | .arrayClass _ => true
  | _ => false
set_option maxRecDepth 16384 in
theorem sR_others : tables_1.all (fun c => (c.onTables && c.keeps) || isAC c || c.before start1.args0 sR) = true := by decide +kernel
theorem ab_vm (a b : Array Value) : (start1.aboutOf a).vm = (start1.aboutOf b).vm := rfl
theorem sR_words : ∀ c ∈ (Cond.code x code maxLocals ret :: tables_1), c.before start1.args0 sR = true := by
  intro c hc
  have h0 := start1.words c hc
  have hw : start1.about.WarmedH sR.vm := by
    unfold sR
    rw [ab_vm scrV start1.cells0]
    exact State.WarmedH.refl start1.about
  rcases List.mem_cons.mp hc with h | h
  · subst h
    exact word_at hw (Or.inl (by decide +kernel)) h0
  · have h1 := List.all_eq_true.mp sR_others c h
    simp only [Bool.or_eq_true] at h1
    rcases h1 with (h1 | h1) | h1
    · exact word_at hw (Or.inl h1) h0
    · refine word_at hw (Or.inr ?_) h0
      cases c <;> first | (simp [isAC] at h1; done) | exact ⟨_, rfl⟩
    · exact h1
end
section
/-! THE LAUNCH WITH MORE ROOM has the same files: what the Statement asks of its lists -/
theorem lR_file (n : String) : launchR.file? n = launch0.file? n := rfl
theorem lR_held_0 : List.all (List.take 120 tables_1) (fun c => Jvm.D.heldByFiles launchR c) = true := by decide +kernel
theorem lR_held_1 : List.all (List.take 120 (List.drop 120 tables_1)) (fun c => Jvm.D.heldByFiles launchR c) = true := by decide +kernel
theorem lR_held_2 : List.all (List.take 120 (List.drop 120 (List.drop 120 tables_1))) (fun c => Jvm.D.heldByFiles launchR c) = true := by decide +kernel
theorem lR_held_3 : List.all (List.take 120 (List.drop 120 (List.drop 120 (List.drop 120 tables_1)))) (fun c => Jvm.D.heldByFiles launchR c) = true := by decide +kernel
theorem lR_held_4 : List.all (List.take 120 (List.drop 120 (List.drop 120 (List.drop 120 (List.drop 120 tables_1))))) (fun c => Jvm.D.heldByFiles launchR c) = true := by decide +kernel
theorem lR_held_5 : List.all (List.take 120 (List.drop 120 (List.drop 120 (List.drop 120 (List.drop 120 (List.drop 120 tables_1)))))) (fun c => Jvm.D.heldByFiles launchR c) = true := by decide +kernel
theorem lR_held_6 : List.all (List.take 120 (List.drop 120 (List.drop 120 (List.drop 120 (List.drop 120 (List.drop 120 (List.drop 120 tables_1))))))) (fun c => Jvm.D.heldByFiles launchR c) = true := by decide +kernel
theorem lR_held_7 : List.all (List.take 120 (List.drop 120 (List.drop 120 (List.drop 120 (List.drop 120 (List.drop 120 (List.drop 120 (List.drop 120 tables_1)))))))) (fun c => Jvm.D.heldByFiles launchR c) = true := by decide +kernel
theorem lR_held_8 : List.all (List.drop 120 (List.drop 120 (List.drop 120 (List.drop 120 (List.drop 120 (List.drop 120 (List.drop 120 (List.drop 120 tables_1)))))))) (fun c => Jvm.D.heldByFiles launchR c) = true := by decide +kernel
theorem lR_held : List.all tables_1 (fun c => Jvm.D.heldByFiles launchR c) = true := (cut_step _ 120 _ lR_held_0 (cut_step _ 120 _ lR_held_1 (cut_step _ 120 _ lR_held_2 (cut_step _ 120 _ lR_held_3 (cut_step _ 120 _ lR_held_4 (cut_step _ 120 _ lR_held_5 (cut_step _ 120 _ lR_held_6 (cut_step _ 120 _ lR_held_7 lR_held_8))))))))
theorem lR_sound : launchR.sound = true := by decide +kernel
theorem lR_lists : Jvm.D.Lists launchR classFile x code maxLocals ret tables_1 room_1 := by
  obtain ⟨-, h2, ⟨c1, c2, c3, c4⟩, -⟩ := lists_1
  refine ⟨lR_sound, h2, ⟨c1, c2, c3, fun y hy => ?_⟩, lR_held⟩
  have h := c4 y hy
  cases y <;> exact h
end
section
/-! THE SETTING UP, closed runs (wip/whole/refute/gen_runs.py): fourteen calls on the desk, the same on the model -/
abbrev hX0 : List MC := hD
def hX1 : List MC := [(20, [.inr (some 2), .inr (some 7), .inr (some 11), .inr (some 17), .inr (some 29), .inr (some 41), .inr (some 37), .inr (some 66), .inr (some 69)]),
  (10, [.inl 120000, .inl 0]),
  (11, [.inr (some 3), .inr (some 4), .inl 1, .inr (some 5), .inr (some 6)]),
  (0, List.replicate 22 (.inl 0)),
  (1, List.replicate 22 (.inl 0)),
  (0, List.replicate 24 (.inl 0)),
  (0, List.replicate 24 (.inl 0)),
  (12, [.inr (some 2), .inr (some 8), .inr (some 9), .inr (some 10)]),
  (0, List.replicate 576 (.inl 0)),
  (0, List.replicate 24 (.inl 0)),
  (0, List.replicate 24 (.inl 0)),
  (13, [.inr (some 2), .inr (some 1), .inr (some 12), .inr (some 13), .inl 0, .inr (some 14), .inl 0, .inr (some 15), .inr (some 16), .inl 0, .inl 0]),
  (0, List.replicate 24 (.inl 0)),
  (0, List.replicate 48 (.inl 0)),
  (0, List.replicate 24 (.inl 0)),
  (0, [.inl 0]),
  (0, [.inl 0]),
  (15, [.inr (some 2), .inr (some 1), .inr (some 18), .inr (some 20), .inr (some 22), .inr (some 24), .inr (some 26), .inr (some 28), .inl 0, .inl 0, .inl 0, .inl 0, .inl 0]),
  (14, [.inr (some 19), .inl 0]),
  (0, List.replicate 96 (.inl 0)),
  (14, [.inr (some 21), .inl 0]),
  (0, List.replicate 24 (.inl 0)),
  (14, [.inr (some 23), .inl 0]),
  (0, List.replicate 68 (.inl 0)),
  (14, [.inr (some 25), .inl 0]),
  (0, List.replicate 48 (.inl 0)),
  (14, [.inr (some 27), .inl 0]),
  (0, List.replicate 24 (.inl 0)),
  (0, List.replicate 12 (.inl 0)),
  (17, [.inr (some 2), .inr (some 11), .inr (some 30), .inr (some 31), .inr (some 33), .inl 0, .inl 0]),
  (0, List.replicate 24 (.inl 0)),
  (14, [.inr (some 32), .inl 0]),
  (0, List.replicate 24 (.inl 0)),
  (16, [.inr (some 34), .inr (some 35), .inl 0]),
  (2, []),
  (2, []),
  (0, [.inl 0]),
  (18, [.inr (some 2), .inr (some 38), .inl 0, .inr (some 39), .inr (some 40)]),
  (0, List.replicate 12 (.inl 0)),
  (0, [.inl 0]),
  (0, [.inl 0]),
  (19, [.inr (some 2), .inr (some 7), .inr (some 11), .inr (some 29), .inr (some 17), .inr (some 37), .inr (some 42), .inr (some 44), .inr (some 46), .inr (some 50), .inr (some 54), .inr (some 58), .inr (some 62), .inl 0]),
  (14, [.inr (some 43), .inl 0]),
  (0, List.replicate 24 (.inl 0)),
  (14, [.inr (some 45), .inl 0]),
  (0, List.replicate 24 (.inl 0)),
  (16, [.inr (some 47), .inr (some 48), .inl 0]),
  (2, List.replicate 16 (.inr (some 49))),
  (2, List.replicate 16 (.inr (some 49))),
  (0, [.inl 0]),
  (16, [.inr (some 51), .inr (some 52), .inl 0]),
  (2, List.replicate 16 (.inr (some 53))),
  (2, List.replicate 16 (.inr (some 53))),
  (0, [.inl 0]),
  (16, [.inr (some 55), .inr (some 56), .inl 0]),
  (2, List.replicate 60 (.inr (some 57))),
  (2, List.replicate 60 (.inr (some 57))),
  (0, [.inl 0]),
  (16, [.inr (some 59), .inr (some 60), .inl 0]),
  (2, List.replicate 16 (.inr (some 61))),
  (2, List.replicate 16 (.inr (some 61))),
  (0, [.inl 0]),
  (16, [.inr (some 63), .inr (some 64), .inl 0]),
  (2, List.replicate 60 (.inr (some 65))),
  (2, List.replicate 60 (.inr (some 65))),
  (0, [.inl 0]),
  (14, [.inr (some 67), .inl 0]),
  (0, List.replicate 24 (.inl 0)),
  (0, [.inl 0]),
  (2, List.replicate 16 (.inr (some 68)))]
set_option maxRecDepth 1000000 in
theorem rX0 : Run2 11 3 [.inr (some 0), .inl 0, .inl 0] hX0 hX1 0 0 1 24 := Run2_of (n := 5000) (by decide +kernel) (by decide +kernel) (by decide +kernel) (by decide +kernel)
def hX2 : List MC := [(20, [.inr (some 2), .inr (some 7), .inr (some 11), .inr (some 17), .inr (some 29), .inr (some 41), .inr (some 37), .inr (some 66), .inr (some 69)]),
  (10, [.inl 120000, .inl 0]),
  (11, [.inr (some 3), .inr (some 4), .inl 2, .inr (some 5), .inr (some 6)]),
  (0, [.inl 0, .inl 0, .inl 0, .inl 0, .inl 0, .inl 0, .inl 0, .inl 0, .inl 0, .inl 0, .inl 0, .inl 0, .inl 0, .inl 1, .inl 0, .inl 0, .inl 0, .inl 0, .inl 0, .inl 0, .inl 0, .inl 0]),
  (1, List.replicate 22 (.inl 0)),
  (0, List.replicate 24 (.inl 0)),
  (0, List.replicate 24 (.inl 0)),
  (12, [.inr (some 2), .inr (some 8), .inr (some 9), .inr (some 10)]),
  (0, List.replicate 576 (.inl 0)),
  (0, List.replicate 24 (.inl 0)),
  (0, List.replicate 24 (.inl 0)),
  (13, [.inr (some 2), .inr (some 1), .inr (some 12), .inr (some 13), .inl 0, .inr (some 14), .inl 0, .inr (some 15), .inr (some 16), .inl 0, .inl 0]),
  (0, List.replicate 24 (.inl 0)),
  (0, List.replicate 48 (.inl 0)),
  (0, List.replicate 24 (.inl 0)),
  (0, [.inl 0]),
  (0, [.inl 0]),
  (15, [.inr (some 2), .inr (some 1), .inr (some 18), .inr (some 20), .inr (some 22), .inr (some 24), .inr (some 26), .inr (some 28), .inl 0, .inl 0, .inl 0, .inl 0, .inl 0]),
  (14, [.inr (some 19), .inl 0]),
  (0, List.replicate 96 (.inl 0)),
  (14, [.inr (some 21), .inl 0]),
  (0, List.replicate 24 (.inl 0)),
  (14, [.inr (some 23), .inl 0]),
  (0, List.replicate 68 (.inl 0)),
  (14, [.inr (some 25), .inl 0]),
  (0, List.replicate 48 (.inl 0)),
  (14, [.inr (some 27), .inl 0]),
  (0, List.replicate 24 (.inl 0)),
  (0, List.replicate 12 (.inl 0)),
  (17, [.inr (some 2), .inr (some 11), .inr (some 30), .inr (some 31), .inr (some 33), .inl 0, .inl 0]),
  (0, List.replicate 24 (.inl 0)),
  (14, [.inr (some 32), .inl 0]),
  (0, List.replicate 24 (.inl 0)),
  (16, [.inr (some 34), .inr (some 35), .inl 0]),
  (2, []),
  (2, []),
  (0, [.inl 0]),
  (18, [.inr (some 2), .inr (some 38), .inl 0, .inr (some 39), .inr (some 40)]),
  (0, List.replicate 12 (.inl 0)),
  (0, [.inl 0]),
  (0, [.inl 0]),
  (19, [.inr (some 2), .inr (some 7), .inr (some 11), .inr (some 29), .inr (some 17), .inr (some 37), .inr (some 42), .inr (some 44), .inr (some 46), .inr (some 50), .inr (some 54), .inr (some 58), .inr (some 62), .inl 0]),
  (14, [.inr (some 43), .inl 0]),
  (0, List.replicate 24 (.inl 0)),
  (14, [.inr (some 45), .inl 0]),
  (0, List.replicate 24 (.inl 0)),
  (16, [.inr (some 47), .inr (some 48), .inl 0]),
  (2, List.replicate 16 (.inr (some 49))),
  (2, List.replicate 16 (.inr (some 49))),
  (0, [.inl 0]),
  (16, [.inr (some 51), .inr (some 52), .inl 0]),
  (2, List.replicate 16 (.inr (some 53))),
  (2, List.replicate 16 (.inr (some 53))),
  (0, [.inl 0]),
  (16, [.inr (some 55), .inr (some 56), .inl 0]),
  (2, List.replicate 60 (.inr (some 57))),
  (2, List.replicate 60 (.inr (some 57))),
  (0, [.inl 0]),
  (16, [.inr (some 59), .inr (some 60), .inl 0]),
  (2, List.replicate 16 (.inr (some 61))),
  (2, List.replicate 16 (.inr (some 61))),
  (0, [.inl 0]),
  (16, [.inr (some 63), .inr (some 64), .inl 0]),
  (2, List.replicate 60 (.inr (some 65))),
  (2, List.replicate 60 (.inr (some 65))),
  (0, [.inl 0]),
  (14, [.inr (some 67), .inl 0]),
  (0, List.replicate 24 (.inl 0)),
  (0, [.inl 0]),
  (2, List.replicate 16 (.inr (some 68)))]
set_option maxRecDepth 1000000 in
theorem rX1 : Run2 11 3 [.inr (some 0), .inl 1, .inl 0] hX1 hX2 1 0 1 24 := Run2_of (n := 5000) (by decide +kernel) (by decide +kernel) (by decide +kernel) (by decide +kernel)
def hX3 : List MC := [(20, [.inr (some 2), .inr (some 7), .inr (some 11), .inr (some 17), .inr (some 29), .inr (some 41), .inr (some 37), .inr (some 66), .inr (some 69)]),
  (10, [.inl 120000, .inl 0]),
  (11, [.inr (some 3), .inr (some 4), .inl 3, .inr (some 5), .inr (some 6)]),
  (0, [.inl 0, .inl 0, .inl 0, .inl 0, .inl 0, .inl 0, .inl 0, .inl 0, .inl 0, .inl 0, .inl 0, .inl 0, .inl 0, .inl 1, .inl 2, .inl 0, .inl 0, .inl 0, .inl 0, .inl 0, .inl 0, .inl 0]),
  (1, List.replicate 22 (.inl 0)),
  (0, List.replicate 24 (.inl 0)),
  (0, List.replicate 24 (.inl 0)),
  (12, [.inr (some 2), .inr (some 8), .inr (some 9), .inr (some 10)]),
  (0, List.replicate 576 (.inl 0)),
  (0, List.replicate 24 (.inl 0)),
  (0, List.replicate 24 (.inl 0)),
  (13, [.inr (some 2), .inr (some 1), .inr (some 12), .inr (some 13), .inl 0, .inr (some 14), .inl 0, .inr (some 15), .inr (some 16), .inl 0, .inl 0]),
  (0, List.replicate 24 (.inl 0)),
  (0, List.replicate 48 (.inl 0)),
  (0, List.replicate 24 (.inl 0)),
  (0, [.inl 0]),
  (0, [.inl 0]),
  (15, [.inr (some 2), .inr (some 1), .inr (some 18), .inr (some 20), .inr (some 22), .inr (some 24), .inr (some 26), .inr (some 28), .inl 0, .inl 0, .inl 0, .inl 0, .inl 0]),
  (14, [.inr (some 19), .inl 0]),
  (0, List.replicate 96 (.inl 0)),
  (14, [.inr (some 21), .inl 0]),
  (0, List.replicate 24 (.inl 0)),
  (14, [.inr (some 23), .inl 0]),
  (0, List.replicate 68 (.inl 0)),
  (14, [.inr (some 25), .inl 0]),
  (0, List.replicate 48 (.inl 0)),
  (14, [.inr (some 27), .inl 0]),
  (0, List.replicate 24 (.inl 0)),
  (0, List.replicate 12 (.inl 0)),
  (17, [.inr (some 2), .inr (some 11), .inr (some 30), .inr (some 31), .inr (some 33), .inl 0, .inl 0]),
  (0, List.replicate 24 (.inl 0)),
  (14, [.inr (some 32), .inl 0]),
  (0, List.replicate 24 (.inl 0)),
  (16, [.inr (some 34), .inr (some 35), .inl 0]),
  (2, []),
  (2, []),
  (0, [.inl 0]),
  (18, [.inr (some 2), .inr (some 38), .inl 0, .inr (some 39), .inr (some 40)]),
  (0, List.replicate 12 (.inl 0)),
  (0, [.inl 0]),
  (0, [.inl 0]),
  (19, [.inr (some 2), .inr (some 7), .inr (some 11), .inr (some 29), .inr (some 17), .inr (some 37), .inr (some 42), .inr (some 44), .inr (some 46), .inr (some 50), .inr (some 54), .inr (some 58), .inr (some 62), .inl 0]),
  (14, [.inr (some 43), .inl 0]),
  (0, List.replicate 24 (.inl 0)),
  (14, [.inr (some 45), .inl 0]),
  (0, List.replicate 24 (.inl 0)),
  (16, [.inr (some 47), .inr (some 48), .inl 0]),
  (2, List.replicate 16 (.inr (some 49))),
  (2, List.replicate 16 (.inr (some 49))),
  (0, [.inl 0]),
  (16, [.inr (some 51), .inr (some 52), .inl 0]),
  (2, List.replicate 16 (.inr (some 53))),
  (2, List.replicate 16 (.inr (some 53))),
  (0, [.inl 0]),
  (16, [.inr (some 55), .inr (some 56), .inl 0]),
  (2, List.replicate 60 (.inr (some 57))),
  (2, List.replicate 60 (.inr (some 57))),
  (0, [.inl 0]),
  (16, [.inr (some 59), .inr (some 60), .inl 0]),
  (2, List.replicate 16 (.inr (some 61))),
  (2, List.replicate 16 (.inr (some 61))),
  (0, [.inl 0]),
  (16, [.inr (some 63), .inr (some 64), .inl 0]),
  (2, List.replicate 60 (.inr (some 65))),
  (2, List.replicate 60 (.inr (some 65))),
  (0, [.inl 0]),
  (14, [.inr (some 67), .inl 0]),
  (0, List.replicate 24 (.inl 0)),
  (0, [.inl 0]),
  (2, List.replicate 16 (.inr (some 68)))]
set_option maxRecDepth 1000000 in
theorem rX2 : Run2 11 3 [.inr (some 0), .inl 2, .inl 0] hX2 hX3 2 0 1 24 := Run2_of (n := 5000) (by decide +kernel) (by decide +kernel) (by decide +kernel) (by decide +kernel)
def hX4 : List MC := [(20, [.inr (some 2), .inr (some 7), .inr (some 11), .inr (some 17), .inr (some 29), .inr (some 41), .inr (some 37), .inr (some 66), .inr (some 69)]),
  (10, [.inl 120000, .inl 0]),
  (11, [.inr (some 3), .inr (some 4), .inl 3, .inr (some 5), .inr (some 6)]),
  (0, [.inl 0, .inl 0, .inl 0, .inl 0, .inl 0, .inl 0, .inl 0, .inl 0, .inl 0, .inl 0, .inl 0, .inl 0, .inl 0, .inl 1, .inl 2, .inl 0, .inl 0, .inl 0, .inl 0, .inl 0, .inl 0, .inl 0]),
  (1, List.replicate 22 (.inl 0)),
  (0, [.inl 1, .inl 0, .inl 0, .inl 0, .inl 0, .inl 0, .inl 0, .inl 0, .inl 0, .inl 0, .inl 0, .inl 0, .inl 0, .inl 0, .inl 0, .inl 0, .inl 0, .inl 0, .inl 0, .inl 0, .inl 0, .inl 0, .inl 0, .inl 0]),
  (0, List.replicate 24 (.inl 0)),
  (12, [.inr (some 2), .inr (some 8), .inr (some 9), .inr (some 10)]),
  (0, List.replicate 576 (.inl 0)),
  (0, List.replicate 24 (.inl 0)),
  (0, List.replicate 24 (.inl 0)),
  (13, [.inr (some 2), .inr (some 1), .inr (some 12), .inr (some 13), .inl 0, .inr (some 14), .inl 0, .inr (some 15), .inr (some 16), .inl 0, .inl 0]),
  (0, List.replicate 24 (.inl 0)),
  (0, List.replicate 48 (.inl 0)),
  (0, List.replicate 24 (.inl 0)),
  (0, [.inl 0]),
  (0, [.inl 0]),
  (15, [.inr (some 2), .inr (some 1), .inr (some 18), .inr (some 20), .inr (some 22), .inr (some 24), .inr (some 26), .inr (some 28), .inl 0, .inl 0, .inl 0, .inl 0, .inl 0]),
  (14, [.inr (some 19), .inl 0]),
  (0, List.replicate 96 (.inl 0)),
  (14, [.inr (some 21), .inl 0]),
  (0, List.replicate 24 (.inl 0)),
  (14, [.inr (some 23), .inl 0]),
  (0, List.replicate 68 (.inl 0)),
  (14, [.inr (some 25), .inl 0]),
  (0, List.replicate 48 (.inl 0)),
  (14, [.inr (some 27), .inl 0]),
  (0, List.replicate 24 (.inl 0)),
  (0, List.replicate 12 (.inl 0)),
  (17, [.inr (some 2), .inr (some 11), .inr (some 30), .inr (some 31), .inr (some 33), .inl 0, .inl 0]),
  (0, List.replicate 24 (.inl 0)),
  (14, [.inr (some 32), .inl 0]),
  (0, List.replicate 24 (.inl 0)),
  (16, [.inr (some 34), .inr (some 35), .inl 0]),
  (2, []),
  (2, []),
  (0, [.inl 0]),
  (18, [.inr (some 2), .inr (some 38), .inl 0, .inr (some 39), .inr (some 40)]),
  (0, List.replicate 12 (.inl 0)),
  (0, [.inl 0]),
  (0, [.inl 0]),
  (19, [.inr (some 2), .inr (some 7), .inr (some 11), .inr (some 29), .inr (some 17), .inr (some 37), .inr (some 42), .inr (some 44), .inr (some 46), .inr (some 50), .inr (some 54), .inr (some 58), .inr (some 62), .inl 0]),
  (14, [.inr (some 43), .inl 0]),
  (0, List.replicate 24 (.inl 0)),
  (14, [.inr (some 45), .inl 0]),
  (0, List.replicate 24 (.inl 0)),
  (16, [.inr (some 47), .inr (some 48), .inl 0]),
  (2, List.replicate 16 (.inr (some 49))),
  (2, List.replicate 16 (.inr (some 49))),
  (0, [.inl 0]),
  (16, [.inr (some 51), .inr (some 52), .inl 0]),
  (2, List.replicate 16 (.inr (some 53))),
  (2, List.replicate 16 (.inr (some 53))),
  (0, [.inl 0]),
  (16, [.inr (some 55), .inr (some 56), .inl 0]),
  (2, List.replicate 60 (.inr (some 57))),
  (2, List.replicate 60 (.inr (some 57))),
  (0, [.inl 0]),
  (16, [.inr (some 59), .inr (some 60), .inl 0]),
  (2, List.replicate 16 (.inr (some 61))),
  (2, List.replicate 16 (.inr (some 61))),
  (0, [.inl 0]),
  (16, [.inr (some 63), .inr (some 64), .inl 0]),
  (2, List.replicate 60 (.inr (some 65))),
  (2, List.replicate 60 (.inr (some 65))),
  (0, [.inl 0]),
  (14, [.inr (some 67), .inl 1]),
  (0, [.inl 12, .inl 0, .inl 0, .inl 0, .inl 0, .inl 0, .inl 0, .inl 0, .inl 0, .inl 0, .inl 0, .inl 0, .inl 0, .inl 0, .inl 0, .inl 0, .inl 0, .inl 0, .inl 0, .inl 0, .inl 0, .inl 0, .inl 0, .inl 0]),
  (0, [.inl 0]),
  (2, [.inr (some 68), .inr (some 70), .inr (some 68), .inr (some 68), .inr (some 68), .inr (some 68), .inr (some 68), .inr (some 68), .inr (some 68), .inr (some 68), .inr (some 68), .inr (some 68), .inr (some 68), .inr (some 68), .inr (some 68), .inr (some 68)]),
  (0, [.inl 12])]
set_option maxRecDepth 1000000 in
theorem rX3 : Run2 16 7 [.inr (some 0), .inl 1, .inl 0, .inl 0, .inl 0] hX3 hX4 1 0 1 24 := Run2_of (n := 5000) (by decide +kernel) (by decide +kernel) (by decide +kernel) (by decide +kernel)
def hX5 : List MC := [(20, [.inr (some 2), .inr (some 7), .inr (some 11), .inr (some 17), .inr (some 29), .inr (some 41), .inr (some 37), .inr (some 66), .inr (some 69)]),
  (10, [.inl 120000, .inl 0]),
  (11, [.inr (some 3), .inr (some 4), .inl 3, .inr (some 5), .inr (some 6)]),
  (0, [.inl 0, .inl 0, .inl 0, .inl 0, .inl 0, .inl 0, .inl 0, .inl 0, .inl 0, .inl 0, .inl 0, .inl 0, .inl 0, .inl 1, .inl 2, .inl 0, .inl 0, .inl 0, .inl 0, .inl 0, .inl 0, .inl 0]),
  (1, List.replicate 22 (.inl 0)),
  (0, [.inl 3, .inl 2, .inl 3, .inl 0, .inl 0, .inl 0, .inl 0, .inl 0, .inl 0, .inl 0, .inl 0, .inl 0, .inl 0, .inl 0, .inl 0, .inl 0, .inl 0, .inl 0, .inl 0, .inl 0, .inl 0, .inl 0, .inl 0, .inl 0]),
  (0, List.replicate 24 (.inl 0)),
  (12, [.inr (some 2), .inr (some 8), .inr (some 9), .inr (some 10)]),
  (0, List.replicate 576 (.inl 0)),
  (0, List.replicate 24 (.inl 0)),
  (0, List.replicate 24 (.inl 0)),
  (13, [.inr (some 2), .inr (some 1), .inr (some 12), .inr (some 13), .inl 0, .inr (some 14), .inl 0, .inr (some 15), .inr (some 16), .inl 0, .inl 0]),
  (0, List.replicate 24 (.inl 0)),
  (0, List.replicate 48 (.inl 0)),
  (0, List.replicate 24 (.inl 0)),
  (0, [.inl 0]),
  (0, [.inl 0]),
  (15, [.inr (some 2), .inr (some 1), .inr (some 18), .inr (some 20), .inr (some 22), .inr (some 24), .inr (some 26), .inr (some 28), .inl 0, .inl 0, .inl 0, .inl 0, .inl 0]),
  (14, [.inr (some 19), .inl 0]),
  (0, List.replicate 96 (.inl 0)),
  (14, [.inr (some 21), .inl 0]),
  (0, List.replicate 24 (.inl 0)),
  (14, [.inr (some 23), .inl 0]),
  (0, List.replicate 68 (.inl 0)),
  (14, [.inr (some 25), .inl 0]),
  (0, List.replicate 48 (.inl 0)),
  (14, [.inr (some 27), .inl 0]),
  (0, List.replicate 24 (.inl 0)),
  (0, List.replicate 12 (.inl 0)),
  (17, [.inr (some 2), .inr (some 11), .inr (some 30), .inr (some 31), .inr (some 33), .inl 0, .inl 0]),
  (0, List.replicate 24 (.inl 0)),
  (14, [.inr (some 32), .inl 0]),
  (0, List.replicate 24 (.inl 0)),
  (16, [.inr (some 34), .inr (some 35), .inl 0]),
  (2, []),
  (2, []),
  (0, [.inl 0]),
  (18, [.inr (some 2), .inr (some 38), .inl 0, .inr (some 39), .inr (some 40)]),
  (0, List.replicate 12 (.inl 0)),
  (0, [.inl 0]),
  (0, [.inl 0]),
  (19, [.inr (some 2), .inr (some 7), .inr (some 11), .inr (some 29), .inr (some 17), .inr (some 37), .inr (some 42), .inr (some 44), .inr (some 46), .inr (some 50), .inr (some 54), .inr (some 58), .inr (some 62), .inl 0]),
  (14, [.inr (some 43), .inl 0]),
  (0, List.replicate 24 (.inl 0)),
  (14, [.inr (some 45), .inl 0]),
  (0, List.replicate 24 (.inl 0)),
  (16, [.inr (some 47), .inr (some 48), .inl 0]),
  (2, List.replicate 16 (.inr (some 49))),
  (2, List.replicate 16 (.inr (some 49))),
  (0, [.inl 0]),
  (16, [.inr (some 51), .inr (some 52), .inl 0]),
  (2, List.replicate 16 (.inr (some 53))),
  (2, List.replicate 16 (.inr (some 53))),
  (0, [.inl 0]),
  (16, [.inr (some 55), .inr (some 56), .inl 0]),
  (2, List.replicate 60 (.inr (some 57))),
  (2, List.replicate 60 (.inr (some 57))),
  (0, [.inl 0]),
  (16, [.inr (some 59), .inr (some 60), .inl 0]),
  (2, List.replicate 16 (.inr (some 61))),
  (2, List.replicate 16 (.inr (some 61))),
  (0, [.inl 0]),
  (16, [.inr (some 63), .inr (some 64), .inl 0]),
  (2, List.replicate 60 (.inr (some 65))),
  (2, List.replicate 60 (.inr (some 65))),
  (0, [.inl 0]),
  (14, [.inr (some 67), .inl 3]),
  (0, [.inl 14, .inl 12, .inl 12, .inl 0, .inl 0, .inl 0, .inl 0, .inl 0, .inl 0, .inl 0, .inl 0, .inl 0, .inl 0, .inl 0, .inl 0, .inl 0, .inl 0, .inl 0, .inl 0, .inl 0, .inl 0, .inl 0, .inl 0, .inl 0]),
  (0, [.inl 0]),
  (2, [.inr (some 68), .inr (some 70), .inr (some 71), .inr (some 68), .inr (some 68), .inr (some 68), .inr (some 68), .inr (some 68), .inr (some 68), .inr (some 68), .inr (some 68), .inr (some 68), .inr (some 68), .inr (some 68), .inr (some 68), .inr (some 68)]),
  (0, [.inl 12]),
  (0, [.inl 14, .inl 12, .inl 12])]
set_option maxRecDepth 1000000 in
theorem rX4 : Run2 16 7 [.inr (some 0), .inl 2, .inl 2, .inl 1, .inl 1] hX4 hX5 1 0 1 24 := Run2_of (n := 5000) (by decide +kernel) (by decide +kernel) (by decide +kernel) (by decide +kernel)
def hX6 : List MC := [(20, [.inr (some 2), .inr (some 7), .inr (some 11), .inr (some 17), .inr (some 29), .inr (some 41), .inr (some 37), .inr (some 66), .inr (some 69)]),
  (10, [.inl 120000, .inl 0]),
  (11, [.inr (some 3), .inr (some 4), .inl 3, .inr (some 5), .inr (some 6)]),
  (0, [.inl 0, .inl 0, .inl 0, .inl 0, .inl 0, .inl 0, .inl 0, .inl 0, .inl 0, .inl 0, .inl 0, .inl 0, .inl 0, .inl 1, .inl 2, .inl 0, .inl 0, .inl 0, .inl 0, .inl 0, .inl 0, .inl 0]),
  (1, List.replicate 22 (.inl 0)),
  (0, [.inl 7, .inl 4, .inl 3, .inl 4, .inl 7, .inl 6, .inl 7, .inl 0, .inl 0, .inl 0, .inl 0, .inl 0, .inl 0, .inl 0, .inl 0, .inl 0, .inl 0, .inl 0, .inl 0, .inl 0, .inl 0, .inl 0, .inl 0, .inl 0]),
  (0, List.replicate 24 (.inl 0)),
  (12, [.inr (some 2), .inr (some 8), .inr (some 9), .inr (some 10)]),
  (0, List.replicate 576 (.inl 0)),
  (0, List.replicate 24 (.inl 0)),
  (0, List.replicate 24 (.inl 0)),
  (13, [.inr (some 2), .inr (some 1), .inr (some 12), .inr (some 13), .inl 0, .inr (some 14), .inl 0, .inr (some 15), .inr (some 16), .inl 0, .inl 0]),
  (0, List.replicate 24 (.inl 0)),
  (0, List.replicate 48 (.inl 0)),
  (0, List.replicate 24 (.inl 0)),
  (0, [.inl 0]),
  (0, [.inl 0]),
  (15, [.inr (some 2), .inr (some 1), .inr (some 18), .inr (some 20), .inr (some 22), .inr (some 24), .inr (some 26), .inr (some 28), .inl 0, .inl 0, .inl 0, .inl 0, .inl 0]),
  (14, [.inr (some 19), .inl 0]),
  (0, List.replicate 96 (.inl 0)),
  (14, [.inr (some 21), .inl 0]),
  (0, List.replicate 24 (.inl 0)),
  (14, [.inr (some 23), .inl 0]),
  (0, List.replicate 68 (.inl 0)),
  (14, [.inr (some 25), .inl 0]),
  (0, List.replicate 48 (.inl 0)),
  (14, [.inr (some 27), .inl 0]),
  (0, List.replicate 24 (.inl 0)),
  (0, List.replicate 12 (.inl 0)),
  (17, [.inr (some 2), .inr (some 11), .inr (some 30), .inr (some 31), .inr (some 33), .inl 0, .inl 0]),
  (0, List.replicate 24 (.inl 0)),
  (14, [.inr (some 32), .inl 0]),
  (0, List.replicate 24 (.inl 0)),
  (16, [.inr (some 34), .inr (some 35), .inl 0]),
  (2, []),
  (2, []),
  (0, [.inl 0]),
  (18, [.inr (some 2), .inr (some 38), .inl 0, .inr (some 39), .inr (some 40)]),
  (0, List.replicate 12 (.inl 0)),
  (0, [.inl 0]),
  (0, [.inl 0]),
  (19, [.inr (some 2), .inr (some 7), .inr (some 11), .inr (some 29), .inr (some 17), .inr (some 37), .inr (some 42), .inr (some 44), .inr (some 46), .inr (some 50), .inr (some 54), .inr (some 58), .inr (some 62), .inl 0]),
  (14, [.inr (some 43), .inl 0]),
  (0, List.replicate 24 (.inl 0)),
  (14, [.inr (some 45), .inl 0]),
  (0, List.replicate 24 (.inl 0)),
  (16, [.inr (some 47), .inr (some 48), .inl 0]),
  (2, List.replicate 16 (.inr (some 49))),
  (2, List.replicate 16 (.inr (some 49))),
  (0, [.inl 0]),
  (16, [.inr (some 51), .inr (some 52), .inl 0]),
  (2, List.replicate 16 (.inr (some 53))),
  (2, List.replicate 16 (.inr (some 53))),
  (0, [.inl 0]),
  (16, [.inr (some 55), .inr (some 56), .inl 0]),
  (2, List.replicate 60 (.inr (some 57))),
  (2, List.replicate 60 (.inr (some 57))),
  (0, [.inl 0]),
  (16, [.inr (some 59), .inr (some 60), .inl 0]),
  (2, List.replicate 16 (.inr (some 61))),
  (2, List.replicate 16 (.inr (some 61))),
  (0, [.inl 0]),
  (16, [.inr (some 63), .inr (some 64), .inl 0]),
  (2, List.replicate 60 (.inr (some 65))),
  (2, List.replicate 60 (.inr (some 65))),
  (0, [.inl 0]),
  (14, [.inr (some 67), .inl 7]),
  (0, [.inl 14, .inl 14, .inl 12, .inl 12, .inl 14, .inl 12, .inl 12, .inl 0, .inl 0, .inl 0, .inl 0, .inl 0, .inl 0, .inl 0, .inl 0, .inl 0, .inl 0, .inl 0, .inl 0, .inl 0, .inl 0, .inl 0, .inl 0, .inl 0]),
  (0, [.inl 0]),
  (2, [.inr (some 68), .inr (some 70), .inr (some 71), .inr (some 72), .inr (some 68), .inr (some 68), .inr (some 68), .inr (some 68), .inr (some 68), .inr (some 68), .inr (some 68), .inr (some 68), .inr (some 68), .inr (some 68), .inr (some 68), .inr (some 68)]),
  (0, [.inl 12]),
  (0, [.inl 14, .inl 12, .inl 12]),
  (0, [.inl 14, .inl 14, .inl 12, .inl 12, .inl 14, .inl 12, .inl 12])]
set_option maxRecDepth 1000000 in
theorem rX5 : Run2 16 7 [.inr (some 0), .inl 3, .inl 2, .inl 2, .inl 2] hX5 hX6 1 0 1 24 := Run2_of (n := 5000) (by decide +kernel) (by decide +kernel) (by decide +kernel) (by decide +kernel)
def hX7 : List MC := [(20, [.inr (some 2), .inr (some 7), .inr (some 11), .inr (some 17), .inr (some 29), .inr (some 41), .inr (some 37), .inr (some 66), .inr (some 69)]),
  (10, [.inl 120000, .inl 0]),
  (11, [.inr (some 3), .inr (some 4), .inl 3, .inr (some 5), .inr (some 6)]),
  (0, [.inl 0, .inl 0, .inl 0, .inl 0, .inl 0, .inl 0, .inl 0, .inl 0, .inl 0, .inl 0, .inl 0, .inl 0, .inl 0, .inl 1, .inl 2, .inl 0, .inl 0, .inl 0, .inl 0, .inl 0, .inl 0, .inl 0]),
  (1, List.replicate 22 (.inl 0)),
  (0, [.inl 15, .inl 8, .inl 5, .inl 4, .inl 5, .inl 8, .inl 7, .inl 8, .inl 15, .inl 12, .inl 11, .inl 12, .inl 15, .inl 14, .inl 15, .inl 0, .inl 0, .inl 0, .inl 0, .inl 0, .inl 0, .inl 0, .inl 0, .inl 0]),
  (0, List.replicate 24 (.inl 0)),
  (12, [.inr (some 2), .inr (some 8), .inr (some 9), .inr (some 10)]),
  (0, List.replicate 576 (.inl 0)),
  (0, List.replicate 24 (.inl 0)),
  (0, List.replicate 24 (.inl 0)),
  (13, [.inr (some 2), .inr (some 1), .inr (some 12), .inr (some 13), .inl 0, .inr (some 14), .inl 0, .inr (some 15), .inr (some 16), .inl 0, .inl 0]),
  (0, List.replicate 24 (.inl 0)),
  (0, List.replicate 48 (.inl 0)),
  (0, List.replicate 24 (.inl 0)),
  (0, [.inl 0]),
  (0, [.inl 0]),
  (15, [.inr (some 2), .inr (some 1), .inr (some 18), .inr (some 20), .inr (some 22), .inr (some 24), .inr (some 26), .inr (some 28), .inl 0, .inl 0, .inl 0, .inl 0, .inl 0]),
  (14, [.inr (some 19), .inl 0]),
  (0, List.replicate 96 (.inl 0)),
  (14, [.inr (some 21), .inl 0]),
  (0, List.replicate 24 (.inl 0)),
  (14, [.inr (some 23), .inl 0]),
  (0, List.replicate 68 (.inl 0)),
  (14, [.inr (some 25), .inl 0]),
  (0, List.replicate 48 (.inl 0)),
  (14, [.inr (some 27), .inl 0]),
  (0, List.replicate 24 (.inl 0)),
  (0, List.replicate 12 (.inl 0)),
  (17, [.inr (some 2), .inr (some 11), .inr (some 30), .inr (some 31), .inr (some 33), .inl 0, .inl 0]),
  (0, List.replicate 24 (.inl 0)),
  (14, [.inr (some 32), .inl 0]),
  (0, List.replicate 24 (.inl 0)),
  (16, [.inr (some 34), .inr (some 35), .inl 0]),
  (2, []),
  (2, []),
  (0, [.inl 0]),
  (18, [.inr (some 2), .inr (some 38), .inl 0, .inr (some 39), .inr (some 40)]),
  (0, List.replicate 12 (.inl 0)),
  (0, [.inl 0]),
  (0, [.inl 0]),
  (19, [.inr (some 2), .inr (some 7), .inr (some 11), .inr (some 29), .inr (some 17), .inr (some 37), .inr (some 42), .inr (some 44), .inr (some 46), .inr (some 50), .inr (some 54), .inr (some 58), .inr (some 62), .inl 0]),
  (14, [.inr (some 43), .inl 0]),
  (0, List.replicate 24 (.inl 0)),
  (14, [.inr (some 45), .inl 0]),
  (0, List.replicate 24 (.inl 0)),
  (16, [.inr (some 47), .inr (some 48), .inl 0]),
  (2, List.replicate 16 (.inr (some 49))),
  (2, List.replicate 16 (.inr (some 49))),
  (0, [.inl 0]),
  (16, [.inr (some 51), .inr (some 52), .inl 0]),
  (2, List.replicate 16 (.inr (some 53))),
  (2, List.replicate 16 (.inr (some 53))),
  (0, [.inl 0]),
  (16, [.inr (some 55), .inr (some 56), .inl 0]),
  (2, List.replicate 60 (.inr (some 57))),
  (2, List.replicate 60 (.inr (some 57))),
  (0, [.inl 0]),
  (16, [.inr (some 59), .inr (some 60), .inl 0]),
  (2, List.replicate 16 (.inr (some 61))),
  (2, List.replicate 16 (.inr (some 61))),
  (0, [.inl 0]),
  (16, [.inr (some 63), .inr (some 64), .inl 0]),
  (2, List.replicate 60 (.inr (some 65))),
  (2, List.replicate 60 (.inr (some 65))),
  (0, [.inl 0]),
  (14, [.inr (some 67), .inl 15]),
  (0, [.inl 14, .inl 14, .inl 14, .inl 12, .inl 12, .inl 14, .inl 12, .inl 12, .inl 14, .inl 14, .inl 12, .inl 12, .inl 14, .inl 12, .inl 12, .inl 0, .inl 0, .inl 0, .inl 0, .inl 0, .inl 0, .inl 0, .inl 0, .inl 0]),
  (0, [.inl 0]),
  (2, [.inr (some 68), .inr (some 70), .inr (some 71), .inr (some 72), .inr (some 73), .inr (some 68), .inr (some 68), .inr (some 68), .inr (some 68), .inr (some 68), .inr (some 68), .inr (some 68), .inr (some 68), .inr (some 68), .inr (some 68), .inr (some 68)]),
  (0, [.inl 12]),
  (0, [.inl 14, .inl 12, .inl 12]),
  (0, [.inl 14, .inl 14, .inl 12, .inl 12, .inl 14, .inl 12, .inl 12]),
  (0, [.inl 14, .inl 14, .inl 14, .inl 12, .inl 12, .inl 14, .inl 12, .inl 12, .inl 14, .inl 14, .inl 12, .inl 12, .inl 14, .inl 12, .inl 12])]
set_option maxRecDepth 1000000 in
theorem rX6 : Run2 16 7 [.inr (some 0), .inl 4, .inl 2, .inl 3, .inl 3] hX6 hX7 1 0 1 24 := Run2_of (n := 5000) (by decide +kernel) (by decide +kernel) (by decide +kernel) (by decide +kernel)
def hX8 : List MC := [(20, [.inr (some 2), .inr (some 7), .inr (some 11), .inr (some 17), .inr (some 29), .inr (some 41), .inr (some 37), .inr (some 66), .inr (some 69)]),
  (10, [.inl 120000, .inl 0]),
  (11, [.inr (some 3), .inr (some 4), .inl 3, .inr (some 5), .inr (some 6)]),
  (0, [.inl 0, .inl 0, .inl 0, .inl 0, .inl 0, .inl 0, .inl 0, .inl 0, .inl 0, .inl 0, .inl 0, .inl 0, .inl 0, .inl 1, .inl 2, .inl 0, .inl 0, .inl 0, .inl 0, .inl 0, .inl 0, .inl 0]),
  (1, List.replicate 22 (.inl 0)),
  (0, [.inl 23, .inl 16, .inl 9, .inl 6, .inl 5, .inl 6, .inl 9, .inl 8, .inl 9, .inl 16, .inl 13, .inl 12, .inl 13, .inl 16, .inl 15, .inl 16, .inl 23, .inl 20, .inl 19, .inl 20, .inl 23, .inl 22, .inl 23, .inl 0]),
  (0, List.replicate 24 (.inl 0)),
  (12, [.inr (some 2), .inr (some 8), .inr (some 9), .inr (some 10)]),
  (0, List.replicate 576 (.inl 0)),
  (0, List.replicate 24 (.inl 0)),
  (0, List.replicate 24 (.inl 0)),
  (13, [.inr (some 2), .inr (some 1), .inr (some 12), .inr (some 13), .inl 0, .inr (some 14), .inl 0, .inr (some 15), .inr (some 16), .inl 0, .inl 0]),
  (0, List.replicate 24 (.inl 0)),
  (0, List.replicate 48 (.inl 0)),
  (0, List.replicate 24 (.inl 0)),
  (0, [.inl 0]),
  (0, [.inl 0]),
  (15, [.inr (some 2), .inr (some 1), .inr (some 18), .inr (some 20), .inr (some 22), .inr (some 24), .inr (some 26), .inr (some 28), .inl 0, .inl 0, .inl 0, .inl 0, .inl 0]),
  (14, [.inr (some 19), .inl 0]),
  (0, List.replicate 96 (.inl 0)),
  (14, [.inr (some 21), .inl 0]),
  (0, List.replicate 24 (.inl 0)),
  (14, [.inr (some 23), .inl 0]),
  (0, List.replicate 68 (.inl 0)),
  (14, [.inr (some 25), .inl 0]),
  (0, List.replicate 48 (.inl 0)),
  (14, [.inr (some 27), .inl 0]),
  (0, List.replicate 24 (.inl 0)),
  (0, List.replicate 12 (.inl 0)),
  (17, [.inr (some 2), .inr (some 11), .inr (some 30), .inr (some 31), .inr (some 33), .inl 0, .inl 0]),
  (0, List.replicate 24 (.inl 0)),
  (14, [.inr (some 32), .inl 0]),
  (0, List.replicate 24 (.inl 0)),
  (16, [.inr (some 34), .inr (some 35), .inl 0]),
  (2, []),
  (2, []),
  (0, [.inl 0]),
  (18, [.inr (some 2), .inr (some 38), .inl 0, .inr (some 39), .inr (some 40)]),
  (0, List.replicate 12 (.inl 0)),
  (0, [.inl 0]),
  (0, [.inl 0]),
  (19, [.inr (some 2), .inr (some 7), .inr (some 11), .inr (some 29), .inr (some 17), .inr (some 37), .inr (some 42), .inr (some 44), .inr (some 46), .inr (some 50), .inr (some 54), .inr (some 58), .inr (some 62), .inl 0]),
  (14, [.inr (some 43), .inl 0]),
  (0, List.replicate 24 (.inl 0)),
  (14, [.inr (some 45), .inl 0]),
  (0, List.replicate 24 (.inl 0)),
  (16, [.inr (some 47), .inr (some 48), .inl 0]),
  (2, List.replicate 16 (.inr (some 49))),
  (2, List.replicate 16 (.inr (some 49))),
  (0, [.inl 0]),
  (16, [.inr (some 51), .inr (some 52), .inl 0]),
  (2, List.replicate 16 (.inr (some 53))),
  (2, List.replicate 16 (.inr (some 53))),
  (0, [.inl 0]),
  (16, [.inr (some 55), .inr (some 56), .inl 0]),
  (2, List.replicate 60 (.inr (some 57))),
  (2, List.replicate 60 (.inr (some 57))),
  (0, [.inl 0]),
  (16, [.inr (some 59), .inr (some 60), .inl 0]),
  (2, List.replicate 16 (.inr (some 61))),
  (2, List.replicate 16 (.inr (some 61))),
  (0, [.inl 0]),
  (16, [.inr (some 63), .inr (some 64), .inl 0]),
  (2, List.replicate 60 (.inr (some 65))),
  (2, List.replicate 60 (.inr (some 65))),
  (0, [.inl 0]),
  (14, [.inr (some 67), .inl 23]),
  (0, [.inl 14, .inl 14, .inl 14, .inl 14, .inl 12, .inl 12, .inl 14, .inl 12, .inl 12, .inl 14, .inl 14, .inl 12, .inl 12, .inl 14, .inl 12, .inl 12, .inl 14, .inl 14, .inl 12, .inl 12, .inl 14, .inl 12, .inl 12, .inl 0]),
  (0, [.inl 0]),
  (2, [.inr (some 68), .inr (some 70), .inr (some 71), .inr (some 72), .inr (some 73), .inr (some 74), .inr (some 68), .inr (some 68), .inr (some 68), .inr (some 68), .inr (some 68), .inr (some 68), .inr (some 68), .inr (some 68), .inr (some 68), .inr (some 68)]),
  (0, [.inl 12]),
  (0, [.inl 14, .inl 12, .inl 12]),
  (0, [.inl 14, .inl 14, .inl 12, .inl 12, .inl 14, .inl 12, .inl 12]),
  (0, [.inl 14, .inl 14, .inl 14, .inl 12, .inl 12, .inl 14, .inl 12, .inl 12, .inl 14, .inl 14, .inl 12, .inl 12, .inl 14, .inl 12, .inl 12]),
  (0, [.inl 14, .inl 14, .inl 14, .inl 14, .inl 12, .inl 12, .inl 14, .inl 12, .inl 12, .inl 14, .inl 14, .inl 12, .inl 12, .inl 14, .inl 12, .inl 12, .inl 14, .inl 14, .inl 12, .inl 12, .inl 14, .inl 12, .inl 12])]
set_option maxRecDepth 1000000 in
theorem rX7 : Run2 16 7 [.inr (some 0), .inl 5, .inl 2, .inl 4, .inl 3] hX7 hX8 1 0 1 24 := Run2_of (n := 5000) (by decide +kernel) (by decide +kernel) (by decide +kernel) (by decide +kernel)
def hX9 : List MC := [(20, [.inr (some 2), .inr (some 7), .inr (some 11), .inr (some 17), .inr (some 29), .inr (some 41), .inr (some 37), .inr (some 66), .inr (some 69)]),
  (10, [.inl 120000, .inl 0]),
  (11, [.inr (some 3), .inr (some 4), .inl 3, .inr (some 5), .inr (some 6)]),
  (0, [.inl 0, .inl 0, .inl 0, .inl 0, .inl 0, .inl 0, .inl 0, .inl 0, .inl 0, .inl 0, .inl 0, .inl 0, .inl 0, .inl 1, .inl 2, .inl 0, .inl 0, .inl 0, .inl 0, .inl 0, .inl 0, .inl 0]),
  (1, List.replicate 22 (.inl 0)),
  (0, [.inl 24, .inl 24, .inl 17, .inl 10, .inl 7, .inl 6, .inl 7, .inl 10, .inl 9, .inl 10, .inl 17, .inl 14, .inl 13, .inl 14, .inl 17, .inl 16, .inl 17, .inl 24, .inl 21, .inl 20, .inl 21, .inl 24, .inl 23, .inl 24]),
  (0, List.replicate 24 (.inl 0)),
  (12, [.inr (some 2), .inr (some 8), .inr (some 9), .inr (some 10)]),
  (0, List.replicate 576 (.inl 0)),
  (0, List.replicate 24 (.inl 0)),
  (0, List.replicate 24 (.inl 0)),
  (13, [.inr (some 2), .inr (some 1), .inr (some 12), .inr (some 13), .inl 0, .inr (some 14), .inl 0, .inr (some 15), .inr (some 16), .inl 0, .inl 0]),
  (0, List.replicate 24 (.inl 0)),
  (0, List.replicate 48 (.inl 0)),
  (0, List.replicate 24 (.inl 0)),
  (0, [.inl 0]),
  (0, [.inl 0]),
  (15, [.inr (some 2), .inr (some 1), .inr (some 18), .inr (some 20), .inr (some 22), .inr (some 24), .inr (some 26), .inr (some 28), .inl 0, .inl 0, .inl 0, .inl 0, .inl 0]),
  (14, [.inr (some 19), .inl 0]),
  (0, List.replicate 96 (.inl 0)),
  (14, [.inr (some 21), .inl 0]),
  (0, List.replicate 24 (.inl 0)),
  (14, [.inr (some 23), .inl 0]),
  (0, List.replicate 68 (.inl 0)),
  (14, [.inr (some 25), .inl 0]),
  (0, List.replicate 48 (.inl 0)),
  (14, [.inr (some 27), .inl 0]),
  (0, List.replicate 24 (.inl 0)),
  (0, List.replicate 12 (.inl 0)),
  (17, [.inr (some 2), .inr (some 11), .inr (some 30), .inr (some 31), .inr (some 33), .inl 0, .inl 0]),
  (0, List.replicate 24 (.inl 0)),
  (14, [.inr (some 32), .inl 0]),
  (0, List.replicate 24 (.inl 0)),
  (16, [.inr (some 34), .inr (some 35), .inl 0]),
  (2, []),
  (2, []),
  (0, [.inl 0]),
  (18, [.inr (some 2), .inr (some 38), .inl 0, .inr (some 39), .inr (some 40)]),
  (0, List.replicate 12 (.inl 0)),
  (0, [.inl 0]),
  (0, [.inl 0]),
  (19, [.inr (some 2), .inr (some 7), .inr (some 11), .inr (some 29), .inr (some 17), .inr (some 37), .inr (some 42), .inr (some 44), .inr (some 46), .inr (some 50), .inr (some 54), .inr (some 58), .inr (some 62), .inl 0]),
  (14, [.inr (some 43), .inl 0]),
  (0, List.replicate 24 (.inl 0)),
  (14, [.inr (some 45), .inl 0]),
  (0, List.replicate 24 (.inl 0)),
  (16, [.inr (some 47), .inr (some 48), .inl 0]),
  (2, List.replicate 16 (.inr (some 49))),
  (2, List.replicate 16 (.inr (some 49))),
  (0, [.inl 0]),
  (16, [.inr (some 51), .inr (some 52), .inl 0]),
  (2, List.replicate 16 (.inr (some 53))),
  (2, List.replicate 16 (.inr (some 53))),
  (0, [.inl 0]),
  (16, [.inr (some 55), .inr (some 56), .inl 0]),
  (2, List.replicate 60 (.inr (some 57))),
  (2, List.replicate 60 (.inr (some 57))),
  (0, [.inl 0]),
  (16, [.inr (some 59), .inr (some 60), .inl 0]),
  (2, List.replicate 16 (.inr (some 61))),
  (2, List.replicate 16 (.inr (some 61))),
  (0, [.inl 0]),
  (16, [.inr (some 63), .inr (some 64), .inl 0]),
  (2, List.replicate 60 (.inr (some 65))),
  (2, List.replicate 60 (.inr (some 65))),
  (0, [.inl 0]),
  (14, [.inr (some 67), .inl 24]),
  (0, [.inl 13, .inl 14, .inl 14, .inl 14, .inl 14, .inl 12, .inl 12, .inl 14, .inl 12, .inl 12, .inl 14, .inl 14, .inl 12, .inl 12, .inl 14, .inl 12, .inl 12, .inl 14, .inl 14, .inl 12, .inl 12, .inl 14, .inl 12, .inl 12]),
  (0, [.inl 0]),
  (2, [.inr (some 68), .inr (some 70), .inr (some 71), .inr (some 72), .inr (some 73), .inr (some 74), .inr (some 75), .inr (some 68), .inr (some 68), .inr (some 68), .inr (some 68), .inr (some 68), .inr (some 68), .inr (some 68), .inr (some 68), .inr (some 68)]),
  (0, [.inl 12]),
  (0, [.inl 14, .inl 12, .inl 12]),
  (0, [.inl 14, .inl 14, .inl 12, .inl 12, .inl 14, .inl 12, .inl 12]),
  (0, [.inl 14, .inl 14, .inl 14, .inl 12, .inl 12, .inl 14, .inl 12, .inl 12, .inl 14, .inl 14, .inl 12, .inl 12, .inl 14, .inl 12, .inl 12]),
  (0, [.inl 14, .inl 14, .inl 14, .inl 14, .inl 12, .inl 12, .inl 14, .inl 12, .inl 12, .inl 14, .inl 14, .inl 12, .inl 12, .inl 14, .inl 12, .inl 12, .inl 14, .inl 14, .inl 12, .inl 12, .inl 14, .inl 12, .inl 12]),
  (0, [.inl 13, .inl 14, .inl 14, .inl 14, .inl 14, .inl 12, .inl 12, .inl 14, .inl 12, .inl 12, .inl 14, .inl 14, .inl 12, .inl 12, .inl 14, .inl 12, .inl 12, .inl 14, .inl 14, .inl 12, .inl 12, .inl 14, .inl 12, .inl 12])]
set_option maxRecDepth 1000000 in
theorem rX8 : Run2 16 7 [.inr (some 0), .inl 6, .inl 1, .inl 5, .inl 0] hX8 hX9 1 0 1 24 := Run2_of (n := 5000) (by decide +kernel) (by decide +kernel) (by decide +kernel) (by decide +kernel)
def hX10 : List MC := [(20, [.inr (some 2), .inr (some 7), .inr (some 11), .inr (some 17), .inr (some 29), .inr (some 41), .inr (some 37), .inr (some 66), .inr (some 69)]),
  (10, [.inl 120000, .inl 0]),
  (11, [.inr (some 3), .inr (some 4), .inl 3, .inr (some 5), .inr (some 6)]),
  (0, [.inl 0, .inl 0, .inl 0, .inl 0, .inl 0, .inl 0, .inl 0, .inl 0, .inl 0, .inl 0, .inl 0, .inl 0, .inl 0, .inl 1, .inl 2, .inl 0, .inl 0, .inl 0, .inl 0, .inl 0, .inl 0, .inl 0]),
  (1, List.replicate 22 (.inl 0)),
  (0, [.inl 3, .inl 2, .inl 3, .inl 10, .inl 7, .inl 6, .inl 7, .inl 10, .inl 9, .inl 10, .inl 17, .inl 14, .inl 13, .inl 14, .inl 17, .inl 16, .inl 17, .inl 24, .inl 21, .inl 20, .inl 21, .inl 24, .inl 23, .inl 24]),
  (0, List.replicate 24 (.inl 0)),
  (12, [.inr (some 2), .inr (some 8), .inr (some 9), .inr (some 10)]),
  (0, List.replicate 576 (.inl 0)),
  (0, List.replicate 24 (.inl 0)),
  (0, List.replicate 24 (.inl 0)),
  (13, [.inr (some 2), .inr (some 1), .inr (some 12), .inr (some 13), .inl 0, .inr (some 14), .inl 0, .inr (some 15), .inr (some 16), .inl 0, .inl 0]),
  (0, List.replicate 24 (.inl 0)),
  (0, List.replicate 48 (.inl 0)),
  (0, List.replicate 24 (.inl 0)),
  (0, [.inl 0]),
  (0, [.inl 0]),
  (15, [.inr (some 2), .inr (some 1), .inr (some 18), .inr (some 20), .inr (some 22), .inr (some 24), .inr (some 26), .inr (some 28), .inl 0, .inl 0, .inl 0, .inl 0, .inl 0]),
  (14, [.inr (some 19), .inl 0]),
  (0, List.replicate 96 (.inl 0)),
  (14, [.inr (some 21), .inl 0]),
  (0, List.replicate 24 (.inl 0)),
  (14, [.inr (some 23), .inl 0]),
  (0, List.replicate 68 (.inl 0)),
  (14, [.inr (some 25), .inl 0]),
  (0, List.replicate 48 (.inl 0)),
  (14, [.inr (some 27), .inl 0]),
  (0, List.replicate 24 (.inl 0)),
  (0, List.replicate 12 (.inl 0)),
  (17, [.inr (some 2), .inr (some 11), .inr (some 30), .inr (some 31), .inr (some 33), .inl 0, .inl 0]),
  (0, List.replicate 24 (.inl 0)),
  (14, [.inr (some 32), .inl 0]),
  (0, List.replicate 24 (.inl 0)),
  (16, [.inr (some 34), .inr (some 35), .inl 0]),
  (2, []),
  (2, []),
  (0, [.inl 0]),
  (18, [.inr (some 2), .inr (some 38), .inl 0, .inr (some 39), .inr (some 40)]),
  (0, List.replicate 12 (.inl 0)),
  (0, [.inl 0]),
  (0, [.inl 0]),
  (19, [.inr (some 2), .inr (some 7), .inr (some 11), .inr (some 29), .inr (some 17), .inr (some 37), .inr (some 42), .inr (some 44), .inr (some 46), .inr (some 50), .inr (some 54), .inr (some 58), .inr (some 62), .inl 0]),
  (14, [.inr (some 43), .inl 0]),
  (0, List.replicate 24 (.inl 0)),
  (14, [.inr (some 45), .inl 0]),
  (0, List.replicate 24 (.inl 0)),
  (16, [.inr (some 47), .inr (some 48), .inl 0]),
  (2, List.replicate 16 (.inr (some 49))),
  (2, List.replicate 16 (.inr (some 49))),
  (0, [.inl 0]),
  (16, [.inr (some 51), .inr (some 52), .inl 0]),
  (2, List.replicate 16 (.inr (some 53))),
  (2, List.replicate 16 (.inr (some 53))),
  (0, [.inl 0]),
  (16, [.inr (some 55), .inr (some 56), .inl 0]),
  (2, List.replicate 60 (.inr (some 57))),
  (2, List.replicate 60 (.inr (some 57))),
  (0, [.inl 0]),
  (16, [.inr (some 59), .inr (some 60), .inl 0]),
  (2, List.replicate 16 (.inr (some 61))),
  (2, List.replicate 16 (.inr (some 61))),
  (0, [.inl 0]),
  (16, [.inr (some 63), .inr (some 64), .inl 0]),
  (2, List.replicate 60 (.inr (some 65))),
  (2, List.replicate 60 (.inr (some 65))),
  (0, [.inl 0]),
  (14, [.inr (some 67), .inl 3]),
  (0, [.inl 14, .inl 0, .inl 0, .inl 14, .inl 14, .inl 12, .inl 12, .inl 14, .inl 12, .inl 12, .inl 14, .inl 14, .inl 12, .inl 12, .inl 14, .inl 12, .inl 12, .inl 14, .inl 14, .inl 12, .inl 12, .inl 14, .inl 12, .inl 12]),
  (0, [.inl 0]),
  (2, [.inr (some 68), .inr (some 70), .inr (some 71), .inr (some 72), .inr (some 73), .inr (some 74), .inr (some 75), .inr (some 76), .inr (some 68), .inr (some 68), .inr (some 68), .inr (some 68), .inr (some 68), .inr (some 68), .inr (some 68), .inr (some 68)]),
  (0, [.inl 12]),
  (0, [.inl 14, .inl 12, .inl 12]),
  (0, [.inl 14, .inl 14, .inl 12, .inl 12, .inl 14, .inl 12, .inl 12]),
  (0, [.inl 14, .inl 14, .inl 14, .inl 12, .inl 12, .inl 14, .inl 12, .inl 12, .inl 14, .inl 14, .inl 12, .inl 12, .inl 14, .inl 12, .inl 12]),
  (0, [.inl 14, .inl 14, .inl 14, .inl 14, .inl 12, .inl 12, .inl 14, .inl 12, .inl 12, .inl 14, .inl 14, .inl 12, .inl 12, .inl 14, .inl 12, .inl 12, .inl 14, .inl 14, .inl 12, .inl 12, .inl 14, .inl 12, .inl 12]),
  (0, [.inl 13, .inl 14, .inl 14, .inl 14, .inl 14, .inl 12, .inl 12, .inl 14, .inl 12, .inl 12, .inl 14, .inl 14, .inl 12, .inl 12, .inl 14, .inl 12, .inl 12, .inl 14, .inl 14, .inl 12, .inl 12, .inl 14, .inl 12, .inl 12]),
  (0, [.inl 14, .inl 0, .inl 0])]
set_option maxRecDepth 1000000 in
theorem rX9 : Run2 16 7 [.inr (some 0), .inl 7, .inl 2, .inl 0, .inl 0] hX9 hX10 1 0 1 24 := Run2_of (n := 5000) (by decide +kernel) (by decide +kernel) (by decide +kernel) (by decide +kernel)
def hX11 : List MC := [(20, [.inr (some 2), .inr (some 7), .inr (some 11), .inr (some 17), .inr (some 29), .inr (some 41), .inr (some 37), .inr (some 66), .inr (some 69)]),
  (10, [.inl 120000, .inl 0]),
  (11, [.inr (some 3), .inr (some 4), .inl 3, .inr (some 5), .inr (some 6)]),
  (0, [.inl 0, .inl 0, .inl 0, .inl 0, .inl 0, .inl 0, .inl 0, .inl 0, .inl 0, .inl 0, .inl 0, .inl 0, .inl 0, .inl 1, .inl 2, .inl 0, .inl 0, .inl 0, .inl 0, .inl 0, .inl 0, .inl 0]),
  (1, List.replicate 22 (.inl 0)),
  (0, [.inl 7, .inl 4, .inl 3, .inl 4, .inl 7, .inl 6, .inl 7, .inl 10, .inl 9, .inl 10, .inl 17, .inl 14, .inl 13, .inl 14, .inl 17, .inl 16, .inl 17, .inl 24, .inl 21, .inl 20, .inl 21, .inl 24, .inl 23, .inl 24]),
  (0, List.replicate 24 (.inl 0)),
  (12, [.inr (some 2), .inr (some 8), .inr (some 9), .inr (some 10)]),
  (0, List.replicate 576 (.inl 0)),
  (0, List.replicate 24 (.inl 0)),
  (0, List.replicate 24 (.inl 0)),
  (13, [.inr (some 2), .inr (some 1), .inr (some 12), .inr (some 13), .inl 0, .inr (some 14), .inl 0, .inr (some 15), .inr (some 16), .inl 0, .inl 0]),
  (0, List.replicate 24 (.inl 0)),
  (0, List.replicate 48 (.inl 0)),
  (0, List.replicate 24 (.inl 0)),
  (0, [.inl 0]),
  (0, [.inl 0]),
  (15, [.inr (some 2), .inr (some 1), .inr (some 18), .inr (some 20), .inr (some 22), .inr (some 24), .inr (some 26), .inr (some 28), .inl 0, .inl 0, .inl 0, .inl 0, .inl 0]),
  (14, [.inr (some 19), .inl 0]),
  (0, List.replicate 96 (.inl 0)),
  (14, [.inr (some 21), .inl 0]),
  (0, List.replicate 24 (.inl 0)),
  (14, [.inr (some 23), .inl 0]),
  (0, List.replicate 68 (.inl 0)),
  (14, [.inr (some 25), .inl 0]),
  (0, List.replicate 48 (.inl 0)),
  (14, [.inr (some 27), .inl 0]),
  (0, List.replicate 24 (.inl 0)),
  (0, List.replicate 12 (.inl 0)),
  (17, [.inr (some 2), .inr (some 11), .inr (some 30), .inr (some 31), .inr (some 33), .inl 0, .inl 0]),
  (0, List.replicate 24 (.inl 0)),
  (14, [.inr (some 32), .inl 0]),
  (0, List.replicate 24 (.inl 0)),
  (16, [.inr (some 34), .inr (some 35), .inl 0]),
  (2, []),
  (2, []),
  (0, [.inl 0]),
  (18, [.inr (some 2), .inr (some 38), .inl 0, .inr (some 39), .inr (some 40)]),
  (0, List.replicate 12 (.inl 0)),
  (0, [.inl 0]),
  (0, [.inl 0]),
  (19, [.inr (some 2), .inr (some 7), .inr (some 11), .inr (some 29), .inr (some 17), .inr (some 37), .inr (some 42), .inr (some 44), .inr (some 46), .inr (some 50), .inr (some 54), .inr (some 58), .inr (some 62), .inl 0]),
  (14, [.inr (some 43), .inl 0]),
  (0, List.replicate 24 (.inl 0)),
  (14, [.inr (some 45), .inl 0]),
  (0, List.replicate 24 (.inl 0)),
  (16, [.inr (some 47), .inr (some 48), .inl 0]),
  (2, List.replicate 16 (.inr (some 49))),
  (2, List.replicate 16 (.inr (some 49))),
  (0, [.inl 0]),
  (16, [.inr (some 51), .inr (some 52), .inl 0]),
  (2, List.replicate 16 (.inr (some 53))),
  (2, List.replicate 16 (.inr (some 53))),
  (0, [.inl 0]),
  (16, [.inr (some 55), .inr (some 56), .inl 0]),
  (2, List.replicate 60 (.inr (some 57))),
  (2, List.replicate 60 (.inr (some 57))),
  (0, [.inl 0]),
  (16, [.inr (some 59), .inr (some 60), .inl 0]),
  (2, List.replicate 16 (.inr (some 61))),
  (2, List.replicate 16 (.inr (some 61))),
  (0, [.inl 0]),
  (16, [.inr (some 63), .inr (some 64), .inl 0]),
  (2, List.replicate 60 (.inr (some 65))),
  (2, List.replicate 60 (.inr (some 65))),
  (0, [.inl 0]),
  (14, [.inr (some 67), .inl 7]),
  (0, [.inl 14, .inl 14, .inl 0, .inl 0, .inl 14, .inl 0, .inl 0, .inl 14, .inl 12, .inl 12, .inl 14, .inl 14, .inl 12, .inl 12, .inl 14, .inl 12, .inl 12, .inl 14, .inl 14, .inl 12, .inl 12, .inl 14, .inl 12, .inl 12]),
  (0, [.inl 0]),
  (2, [.inr (some 68), .inr (some 70), .inr (some 71), .inr (some 72), .inr (some 73), .inr (some 74), .inr (some 75), .inr (some 76), .inr (some 77), .inr (some 68), .inr (some 68), .inr (some 68), .inr (some 68), .inr (some 68), .inr (some 68), .inr (some 68)]),
  (0, [.inl 12]),
  (0, [.inl 14, .inl 12, .inl 12]),
  (0, [.inl 14, .inl 14, .inl 12, .inl 12, .inl 14, .inl 12, .inl 12]),
  (0, [.inl 14, .inl 14, .inl 14, .inl 12, .inl 12, .inl 14, .inl 12, .inl 12, .inl 14, .inl 14, .inl 12, .inl 12, .inl 14, .inl 12, .inl 12]),
  (0, [.inl 14, .inl 14, .inl 14, .inl 14, .inl 12, .inl 12, .inl 14, .inl 12, .inl 12, .inl 14, .inl 14, .inl 12, .inl 12, .inl 14, .inl 12, .inl 12, .inl 14, .inl 14, .inl 12, .inl 12, .inl 14, .inl 12, .inl 12]),
  (0, [.inl 13, .inl 14, .inl 14, .inl 14, .inl 14, .inl 12, .inl 12, .inl 14, .inl 12, .inl 12, .inl 14, .inl 14, .inl 12, .inl 12, .inl 14, .inl 12, .inl 12, .inl 14, .inl 14, .inl 12, .inl 12, .inl 14, .inl 12, .inl 12]),
  (0, [.inl 14, .inl 0, .inl 0]),
  (0, [.inl 14, .inl 14, .inl 0, .inl 0, .inl 14, .inl 0, .inl 0])]
set_option maxRecDepth 1000000 in
theorem rX10 : Run2 16 7 [.inr (some 0), .inl 8, .inl 2, .inl 7, .inl 7] hX10 hX11 1 0 1 24 := Run2_of (n := 5000) (by decide +kernel) (by decide +kernel) (by decide +kernel) (by decide +kernel)
def hX12 : List MC := [(20, [.inr (some 2), .inr (some 7), .inr (some 11), .inr (some 17), .inr (some 29), .inr (some 41), .inr (some 37), .inr (some 66), .inr (some 69)]),
  (10, [.inl 120000, .inl 0]),
  (11, [.inr (some 3), .inr (some 4), .inl 3, .inr (some 5), .inr (some 6)]),
  (0, [.inl 0, .inl 0, .inl 0, .inl 0, .inl 0, .inl 0, .inl 0, .inl 0, .inl 0, .inl 0, .inl 0, .inl 0, .inl 0, .inl 1, .inl 2, .inl 0, .inl 0, .inl 0, .inl 0, .inl 0, .inl 0, .inl 0]),
  (1, List.replicate 22 (.inl 0)),
  (0, [.inl 15, .inl 8, .inl 5, .inl 4, .inl 5, .inl 8, .inl 7, .inl 8, .inl 15, .inl 12, .inl 11, .inl 12, .inl 15, .inl 14, .inl 15, .inl 16, .inl 17, .inl 24, .inl 21, .inl 20, .inl 21, .inl 24, .inl 23, .inl 24]),
  (0, List.replicate 24 (.inl 0)),
  (12, [.inr (some 2), .inr (some 8), .inr (some 9), .inr (some 10)]),
  (0, List.replicate 576 (.inl 0)),
  (0, List.replicate 24 (.inl 0)),
  (0, List.replicate 24 (.inl 0)),
  (13, [.inr (some 2), .inr (some 1), .inr (some 12), .inr (some 13), .inl 0, .inr (some 14), .inl 0, .inr (some 15), .inr (some 16), .inl 0, .inl 0]),
  (0, List.replicate 24 (.inl 0)),
  (0, List.replicate 48 (.inl 0)),
  (0, List.replicate 24 (.inl 0)),
  (0, [.inl 0]),
  (0, [.inl 0]),
  (15, [.inr (some 2), .inr (some 1), .inr (some 18), .inr (some 20), .inr (some 22), .inr (some 24), .inr (some 26), .inr (some 28), .inl 0, .inl 0, .inl 0, .inl 0, .inl 0]),
  (14, [.inr (some 19), .inl 0]),
  (0, List.replicate 96 (.inl 0)),
  (14, [.inr (some 21), .inl 0]),
  (0, List.replicate 24 (.inl 0)),
  (14, [.inr (some 23), .inl 0]),
  (0, List.replicate 68 (.inl 0)),
  (14, [.inr (some 25), .inl 0]),
  (0, List.replicate 48 (.inl 0)),
  (14, [.inr (some 27), .inl 0]),
  (0, List.replicate 24 (.inl 0)),
  (0, List.replicate 12 (.inl 0)),
  (17, [.inr (some 2), .inr (some 11), .inr (some 30), .inr (some 31), .inr (some 33), .inl 0, .inl 0]),
  (0, List.replicate 24 (.inl 0)),
  (14, [.inr (some 32), .inl 0]),
  (0, List.replicate 24 (.inl 0)),
  (16, [.inr (some 34), .inr (some 35), .inl 0]),
  (2, []),
  (2, []),
  (0, [.inl 0]),
  (18, [.inr (some 2), .inr (some 38), .inl 0, .inr (some 39), .inr (some 40)]),
  (0, List.replicate 12 (.inl 0)),
  (0, [.inl 0]),
  (0, [.inl 0]),
  (19, [.inr (some 2), .inr (some 7), .inr (some 11), .inr (some 29), .inr (some 17), .inr (some 37), .inr (some 42), .inr (some 44), .inr (some 46), .inr (some 50), .inr (some 54), .inr (some 58), .inr (some 62), .inl 0]),
  (14, [.inr (some 43), .inl 0]),
  (0, List.replicate 24 (.inl 0)),
  (14, [.inr (some 45), .inl 0]),
  (0, List.replicate 24 (.inl 0)),
  (16, [.inr (some 47), .inr (some 48), .inl 0]),
  (2, List.replicate 16 (.inr (some 49))),
  (2, List.replicate 16 (.inr (some 49))),
  (0, [.inl 0]),
  (16, [.inr (some 51), .inr (some 52), .inl 0]),
  (2, List.replicate 16 (.inr (some 53))),
  (2, List.replicate 16 (.inr (some 53))),
  (0, [.inl 0]),
  (16, [.inr (some 55), .inr (some 56), .inl 0]),
  (2, List.replicate 60 (.inr (some 57))),
  (2, List.replicate 60 (.inr (some 57))),
  (0, [.inl 0]),
  (16, [.inr (some 59), .inr (some 60), .inl 0]),
  (2, List.replicate 16 (.inr (some 61))),
  (2, List.replicate 16 (.inr (some 61))),
  (0, [.inl 0]),
  (16, [.inr (some 63), .inr (some 64), .inl 0]),
  (2, List.replicate 60 (.inr (some 65))),
  (2, List.replicate 60 (.inr (some 65))),
  (0, [.inl 0]),
  (14, [.inr (some 67), .inl 15]),
  (0, [.inl 14, .inl 14, .inl 14, .inl 0, .inl 0, .inl 14, .inl 0, .inl 0, .inl 14, .inl 14, .inl 0, .inl 0, .inl 14, .inl 0, .inl 0, .inl 12, .inl 12, .inl 14, .inl 14, .inl 12, .inl 12, .inl 14, .inl 12, .inl 12]),
  (0, [.inl 0]),
  (2, [.inr (some 68), .inr (some 70), .inr (some 71), .inr (some 72), .inr (some 73), .inr (some 74), .inr (some 75), .inr (some 76), .inr (some 77), .inr (some 78), .inr (some 68), .inr (some 68), .inr (some 68), .inr (some 68), .inr (some 68), .inr (some 68)]),
  (0, [.inl 12]),
  (0, [.inl 14, .inl 12, .inl 12]),
  (0, [.inl 14, .inl 14, .inl 12, .inl 12, .inl 14, .inl 12, .inl 12]),
  (0, [.inl 14, .inl 14, .inl 14, .inl 12, .inl 12, .inl 14, .inl 12, .inl 12, .inl 14, .inl 14, .inl 12, .inl 12, .inl 14, .inl 12, .inl 12]),
  (0, [.inl 14, .inl 14, .inl 14, .inl 14, .inl 12, .inl 12, .inl 14, .inl 12, .inl 12, .inl 14, .inl 14, .inl 12, .inl 12, .inl 14, .inl 12, .inl 12, .inl 14, .inl 14, .inl 12, .inl 12, .inl 14, .inl 12, .inl 12]),
  (0, [.inl 13, .inl 14, .inl 14, .inl 14, .inl 14, .inl 12, .inl 12, .inl 14, .inl 12, .inl 12, .inl 14, .inl 14, .inl 12, .inl 12, .inl 14, .inl 12, .inl 12, .inl 14, .inl 14, .inl 12, .inl 12, .inl 14, .inl 12, .inl 12]),
  (0, [.inl 14, .inl 0, .inl 0]),
  (0, [.inl 14, .inl 14, .inl 0, .inl 0, .inl 14, .inl 0, .inl 0]),
  (0, [.inl 14, .inl 14, .inl 14, .inl 0, .inl 0, .inl 14, .inl 0, .inl 0, .inl 14, .inl 14, .inl 0, .inl 0, .inl 14, .inl 0, .inl 0])]
set_option maxRecDepth 1000000 in
theorem rX11 : Run2 16 7 [.inr (some 0), .inl 9, .inl 2, .inl 8, .inl 8] hX11 hX12 1 0 1 24 := Run2_of (n := 5000) (by decide +kernel) (by decide +kernel) (by decide +kernel) (by decide +kernel)
def hX13 : List MC := [(20, [.inr (some 2), .inr (some 7), .inr (some 11), .inr (some 17), .inr (some 29), .inr (some 41), .inr (some 37), .inr (some 66), .inr (some 69)]),
  (10, [.inl 120000, .inl 0]),
  (11, [.inr (some 3), .inr (some 4), .inl 3, .inr (some 5), .inr (some 6)]),
  (0, [.inl 0, .inl 0, .inl 0, .inl 0, .inl 0, .inl 0, .inl 0, .inl 0, .inl 0, .inl 0, .inl 0, .inl 0, .inl 0, .inl 1, .inl 2, .inl 0, .inl 0, .inl 0, .inl 0, .inl 0, .inl 0, .inl 0]),
  (1, List.replicate 22 (.inl 0)),
  (0, [.inl 23, .inl 16, .inl 9, .inl 6, .inl 5, .inl 6, .inl 9, .inl 8, .inl 9, .inl 16, .inl 13, .inl 12, .inl 13, .inl 16, .inl 15, .inl 16, .inl 23, .inl 20, .inl 19, .inl 20, .inl 23, .inl 22, .inl 23, .inl 24]),
  (0, List.replicate 24 (.inl 0)),
  (12, [.inr (some 2), .inr (some 8), .inr (some 9), .inr (some 10)]),
  (0, List.replicate 576 (.inl 0)),
  (0, List.replicate 24 (.inl 0)),
  (0, List.replicate 24 (.inl 0)),
  (13, [.inr (some 2), .inr (some 1), .inr (some 12), .inr (some 13), .inl 0, .inr (some 14), .inl 0, .inr (some 15), .inr (some 16), .inl 0, .inl 0]),
  (0, List.replicate 24 (.inl 0)),
  (0, List.replicate 48 (.inl 0)),
  (0, List.replicate 24 (.inl 0)),
  (0, [.inl 0]),
  (0, [.inl 0]),
  (15, [.inr (some 2), .inr (some 1), .inr (some 18), .inr (some 20), .inr (some 22), .inr (some 24), .inr (some 26), .inr (some 28), .inl 0, .inl 0, .inl 0, .inl 0, .inl 0]),
  (14, [.inr (some 19), .inl 0]),
  (0, List.replicate 96 (.inl 0)),
  (14, [.inr (some 21), .inl 0]),
  (0, List.replicate 24 (.inl 0)),
  (14, [.inr (some 23), .inl 0]),
  (0, List.replicate 68 (.inl 0)),
  (14, [.inr (some 25), .inl 0]),
  (0, List.replicate 48 (.inl 0)),
  (14, [.inr (some 27), .inl 0]),
  (0, List.replicate 24 (.inl 0)),
  (0, List.replicate 12 (.inl 0)),
  (17, [.inr (some 2), .inr (some 11), .inr (some 30), .inr (some 31), .inr (some 33), .inl 0, .inl 0]),
  (0, List.replicate 24 (.inl 0)),
  (14, [.inr (some 32), .inl 0]),
  (0, List.replicate 24 (.inl 0)),
  (16, [.inr (some 34), .inr (some 35), .inl 0]),
  (2, []),
  (2, []),
  (0, [.inl 0]),
  (18, [.inr (some 2), .inr (some 38), .inl 0, .inr (some 39), .inr (some 40)]),
  (0, List.replicate 12 (.inl 0)),
  (0, [.inl 0]),
  (0, [.inl 0]),
  (19, [.inr (some 2), .inr (some 7), .inr (some 11), .inr (some 29), .inr (some 17), .inr (some 37), .inr (some 42), .inr (some 44), .inr (some 46), .inr (some 50), .inr (some 54), .inr (some 58), .inr (some 62), .inl 0]),
  (14, [.inr (some 43), .inl 0]),
  (0, List.replicate 24 (.inl 0)),
  (14, [.inr (some 45), .inl 0]),
  (0, List.replicate 24 (.inl 0)),
  (16, [.inr (some 47), .inr (some 48), .inl 0]),
  (2, List.replicate 16 (.inr (some 49))),
  (2, List.replicate 16 (.inr (some 49))),
  (0, [.inl 0]),
  (16, [.inr (some 51), .inr (some 52), .inl 0]),
  (2, List.replicate 16 (.inr (some 53))),
  (2, List.replicate 16 (.inr (some 53))),
  (0, [.inl 0]),
  (16, [.inr (some 55), .inr (some 56), .inl 0]),
  (2, List.replicate 60 (.inr (some 57))),
  (2, List.replicate 60 (.inr (some 57))),
  (0, [.inl 0]),
  (16, [.inr (some 59), .inr (some 60), .inl 0]),
  (2, List.replicate 16 (.inr (some 61))),
  (2, List.replicate 16 (.inr (some 61))),
  (0, [.inl 0]),
  (16, [.inr (some 63), .inr (some 64), .inl 0]),
  (2, List.replicate 60 (.inr (some 65))),
  (2, List.replicate 60 (.inr (some 65))),
  (0, [.inl 0]),
  (14, [.inr (some 67), .inl 23]),
  (0, [.inl 14, .inl 14, .inl 14, .inl 14, .inl 0, .inl 0, .inl 14, .inl 0, .inl 0, .inl 14, .inl 14, .inl 0, .inl 0, .inl 14, .inl 0, .inl 0, .inl 14, .inl 14, .inl 0, .inl 0, .inl 14, .inl 0, .inl 0, .inl 12]),
  (0, [.inl 0]),
  (2, [.inr (some 68), .inr (some 70), .inr (some 71), .inr (some 72), .inr (some 73), .inr (some 74), .inr (some 75), .inr (some 76), .inr (some 77), .inr (some 78), .inr (some 79), .inr (some 68), .inr (some 68), .inr (some 68), .inr (some 68), .inr (some 68)]),
  (0, [.inl 12]),
  (0, [.inl 14, .inl 12, .inl 12]),
  (0, [.inl 14, .inl 14, .inl 12, .inl 12, .inl 14, .inl 12, .inl 12]),
  (0, [.inl 14, .inl 14, .inl 14, .inl 12, .inl 12, .inl 14, .inl 12, .inl 12, .inl 14, .inl 14, .inl 12, .inl 12, .inl 14, .inl 12, .inl 12]),
  (0, [.inl 14, .inl 14, .inl 14, .inl 14, .inl 12, .inl 12, .inl 14, .inl 12, .inl 12, .inl 14, .inl 14, .inl 12, .inl 12, .inl 14, .inl 12, .inl 12, .inl 14, .inl 14, .inl 12, .inl 12, .inl 14, .inl 12, .inl 12]),
  (0, [.inl 13, .inl 14, .inl 14, .inl 14, .inl 14, .inl 12, .inl 12, .inl 14, .inl 12, .inl 12, .inl 14, .inl 14, .inl 12, .inl 12, .inl 14, .inl 12, .inl 12, .inl 14, .inl 14, .inl 12, .inl 12, .inl 14, .inl 12, .inl 12]),
  (0, [.inl 14, .inl 0, .inl 0]),
  (0, [.inl 14, .inl 14, .inl 0, .inl 0, .inl 14, .inl 0, .inl 0]),
  (0, [.inl 14, .inl 14, .inl 14, .inl 0, .inl 0, .inl 14, .inl 0, .inl 0, .inl 14, .inl 14, .inl 0, .inl 0, .inl 14, .inl 0, .inl 0]),
  (0, [.inl 14, .inl 14, .inl 14, .inl 14, .inl 0, .inl 0, .inl 14, .inl 0, .inl 0, .inl 14, .inl 14, .inl 0, .inl 0, .inl 14, .inl 0, .inl 0, .inl 14, .inl 14, .inl 0, .inl 0, .inl 14, .inl 0, .inl 0])]
set_option maxRecDepth 1000000 in
theorem rX12 : Run2 16 7 [.inr (some 0), .inl 10, .inl 2, .inl 9, .inl 8] hX12 hX13 1 0 1 24 := Run2_of (n := 5000) (by decide +kernel) (by decide +kernel) (by decide +kernel) (by decide +kernel)
def hX14 : List MC := [(20, [.inr (some 2), .inr (some 7), .inr (some 11), .inr (some 17), .inr (some 29), .inr (some 41), .inr (some 37), .inr (some 66), .inr (some 69)]),
  (10, [.inl 120000, .inl 0]),
  (11, [.inr (some 3), .inr (some 4), .inl 3, .inr (some 5), .inr (some 6)]),
  (0, [.inl 0, .inl 0, .inl 0, .inl 0, .inl 0, .inl 0, .inl 0, .inl 0, .inl 0, .inl 0, .inl 0, .inl 0, .inl 0, .inl 1, .inl 2, .inl 0, .inl 0, .inl 0, .inl 0, .inl 0, .inl 0, .inl 0]),
  (1, List.replicate 22 (.inl 0)),
  (0, [.inl 24, .inl 24, .inl 17, .inl 10, .inl 7, .inl 6, .inl 7, .inl 10, .inl 9, .inl 10, .inl 17, .inl 14, .inl 13, .inl 14, .inl 17, .inl 16, .inl 17, .inl 24, .inl 21, .inl 20, .inl 21, .inl 24, .inl 23, .inl 24]),
  (0, List.replicate 24 (.inl 0)),
  (12, [.inr (some 2), .inr (some 8), .inr (some 9), .inr (some 10)]),
  (0, List.replicate 576 (.inl 0)),
  (0, List.replicate 24 (.inl 0)),
  (0, List.replicate 24 (.inl 0)),
  (13, [.inr (some 2), .inr (some 1), .inr (some 12), .inr (some 13), .inl 0, .inr (some 14), .inl 0, .inr (some 15), .inr (some 16), .inl 0, .inl 0]),
  (0, List.replicate 24 (.inl 0)),
  (0, List.replicate 48 (.inl 0)),
  (0, List.replicate 24 (.inl 0)),
  (0, [.inl 0]),
  (0, [.inl 0]),
  (15, [.inr (some 2), .inr (some 1), .inr (some 18), .inr (some 20), .inr (some 22), .inr (some 24), .inr (some 26), .inr (some 28), .inl 0, .inl 0, .inl 0, .inl 0, .inl 0]),
  (14, [.inr (some 19), .inl 0]),
  (0, List.replicate 96 (.inl 0)),
  (14, [.inr (some 21), .inl 0]),
  (0, List.replicate 24 (.inl 0)),
  (14, [.inr (some 23), .inl 0]),
  (0, List.replicate 68 (.inl 0)),
  (14, [.inr (some 25), .inl 0]),
  (0, List.replicate 48 (.inl 0)),
  (14, [.inr (some 27), .inl 0]),
  (0, List.replicate 24 (.inl 0)),
  (0, List.replicate 12 (.inl 0)),
  (17, [.inr (some 2), .inr (some 11), .inr (some 30), .inr (some 31), .inr (some 33), .inl 0, .inl 0]),
  (0, List.replicate 24 (.inl 0)),
  (14, [.inr (some 32), .inl 0]),
  (0, List.replicate 24 (.inl 0)),
  (16, [.inr (some 34), .inr (some 35), .inl 0]),
  (2, []),
  (2, []),
  (0, [.inl 0]),
  (18, [.inr (some 2), .inr (some 38), .inl 0, .inr (some 39), .inr (some 40)]),
  (0, List.replicate 12 (.inl 0)),
  (0, [.inl 0]),
  (0, [.inl 0]),
  (19, [.inr (some 2), .inr (some 7), .inr (some 11), .inr (some 29), .inr (some 17), .inr (some 37), .inr (some 42), .inr (some 44), .inr (some 46), .inr (some 50), .inr (some 54), .inr (some 58), .inr (some 62), .inl 0]),
  (14, [.inr (some 43), .inl 0]),
  (0, List.replicate 24 (.inl 0)),
  (14, [.inr (some 45), .inl 0]),
  (0, List.replicate 24 (.inl 0)),
  (16, [.inr (some 47), .inr (some 48), .inl 0]),
  (2, List.replicate 16 (.inr (some 49))),
  (2, List.replicate 16 (.inr (some 49))),
  (0, [.inl 0]),
  (16, [.inr (some 51), .inr (some 52), .inl 0]),
  (2, List.replicate 16 (.inr (some 53))),
  (2, List.replicate 16 (.inr (some 53))),
  (0, [.inl 0]),
  (16, [.inr (some 55), .inr (some 56), .inl 0]),
  (2, List.replicate 60 (.inr (some 57))),
  (2, List.replicate 60 (.inr (some 57))),
  (0, [.inl 0]),
  (16, [.inr (some 59), .inr (some 60), .inl 0]),
  (2, List.replicate 16 (.inr (some 61))),
  (2, List.replicate 16 (.inr (some 61))),
  (0, [.inl 0]),
  (16, [.inr (some 63), .inr (some 64), .inl 0]),
  (2, List.replicate 60 (.inr (some 65))),
  (2, List.replicate 60 (.inr (some 65))),
  (0, [.inl 0]),
  (14, [.inr (some 67), .inl 24]),
  (0, [.inl 13, .inl 14, .inl 14, .inl 14, .inl 14, .inl 0, .inl 0, .inl 14, .inl 0, .inl 0, .inl 14, .inl 14, .inl 0, .inl 0, .inl 14, .inl 0, .inl 0, .inl 14, .inl 14, .inl 0, .inl 0, .inl 14, .inl 0, .inl 0]),
  (0, [.inl 0]),
  (2, [.inr (some 68), .inr (some 70), .inr (some 71), .inr (some 72), .inr (some 73), .inr (some 74), .inr (some 75), .inr (some 76), .inr (some 77), .inr (some 78), .inr (some 79), .inr (some 80), .inr (some 68), .inr (some 68), .inr (some 68), .inr (some 68)]),
  (0, [.inl 12]),
  (0, [.inl 14, .inl 12, .inl 12]),
  (0, [.inl 14, .inl 14, .inl 12, .inl 12, .inl 14, .inl 12, .inl 12]),
  (0, [.inl 14, .inl 14, .inl 14, .inl 12, .inl 12, .inl 14, .inl 12, .inl 12, .inl 14, .inl 14, .inl 12, .inl 12, .inl 14, .inl 12, .inl 12]),
  (0, [.inl 14, .inl 14, .inl 14, .inl 14, .inl 12, .inl 12, .inl 14, .inl 12, .inl 12, .inl 14, .inl 14, .inl 12, .inl 12, .inl 14, .inl 12, .inl 12, .inl 14, .inl 14, .inl 12, .inl 12, .inl 14, .inl 12, .inl 12]),
  (0, [.inl 13, .inl 14, .inl 14, .inl 14, .inl 14, .inl 12, .inl 12, .inl 14, .inl 12, .inl 12, .inl 14, .inl 14, .inl 12, .inl 12, .inl 14, .inl 12, .inl 12, .inl 14, .inl 14, .inl 12, .inl 12, .inl 14, .inl 12, .inl 12]),
  (0, [.inl 14, .inl 0, .inl 0]),
  (0, [.inl 14, .inl 14, .inl 0, .inl 0, .inl 14, .inl 0, .inl 0]),
  (0, [.inl 14, .inl 14, .inl 14, .inl 0, .inl 0, .inl 14, .inl 0, .inl 0, .inl 14, .inl 14, .inl 0, .inl 0, .inl 14, .inl 0, .inl 0]),
  (0, [.inl 14, .inl 14, .inl 14, .inl 14, .inl 0, .inl 0, .inl 14, .inl 0, .inl 0, .inl 14, .inl 14, .inl 0, .inl 0, .inl 14, .inl 0, .inl 0, .inl 14, .inl 14, .inl 0, .inl 0, .inl 14, .inl 0, .inl 0]),
  (0, [.inl 13, .inl 14, .inl 14, .inl 14, .inl 14, .inl 0, .inl 0, .inl 14, .inl 0, .inl 0, .inl 14, .inl 14, .inl 0, .inl 0, .inl 14, .inl 0, .inl 0, .inl 14, .inl 14, .inl 0, .inl 0, .inl 14, .inl 0, .inl 0])]
set_option maxRecDepth 1000000 in
theorem rX13 : Run2 16 7 [.inr (some 0), .inl 11, .inl 1, .inl 10, .inl 0] hX13 hX14 1 0 1 24 := Run2_of (n := 5000) (by decide +kernel) (by decide +kernel) (by decide +kernel) (by decide +kernel)
abbrev hM0 : List MC := hM
def hM1 : List MC := [(21, [.inl 0, .inr (some 1), .inr (some 2), .inl 1, .inr (some 3), .inr (some 4), .inr (some 5), .inl 0, .inr (some 6), .inr (some 7), .inl 0, .inl 0, .inl 0, .inl 0, .inl 0, .inl 120000, .inl 0, .inr (some 8), .inl 0, .inr (some 9), .inl 0, .inr none, .inr none]),
  (0, List.replicate 10 (.inl 0)),
  (1, List.replicate 10 (.inl 0)),
  (2, [.inr (some 10), .inr (some 11), .inr (some 12), .inr (some 13), .inr (some 14), .inr (some 15), .inr (some 16), .inr (some 17), .inr (some 18), .inr (some 19), .inr (some 20), .inr (some 21), .inr (some 22), .inr (some 23), .inr (some 24), .inr (some 25)]),
  (2, List.replicate 40 (.inr none)),
  (2, List.replicate 40 (.inr none)),
  (2, List.replicate 4000 (.inr none)),
  (2, List.replicate 4000 (.inr none)),
  (3, List.replicate 64 (.inr none)),
  (0, List.replicate 12 (.inl 0)),
  (0, [.inl 100]),
  (0, [.inl 100]),
  (0, [.inl 100]),
  (0, [.inl 100]),
  (0, [.inl 100]),
  (0, [.inl 100]),
  (0, [.inl 100]),
  (0, [.inl 100]),
  (0, [.inl 100]),
  (0, [.inl 100]),
  (0, [.inl 100]),
  (0, [.inl 100]),
  (0, [.inl 100]),
  (0, [.inl 100]),
  (0, [.inl 100]),
  (0, [.inl 100])]
set_option maxRecDepth 1000000 in
theorem rM0 : Run2 93 3 [.inr (some 0), .inl 0, .inl 0] hM0 hM1 0 0 1490 7980 := Run2_of (n := 5000) (by decide +kernel) (by decide +kernel) (by decide +kernel) (by decide +kernel)
def hM2 : List MC := [(21, [.inl 0, .inr (some 1), .inr (some 2), .inl 2, .inr (some 3), .inr (some 4), .inr (some 5), .inl 0, .inr (some 6), .inr (some 7), .inl 0, .inl 0, .inl 0, .inl 0, .inl 0, .inl 120000, .inl 0, .inr (some 8), .inl 0, .inr (some 9), .inl 0, .inr none, .inr none]),
  (0, [.inl 0, .inl 1, .inl 0, .inl 0, .inl 0, .inl 0, .inl 0, .inl 0, .inl 0, .inl 0]),
  (1, List.replicate 10 (.inl 0)),
  (2, [.inr (some 10), .inr (some 11), .inr (some 12), .inr (some 13), .inr (some 14), .inr (some 15), .inr (some 16), .inr (some 17), .inr (some 18), .inr (some 19), .inr (some 20), .inr (some 21), .inr (some 22), .inr (some 23), .inr (some 24), .inr (some 25)]),
  (2, List.replicate 40 (.inr none)),
  (2, List.replicate 40 (.inr none)),
  (2, List.replicate 4000 (.inr none)),
  (2, List.replicate 4000 (.inr none)),
  (3, List.replicate 64 (.inr none)),
  (0, List.replicate 12 (.inl 0)),
  (0, [.inl 100]),
  (0, [.inl 100]),
  (0, [.inl 100]),
  (0, [.inl 100]),
  (0, [.inl 100]),
  (0, [.inl 100]),
  (0, [.inl 100]),
  (0, [.inl 100]),
  (0, [.inl 100]),
  (0, [.inl 100]),
  (0, [.inl 100]),
  (0, [.inl 100]),
  (0, [.inl 100]),
  (0, [.inl 100]),
  (0, [.inl 100]),
  (0, [.inl 100])]
set_option maxRecDepth 1000000 in
theorem rM1 : Run2 93 3 [.inr (some 0), .inl 1, .inl 0] hM1 hM2 1 0 1490 7980 := Run2_of (n := 5000) (by decide +kernel) (by decide +kernel) (by decide +kernel) (by decide +kernel)
def hM3 : List MC := [(21, [.inl 0, .inr (some 1), .inr (some 2), .inl 3, .inr (some 3), .inr (some 4), .inr (some 5), .inl 0, .inr (some 6), .inr (some 7), .inl 0, .inl 0, .inl 0, .inl 0, .inl 0, .inl 120000, .inl 0, .inr (some 8), .inl 0, .inr (some 9), .inl 0, .inr none, .inr none]),
  (0, [.inl 0, .inl 1, .inl 2, .inl 0, .inl 0, .inl 0, .inl 0, .inl 0, .inl 0, .inl 0]),
  (1, List.replicate 10 (.inl 0)),
  (2, [.inr (some 10), .inr (some 11), .inr (some 12), .inr (some 13), .inr (some 14), .inr (some 15), .inr (some 16), .inr (some 17), .inr (some 18), .inr (some 19), .inr (some 20), .inr (some 21), .inr (some 22), .inr (some 23), .inr (some 24), .inr (some 25)]),
  (2, List.replicate 40 (.inr none)),
  (2, List.replicate 40 (.inr none)),
  (2, List.replicate 4000 (.inr none)),
  (2, List.replicate 4000 (.inr none)),
  (3, List.replicate 64 (.inr none)),
  (0, List.replicate 12 (.inl 0)),
  (0, [.inl 100]),
  (0, [.inl 100]),
  (0, [.inl 100]),
  (0, [.inl 100]),
  (0, [.inl 100]),
  (0, [.inl 100]),
  (0, [.inl 100]),
  (0, [.inl 100]),
  (0, [.inl 100]),
  (0, [.inl 100]),
  (0, [.inl 100]),
  (0, [.inl 100]),
  (0, [.inl 100]),
  (0, [.inl 100]),
  (0, [.inl 100]),
  (0, [.inl 100])]
set_option maxRecDepth 1000000 in
theorem rM2 : Run2 93 3 [.inr (some 0), .inl 2, .inl 0] hM2 hM3 2 0 1490 7980 := Run2_of (n := 5000) (by decide +kernel) (by decide +kernel) (by decide +kernel) (by decide +kernel)
def hM4 : List MC := [(21, [.inl 0, .inr (some 1), .inr (some 2), .inl 3, .inr (some 3), .inr (some 4), .inr (some 5), .inl 0, .inr (some 6), .inr (some 7), .inl 0, .inl 0, .inl 0, .inl 0, .inl 0, .inl 120000, .inl 0, .inr (some 8), .inl 0, .inr (some 9), .inl 0, .inr none, .inr none]),
  (0, [.inl 0, .inl 1, .inl 2, .inl 0, .inl 0, .inl 0, .inl 0, .inl 0, .inl 0, .inl 0]),
  (1, List.replicate 10 (.inl 0)),
  (2, [.inr (some 10), .inr (some 26), .inr (some 12), .inr (some 13), .inr (some 14), .inr (some 15), .inr (some 16), .inr (some 17), .inr (some 18), .inr (some 19), .inr (some 20), .inr (some 21), .inr (some 22), .inr (some 23), .inr (some 24), .inr (some 25)]),
  (2, List.replicate 40 (.inr none)),
  (2, List.replicate 40 (.inr none)),
  (2, List.replicate 4000 (.inr none)),
  (2, List.replicate 4000 (.inr none)),
  (3, List.replicate 64 (.inr none)),
  (0, List.replicate 12 (.inl 0)),
  (0, [.inl 100]),
  (0, [.inl 100]),
  (0, [.inl 100]),
  (0, [.inl 100]),
  (0, [.inl 100]),
  (0, [.inl 100]),
  (0, [.inl 100]),
  (0, [.inl 100]),
  (0, [.inl 100]),
  (0, [.inl 100]),
  (0, [.inl 100]),
  (0, [.inl 100]),
  (0, [.inl 100]),
  (0, [.inl 100]),
  (0, [.inl 100]),
  (0, [.inl 100]),
  (0, [.inl 0])]
set_option maxRecDepth 1000000 in
theorem rM3 : Run2 96 8 [.inr (some 0), .inl 1, .inl 0, .inl 0, .inl 0] hM3 hM4 1 0 1490 7980 := Run2_of (n := 5000) (by decide +kernel) (by decide +kernel) (by decide +kernel) (by decide +kernel)
def hM5 : List MC := [(21, [.inl 0, .inr (some 1), .inr (some 2), .inl 3, .inr (some 3), .inr (some 4), .inr (some 5), .inl 0, .inr (some 6), .inr (some 7), .inl 0, .inl 0, .inl 0, .inl 0, .inl 0, .inl 120000, .inl 0, .inr (some 8), .inl 0, .inr (some 9), .inl 0, .inr none, .inr none]),
  (0, [.inl 0, .inl 1, .inl 2, .inl 0, .inl 0, .inl 0, .inl 0, .inl 0, .inl 0, .inl 0]),
  (1, List.replicate 10 (.inl 0)),
  (2, [.inr (some 10), .inr (some 26), .inr (some 27), .inr (some 13), .inr (some 14), .inr (some 15), .inr (some 16), .inr (some 17), .inr (some 18), .inr (some 19), .inr (some 20), .inr (some 21), .inr (some 22), .inr (some 23), .inr (some 24), .inr (some 25)]),
  (2, List.replicate 40 (.inr none)),
  (2, List.replicate 40 (.inr none)),
  (2, List.replicate 4000 (.inr none)),
  (2, List.replicate 4000 (.inr none)),
  (3, List.replicate 64 (.inr none)),
  (0, List.replicate 12 (.inl 0)),
  (0, [.inl 100]),
  (0, [.inl 100]),
  (0, [.inl 100]),
  (0, [.inl 100]),
  (0, [.inl 100]),
  (0, [.inl 100]),
  (0, [.inl 100]),
  (0, [.inl 100]),
  (0, [.inl 100]),
  (0, [.inl 100]),
  (0, [.inl 100]),
  (0, [.inl 100]),
  (0, [.inl 100]),
  (0, [.inl 100]),
  (0, [.inl 100]),
  (0, [.inl 100]),
  (0, [.inl 0]),
  (0, [.inl 2, .inl 0, .inl 0])]
set_option maxRecDepth 1000000 in
theorem rM4 : Run2 96 8 [.inr (some 0), .inl 2, .inl 2, .inl 1, .inl 1] hM4 hM5 1 0 1490 7980 := Run2_of (n := 5000) (by decide +kernel) (by decide +kernel) (by decide +kernel) (by decide +kernel)
def hM6 : List MC := [(21, [.inl 0, .inr (some 1), .inr (some 2), .inl 3, .inr (some 3), .inr (some 4), .inr (some 5), .inl 0, .inr (some 6), .inr (some 7), .inl 0, .inl 0, .inl 0, .inl 0, .inl 0, .inl 120000, .inl 0, .inr (some 8), .inl 0, .inr (some 9), .inl 0, .inr none, .inr none]),
  (0, [.inl 0, .inl 1, .inl 2, .inl 0, .inl 0, .inl 0, .inl 0, .inl 0, .inl 0, .inl 0]),
  (1, List.replicate 10 (.inl 0)),
  (2, [.inr (some 10), .inr (some 26), .inr (some 27), .inr (some 28), .inr (some 14), .inr (some 15), .inr (some 16), .inr (some 17), .inr (some 18), .inr (some 19), .inr (some 20), .inr (some 21), .inr (some 22), .inr (some 23), .inr (some 24), .inr (some 25)]),
  (2, List.replicate 40 (.inr none)),
  (2, List.replicate 40 (.inr none)),
  (2, List.replicate 4000 (.inr none)),
  (2, List.replicate 4000 (.inr none)),
  (3, List.replicate 64 (.inr none)),
  (0, List.replicate 12 (.inl 0)),
  (0, [.inl 100]),
  (0, [.inl 100]),
  (0, [.inl 100]),
  (0, [.inl 100]),
  (0, [.inl 100]),
  (0, [.inl 100]),
  (0, [.inl 100]),
  (0, [.inl 100]),
  (0, [.inl 100]),
  (0, [.inl 100]),
  (0, [.inl 100]),
  (0, [.inl 100]),
  (0, [.inl 100]),
  (0, [.inl 100]),
  (0, [.inl 100]),
  (0, [.inl 100]),
  (0, [.inl 0]),
  (0, [.inl 2, .inl 0, .inl 0]),
  (0, [.inl 2, .inl 2, .inl 0, .inl 0, .inl 2, .inl 0, .inl 0])]
set_option maxRecDepth 1000000 in
theorem rM5 : Run2 96 8 [.inr (some 0), .inl 3, .inl 2, .inl 2, .inl 2] hM5 hM6 1 0 1490 7980 := Run2_of (n := 5000) (by decide +kernel) (by decide +kernel) (by decide +kernel) (by decide +kernel)
def hM7 : List MC := [(21, [.inl 0, .inr (some 1), .inr (some 2), .inl 3, .inr (some 3), .inr (some 4), .inr (some 5), .inl 0, .inr (some 6), .inr (some 7), .inl 0, .inl 0, .inl 0, .inl 0, .inl 0, .inl 120000, .inl 0, .inr (some 8), .inl 0, .inr (some 9), .inl 0, .inr none, .inr none]),
  (0, [.inl 0, .inl 1, .inl 2, .inl 0, .inl 0, .inl 0, .inl 0, .inl 0, .inl 0, .inl 0]),
  (1, List.replicate 10 (.inl 0)),
  (2, [.inr (some 10), .inr (some 26), .inr (some 27), .inr (some 28), .inr (some 29), .inr (some 15), .inr (some 16), .inr (some 17), .inr (some 18), .inr (some 19), .inr (some 20), .inr (some 21), .inr (some 22), .inr (some 23), .inr (some 24), .inr (some 25)]),
  (2, List.replicate 40 (.inr none)),
  (2, List.replicate 40 (.inr none)),
  (2, List.replicate 4000 (.inr none)),
  (2, List.replicate 4000 (.inr none)),
  (3, List.replicate 64 (.inr none)),
  (0, List.replicate 12 (.inl 0)),
  (0, [.inl 100]),
  (0, [.inl 100]),
  (0, [.inl 100]),
  (0, [.inl 100]),
  (0, [.inl 100]),
  (0, [.inl 100]),
  (0, [.inl 100]),
  (0, [.inl 100]),
  (0, [.inl 100]),
  (0, [.inl 100]),
  (0, [.inl 100]),
  (0, [.inl 100]),
  (0, [.inl 100]),
  (0, [.inl 100]),
  (0, [.inl 100]),
  (0, [.inl 100]),
  (0, [.inl 0]),
  (0, [.inl 2, .inl 0, .inl 0]),
  (0, [.inl 2, .inl 2, .inl 0, .inl 0, .inl 2, .inl 0, .inl 0]),
  (0, [.inl 2, .inl 2, .inl 2, .inl 0, .inl 0, .inl 2, .inl 0, .inl 0, .inl 2, .inl 2, .inl 0, .inl 0, .inl 2, .inl 0, .inl 0])]
set_option maxRecDepth 1000000 in
theorem rM6 : Run2 96 8 [.inr (some 0), .inl 4, .inl 2, .inl 3, .inl 3] hM6 hM7 1 0 1490 7980 := Run2_of (n := 5000) (by decide +kernel) (by decide +kernel) (by decide +kernel) (by decide +kernel)
def hM8 : List MC := [(21, [.inl 0, .inr (some 1), .inr (some 2), .inl 3, .inr (some 3), .inr (some 4), .inr (some 5), .inl 0, .inr (some 6), .inr (some 7), .inl 0, .inl 0, .inl 0, .inl 0, .inl 0, .inl 120000, .inl 0, .inr (some 8), .inl 0, .inr (some 9), .inl 0, .inr none, .inr none]),
  (0, [.inl 0, .inl 1, .inl 2, .inl 0, .inl 0, .inl 0, .inl 0, .inl 0, .inl 0, .inl 0]),
  (1, List.replicate 10 (.inl 0)),
  (2, [.inr (some 10), .inr (some 26), .inr (some 27), .inr (some 28), .inr (some 29), .inr (some 30), .inr (some 16), .inr (some 17), .inr (some 18), .inr (some 19), .inr (some 20), .inr (some 21), .inr (some 22), .inr (some 23), .inr (some 24), .inr (some 25)]),
  (2, List.replicate 40 (.inr none)),
  (2, List.replicate 40 (.inr none)),
  (2, List.replicate 4000 (.inr none)),
  (2, List.replicate 4000 (.inr none)),
  (3, List.replicate 64 (.inr none)),
  (0, List.replicate 12 (.inl 0)),
  (0, [.inl 100]),
  (0, [.inl 100]),
  (0, [.inl 100]),
  (0, [.inl 100]),
  (0, [.inl 100]),
  (0, [.inl 100]),
  (0, [.inl 100]),
  (0, [.inl 100]),
  (0, [.inl 100]),
  (0, [.inl 100]),
  (0, [.inl 100]),
  (0, [.inl 100]),
  (0, [.inl 100]),
  (0, [.inl 100]),
  (0, [.inl 100]),
  (0, [.inl 100]),
  (0, [.inl 0]),
  (0, [.inl 2, .inl 0, .inl 0]),
  (0, [.inl 2, .inl 2, .inl 0, .inl 0, .inl 2, .inl 0, .inl 0]),
  (0, [.inl 2, .inl 2, .inl 2, .inl 0, .inl 0, .inl 2, .inl 0, .inl 0, .inl 2, .inl 2, .inl 0, .inl 0, .inl 2, .inl 0, .inl 0]),
  (0, [.inl 2, .inl 2, .inl 2, .inl 2, .inl 0, .inl 0, .inl 2, .inl 0, .inl 0, .inl 2, .inl 2, .inl 0, .inl 0, .inl 2, .inl 0, .inl 0, .inl 2, .inl 2, .inl 0, .inl 0, .inl 2, .inl 0, .inl 0])]
set_option maxRecDepth 1000000 in
theorem rM7 : Run2 96 8 [.inr (some 0), .inl 5, .inl 2, .inl 4, .inl 3] hM7 hM8 1 0 1490 7980 := Run2_of (n := 5000) (by decide +kernel) (by decide +kernel) (by decide +kernel) (by decide +kernel)
def hM9 : List MC := [(21, [.inl 0, .inr (some 1), .inr (some 2), .inl 3, .inr (some 3), .inr (some 4), .inr (some 5), .inl 0, .inr (some 6), .inr (some 7), .inl 0, .inl 0, .inl 0, .inl 0, .inl 0, .inl 120000, .inl 0, .inr (some 8), .inl 0, .inr (some 9), .inl 0, .inr none, .inr none]),
  (0, [.inl 0, .inl 1, .inl 2, .inl 0, .inl 0, .inl 0, .inl 0, .inl 0, .inl 0, .inl 0]),
  (1, List.replicate 10 (.inl 0)),
  (2, [.inr (some 10), .inr (some 26), .inr (some 27), .inr (some 28), .inr (some 29), .inr (some 30), .inr (some 31), .inr (some 17), .inr (some 18), .inr (some 19), .inr (some 20), .inr (some 21), .inr (some 22), .inr (some 23), .inr (some 24), .inr (some 25)]),
  (2, List.replicate 40 (.inr none)),
  (2, List.replicate 40 (.inr none)),
  (2, List.replicate 4000 (.inr none)),
  (2, List.replicate 4000 (.inr none)),
  (3, List.replicate 64 (.inr none)),
  (0, List.replicate 12 (.inl 0)),
  (0, [.inl 100]),
  (0, [.inl 100]),
  (0, [.inl 100]),
  (0, [.inl 100]),
  (0, [.inl 100]),
  (0, [.inl 100]),
  (0, [.inl 100]),
  (0, [.inl 100]),
  (0, [.inl 100]),
  (0, [.inl 100]),
  (0, [.inl 100]),
  (0, [.inl 100]),
  (0, [.inl 100]),
  (0, [.inl 100]),
  (0, [.inl 100]),
  (0, [.inl 100]),
  (0, [.inl 0]),
  (0, [.inl 2, .inl 0, .inl 0]),
  (0, [.inl 2, .inl 2, .inl 0, .inl 0, .inl 2, .inl 0, .inl 0]),
  (0, [.inl 2, .inl 2, .inl 2, .inl 0, .inl 0, .inl 2, .inl 0, .inl 0, .inl 2, .inl 2, .inl 0, .inl 0, .inl 2, .inl 0, .inl 0]),
  (0, [.inl 2, .inl 2, .inl 2, .inl 2, .inl 0, .inl 0, .inl 2, .inl 0, .inl 0, .inl 2, .inl 2, .inl 0, .inl 0, .inl 2, .inl 0, .inl 0, .inl 2, .inl 2, .inl 0, .inl 0, .inl 2, .inl 0, .inl 0]),
  (0, [.inl 1, .inl 2, .inl 2, .inl 2, .inl 2, .inl 0, .inl 0, .inl 2, .inl 0, .inl 0, .inl 2, .inl 2, .inl 0, .inl 0, .inl 2, .inl 0, .inl 0, .inl 2, .inl 2, .inl 0, .inl 0, .inl 2, .inl 0, .inl 0])]
set_option maxRecDepth 1000000 in
theorem rM8 : Run2 96 8 [.inr (some 0), .inl 6, .inl 1, .inl 5, .inl 0] hM8 hM9 1 0 1490 7980 := Run2_of (n := 5000) (by decide +kernel) (by decide +kernel) (by decide +kernel) (by decide +kernel)
def hM10 : List MC := [(21, [.inl 0, .inr (some 1), .inr (some 2), .inl 3, .inr (some 3), .inr (some 4), .inr (some 5), .inl 0, .inr (some 6), .inr (some 7), .inl 0, .inl 0, .inl 0, .inl 0, .inl 0, .inl 120000, .inl 0, .inr (some 8), .inl 0, .inr (some 9), .inl 0, .inr none, .inr none]),
  (0, [.inl 0, .inl 1, .inl 2, .inl 0, .inl 0, .inl 0, .inl 0, .inl 0, .inl 0, .inl 0]),
  (1, List.replicate 10 (.inl 0)),
  (2, [.inr (some 10), .inr (some 26), .inr (some 27), .inr (some 28), .inr (some 29), .inr (some 30), .inr (some 31), .inr (some 32), .inr (some 18), .inr (some 19), .inr (some 20), .inr (some 21), .inr (some 22), .inr (some 23), .inr (some 24), .inr (some 25)]),
  (2, List.replicate 40 (.inr none)),
  (2, List.replicate 40 (.inr none)),
  (2, List.replicate 4000 (.inr none)),
  (2, List.replicate 4000 (.inr none)),
  (3, List.replicate 64 (.inr none)),
  (0, List.replicate 12 (.inl 0)),
  (0, [.inl 100]),
  (0, [.inl 100]),
  (0, [.inl 100]),
  (0, [.inl 100]),
  (0, [.inl 100]),
  (0, [.inl 100]),
  (0, [.inl 100]),
  (0, [.inl 100]),
  (0, [.inl 100]),
  (0, [.inl 100]),
  (0, [.inl 100]),
  (0, [.inl 100]),
  (0, [.inl 100]),
  (0, [.inl 100]),
  (0, [.inl 100]),
  (0, [.inl 100]),
  (0, [.inl 0]),
  (0, [.inl 2, .inl 0, .inl 0]),
  (0, [.inl 2, .inl 2, .inl 0, .inl 0, .inl 2, .inl 0, .inl 0]),
  (0, [.inl 2, .inl 2, .inl 2, .inl 0, .inl 0, .inl 2, .inl 0, .inl 0, .inl 2, .inl 2, .inl 0, .inl 0, .inl 2, .inl 0, .inl 0]),
  (0, [.inl 2, .inl 2, .inl 2, .inl 2, .inl 0, .inl 0, .inl 2, .inl 0, .inl 0, .inl 2, .inl 2, .inl 0, .inl 0, .inl 2, .inl 0, .inl 0, .inl 2, .inl 2, .inl 0, .inl 0, .inl 2, .inl 0, .inl 0]),
  (0, [.inl 1, .inl 2, .inl 2, .inl 2, .inl 2, .inl 0, .inl 0, .inl 2, .inl 0, .inl 0, .inl 2, .inl 2, .inl 0, .inl 0, .inl 2, .inl 0, .inl 0, .inl 2, .inl 2, .inl 0, .inl 0, .inl 2, .inl 0, .inl 0]),
  (0, [.inl 2, .inl 100, .inl 100])]
set_option maxRecDepth 1000000 in
theorem rM9 : Run2 96 8 [.inr (some 0), .inl 7, .inl 2, .inl 0, .inl 0] hM9 hM10 1 0 1490 7980 := Run2_of (n := 5000) (by decide +kernel) (by decide +kernel) (by decide +kernel) (by decide +kernel)
def hM11 : List MC := [(21, [.inl 0, .inr (some 1), .inr (some 2), .inl 3, .inr (some 3), .inr (some 4), .inr (some 5), .inl 0, .inr (some 6), .inr (some 7), .inl 0, .inl 0, .inl 0, .inl 0, .inl 0, .inl 120000, .inl 0, .inr (some 8), .inl 0, .inr (some 9), .inl 0, .inr none, .inr none]),
  (0, [.inl 0, .inl 1, .inl 2, .inl 0, .inl 0, .inl 0, .inl 0, .inl 0, .inl 0, .inl 0]),
  (1, List.replicate 10 (.inl 0)),
  (2, [.inr (some 10), .inr (some 26), .inr (some 27), .inr (some 28), .inr (some 29), .inr (some 30), .inr (some 31), .inr (some 32), .inr (some 33), .inr (some 19), .inr (some 20), .inr (some 21), .inr (some 22), .inr (some 23), .inr (some 24), .inr (some 25)]),
  (2, List.replicate 40 (.inr none)),
  (2, List.replicate 40 (.inr none)),
  (2, List.replicate 4000 (.inr none)),
  (2, List.replicate 4000 (.inr none)),
  (3, List.replicate 64 (.inr none)),
  (0, List.replicate 12 (.inl 0)),
  (0, [.inl 100]),
  (0, [.inl 100]),
  (0, [.inl 100]),
  (0, [.inl 100]),
  (0, [.inl 100]),
  (0, [.inl 100]),
  (0, [.inl 100]),
  (0, [.inl 100]),
  (0, [.inl 100]),
  (0, [.inl 100]),
  (0, [.inl 100]),
  (0, [.inl 100]),
  (0, [.inl 100]),
  (0, [.inl 100]),
  (0, [.inl 100]),
  (0, [.inl 100]),
  (0, [.inl 0]),
  (0, [.inl 2, .inl 0, .inl 0]),
  (0, [.inl 2, .inl 2, .inl 0, .inl 0, .inl 2, .inl 0, .inl 0]),
  (0, [.inl 2, .inl 2, .inl 2, .inl 0, .inl 0, .inl 2, .inl 0, .inl 0, .inl 2, .inl 2, .inl 0, .inl 0, .inl 2, .inl 0, .inl 0]),
  (0, [.inl 2, .inl 2, .inl 2, .inl 2, .inl 0, .inl 0, .inl 2, .inl 0, .inl 0, .inl 2, .inl 2, .inl 0, .inl 0, .inl 2, .inl 0, .inl 0, .inl 2, .inl 2, .inl 0, .inl 0, .inl 2, .inl 0, .inl 0]),
  (0, [.inl 1, .inl 2, .inl 2, .inl 2, .inl 2, .inl 0, .inl 0, .inl 2, .inl 0, .inl 0, .inl 2, .inl 2, .inl 0, .inl 0, .inl 2, .inl 0, .inl 0, .inl 2, .inl 2, .inl 0, .inl 0, .inl 2, .inl 0, .inl 0]),
  (0, [.inl 2, .inl 100, .inl 100]),
  (0, [.inl 2, .inl 2, .inl 100, .inl 100, .inl 2, .inl 100, .inl 100])]
set_option maxRecDepth 1000000 in
theorem rM10 : Run2 96 8 [.inr (some 0), .inl 8, .inl 2, .inl 7, .inl 7] hM10 hM11 1 0 1490 7980 := Run2_of (n := 5000) (by decide +kernel) (by decide +kernel) (by decide +kernel) (by decide +kernel)
def hM12 : List MC := [(21, [.inl 0, .inr (some 1), .inr (some 2), .inl 3, .inr (some 3), .inr (some 4), .inr (some 5), .inl 0, .inr (some 6), .inr (some 7), .inl 0, .inl 0, .inl 0, .inl 0, .inl 0, .inl 120000, .inl 0, .inr (some 8), .inl 0, .inr (some 9), .inl 0, .inr none, .inr none]),
  (0, [.inl 0, .inl 1, .inl 2, .inl 0, .inl 0, .inl 0, .inl 0, .inl 0, .inl 0, .inl 0]),
  (1, List.replicate 10 (.inl 0)),
  (2, [.inr (some 10), .inr (some 26), .inr (some 27), .inr (some 28), .inr (some 29), .inr (some 30), .inr (some 31), .inr (some 32), .inr (some 33), .inr (some 34), .inr (some 20), .inr (some 21), .inr (some 22), .inr (some 23), .inr (some 24), .inr (some 25)]),
  (2, List.replicate 40 (.inr none)),
  (2, List.replicate 40 (.inr none)),
  (2, List.replicate 4000 (.inr none)),
  (2, List.replicate 4000 (.inr none)),
  (3, List.replicate 64 (.inr none)),
  (0, List.replicate 12 (.inl 0)),
  (0, [.inl 100]),
  (0, [.inl 100]),
  (0, [.inl 100]),
  (0, [.inl 100]),
  (0, [.inl 100]),
  (0, [.inl 100]),
  (0, [.inl 100]),
  (0, [.inl 100]),
  (0, [.inl 100]),
  (0, [.inl 100]),
  (0, [.inl 100]),
  (0, [.inl 100]),
  (0, [.inl 100]),
  (0, [.inl 100]),
  (0, [.inl 100]),
  (0, [.inl 100]),
  (0, [.inl 0]),
  (0, [.inl 2, .inl 0, .inl 0]),
  (0, [.inl 2, .inl 2, .inl 0, .inl 0, .inl 2, .inl 0, .inl 0]),
  (0, [.inl 2, .inl 2, .inl 2, .inl 0, .inl 0, .inl 2, .inl 0, .inl 0, .inl 2, .inl 2, .inl 0, .inl 0, .inl 2, .inl 0, .inl 0]),
  (0, [.inl 2, .inl 2, .inl 2, .inl 2, .inl 0, .inl 0, .inl 2, .inl 0, .inl 0, .inl 2, .inl 2, .inl 0, .inl 0, .inl 2, .inl 0, .inl 0, .inl 2, .inl 2, .inl 0, .inl 0, .inl 2, .inl 0, .inl 0]),
  (0, [.inl 1, .inl 2, .inl 2, .inl 2, .inl 2, .inl 0, .inl 0, .inl 2, .inl 0, .inl 0, .inl 2, .inl 2, .inl 0, .inl 0, .inl 2, .inl 0, .inl 0, .inl 2, .inl 2, .inl 0, .inl 0, .inl 2, .inl 0, .inl 0]),
  (0, [.inl 2, .inl 100, .inl 100]),
  (0, [.inl 2, .inl 2, .inl 100, .inl 100, .inl 2, .inl 100, .inl 100]),
  (0, [.inl 2, .inl 2, .inl 2, .inl 100, .inl 100, .inl 2, .inl 100, .inl 100, .inl 2, .inl 2, .inl 100, .inl 100, .inl 2, .inl 100, .inl 100])]
set_option maxRecDepth 1000000 in
theorem rM11 : Run2 96 8 [.inr (some 0), .inl 9, .inl 2, .inl 8, .inl 8] hM11 hM12 1 0 1490 7980 := Run2_of (n := 5000) (by decide +kernel) (by decide +kernel) (by decide +kernel) (by decide +kernel)
def hM13 : List MC := [(21, [.inl 0, .inr (some 1), .inr (some 2), .inl 3, .inr (some 3), .inr (some 4), .inr (some 5), .inl 0, .inr (some 6), .inr (some 7), .inl 0, .inl 0, .inl 0, .inl 0, .inl 0, .inl 120000, .inl 0, .inr (some 8), .inl 0, .inr (some 9), .inl 0, .inr none, .inr none]),
  (0, [.inl 0, .inl 1, .inl 2, .inl 0, .inl 0, .inl 0, .inl 0, .inl 0, .inl 0, .inl 0]),
  (1, List.replicate 10 (.inl 0)),
  (2, [.inr (some 10), .inr (some 26), .inr (some 27), .inr (some 28), .inr (some 29), .inr (some 30), .inr (some 31), .inr (some 32), .inr (some 33), .inr (some 34), .inr (some 35), .inr (some 21), .inr (some 22), .inr (some 23), .inr (some 24), .inr (some 25)]),
  (2, List.replicate 40 (.inr none)),
  (2, List.replicate 40 (.inr none)),
  (2, List.replicate 4000 (.inr none)),
  (2, List.replicate 4000 (.inr none)),
  (3, List.replicate 64 (.inr none)),
  (0, List.replicate 12 (.inl 0)),
  (0, [.inl 100]),
  (0, [.inl 100]),
  (0, [.inl 100]),
  (0, [.inl 100]),
  (0, [.inl 100]),
  (0, [.inl 100]),
  (0, [.inl 100]),
  (0, [.inl 100]),
  (0, [.inl 100]),
  (0, [.inl 100]),
  (0, [.inl 100]),
  (0, [.inl 100]),
  (0, [.inl 100]),
  (0, [.inl 100]),
  (0, [.inl 100]),
  (0, [.inl 100]),
  (0, [.inl 0]),
  (0, [.inl 2, .inl 0, .inl 0]),
  (0, [.inl 2, .inl 2, .inl 0, .inl 0, .inl 2, .inl 0, .inl 0]),
  (0, [.inl 2, .inl 2, .inl 2, .inl 0, .inl 0, .inl 2, .inl 0, .inl 0, .inl 2, .inl 2, .inl 0, .inl 0, .inl 2, .inl 0, .inl 0]),
  (0, [.inl 2, .inl 2, .inl 2, .inl 2, .inl 0, .inl 0, .inl 2, .inl 0, .inl 0, .inl 2, .inl 2, .inl 0, .inl 0, .inl 2, .inl 0, .inl 0, .inl 2, .inl 2, .inl 0, .inl 0, .inl 2, .inl 0, .inl 0]),
  (0, [.inl 1, .inl 2, .inl 2, .inl 2, .inl 2, .inl 0, .inl 0, .inl 2, .inl 0, .inl 0, .inl 2, .inl 2, .inl 0, .inl 0, .inl 2, .inl 0, .inl 0, .inl 2, .inl 2, .inl 0, .inl 0, .inl 2, .inl 0, .inl 0]),
  (0, [.inl 2, .inl 100, .inl 100]),
  (0, [.inl 2, .inl 2, .inl 100, .inl 100, .inl 2, .inl 100, .inl 100]),
  (0, [.inl 2, .inl 2, .inl 2, .inl 100, .inl 100, .inl 2, .inl 100, .inl 100, .inl 2, .inl 2, .inl 100, .inl 100, .inl 2, .inl 100, .inl 100]),
  (0, [.inl 2, .inl 2, .inl 2, .inl 2, .inl 100, .inl 100, .inl 2, .inl 100, .inl 100, .inl 2, .inl 2, .inl 100, .inl 100, .inl 2, .inl 100, .inl 100, .inl 2, .inl 2, .inl 100, .inl 100, .inl 2, .inl 100, .inl 100])]
set_option maxRecDepth 1000000 in
theorem rM12 : Run2 96 8 [.inr (some 0), .inl 10, .inl 2, .inl 9, .inl 8] hM12 hM13 1 0 1490 7980 := Run2_of (n := 5000) (by decide +kernel) (by decide +kernel) (by decide +kernel) (by decide +kernel)
def hM14 : List MC := [(21, [.inl 0, .inr (some 1), .inr (some 2), .inl 3, .inr (some 3), .inr (some 4), .inr (some 5), .inl 0, .inr (some 6), .inr (some 7), .inl 0, .inl 0, .inl 0, .inl 0, .inl 0, .inl 120000, .inl 0, .inr (some 8), .inl 0, .inr (some 9), .inl 0, .inr none, .inr none]),
  (0, [.inl 0, .inl 1, .inl 2, .inl 0, .inl 0, .inl 0, .inl 0, .inl 0, .inl 0, .inl 0]),
  (1, List.replicate 10 (.inl 0)),
  (2, [.inr (some 10), .inr (some 26), .inr (some 27), .inr (some 28), .inr (some 29), .inr (some 30), .inr (some 31), .inr (some 32), .inr (some 33), .inr (some 34), .inr (some 35), .inr (some 36), .inr (some 22), .inr (some 23), .inr (some 24), .inr (some 25)]),
  (2, List.replicate 40 (.inr none)),
  (2, List.replicate 40 (.inr none)),
  (2, List.replicate 4000 (.inr none)),
  (2, List.replicate 4000 (.inr none)),
  (3, List.replicate 64 (.inr none)),
  (0, List.replicate 12 (.inl 0)),
  (0, [.inl 100]),
  (0, [.inl 100]),
  (0, [.inl 100]),
  (0, [.inl 100]),
  (0, [.inl 100]),
  (0, [.inl 100]),
  (0, [.inl 100]),
  (0, [.inl 100]),
  (0, [.inl 100]),
  (0, [.inl 100]),
  (0, [.inl 100]),
  (0, [.inl 100]),
  (0, [.inl 100]),
  (0, [.inl 100]),
  (0, [.inl 100]),
  (0, [.inl 100]),
  (0, [.inl 0]),
  (0, [.inl 2, .inl 0, .inl 0]),
  (0, [.inl 2, .inl 2, .inl 0, .inl 0, .inl 2, .inl 0, .inl 0]),
  (0, [.inl 2, .inl 2, .inl 2, .inl 0, .inl 0, .inl 2, .inl 0, .inl 0, .inl 2, .inl 2, .inl 0, .inl 0, .inl 2, .inl 0, .inl 0]),
  (0, [.inl 2, .inl 2, .inl 2, .inl 2, .inl 0, .inl 0, .inl 2, .inl 0, .inl 0, .inl 2, .inl 2, .inl 0, .inl 0, .inl 2, .inl 0, .inl 0, .inl 2, .inl 2, .inl 0, .inl 0, .inl 2, .inl 0, .inl 0]),
  (0, [.inl 1, .inl 2, .inl 2, .inl 2, .inl 2, .inl 0, .inl 0, .inl 2, .inl 0, .inl 0, .inl 2, .inl 2, .inl 0, .inl 0, .inl 2, .inl 0, .inl 0, .inl 2, .inl 2, .inl 0, .inl 0, .inl 2, .inl 0, .inl 0]),
  (0, [.inl 2, .inl 100, .inl 100]),
  (0, [.inl 2, .inl 2, .inl 100, .inl 100, .inl 2, .inl 100, .inl 100]),
  (0, [.inl 2, .inl 2, .inl 2, .inl 100, .inl 100, .inl 2, .inl 100, .inl 100, .inl 2, .inl 2, .inl 100, .inl 100, .inl 2, .inl 100, .inl 100]),
  (0, [.inl 2, .inl 2, .inl 2, .inl 2, .inl 100, .inl 100, .inl 2, .inl 100, .inl 100, .inl 2, .inl 2, .inl 100, .inl 100, .inl 2, .inl 100, .inl 100, .inl 2, .inl 2, .inl 100, .inl 100, .inl 2, .inl 100, .inl 100]),
  (0, [.inl 1, .inl 2, .inl 2, .inl 2, .inl 2, .inl 100, .inl 100, .inl 2, .inl 100, .inl 100, .inl 2, .inl 2, .inl 100, .inl 100, .inl 2, .inl 100, .inl 100, .inl 2, .inl 2, .inl 100, .inl 100, .inl 2, .inl 100, .inl 100])]
set_option maxRecDepth 1000000 in
theorem rM13 : Run2 96 8 [.inr (some 0), .inl 11, .inl 1, .inl 10, .inl 0] hM13 hM14 1 0 1490 7980 := Run2_of (n := 5000) (by decide +kernel) (by decide +kernel) (by decide +kernel) (by decide +kernel)
end
section
/-! THE LAW ON THE SCRIPT, from its entry to its end -/
set_option maxRecDepth 1000000 in
theorem hD_cl : hD.all (fun c => c.2.all (clv hD.length)) = true := by decide +kernel
set_option maxRecDepth 1000000 in
theorem hJ_is : hJ = hD ++ hS := eqH_eq (by decide +kernel)
set_option maxRecDepth 1000000 in
theorem hJ_pick : (hJ.drop 70).take hM.length = hM.map (shc 70) := eqH_eq (by decide +kernel)
set_option maxRecDepth 1000000 in
theorem hJ_room : 1 + (hD.length - 1) ≤ 70 ∧ mslots (hD.drop 1) ≤ 5000 ∧ 70 + 1 + (hJ.length - 71) ≤ 100 ∧ 10000 + mslots (hJ.drop 71) ≤ 20000 := by decide +kernel
section LW
variable {p : Program} {l : Launch} {e : Env} {s : State} {m : MethodId} {below : List Frame} {meth : Method} {c : Code} {D : va_G} {b : Nat}
set_option maxHeartbeats 40000000 in
set_option maxRecDepth 100000 in
theorem set_up {H : Heap} {locs : List Loc} {ls : Array Slot} (C : lw_At p s m meth c b 3072 scr) (I : IV D s b 0 hX0 hM0 0 H locs ls) (kk : ∀ (H : Heap) (locs : List Loc) (ls : Array Slot), IV D s b 14 hX14 hM14 0 H locs ls → LG p l e s m below meth c b H locs (nC 14) (nS 14) 18 ls []) : LG p l e s m below meth c b H locs (nC 0) (nS 0) 18 ls [] := by
  refine st_symbol (k := 0) C (by decide) (by decide +kernel) (by decide +kernel) (by decide +kernel) I (by decide +kernel) (by decide +kernel) (by decide +kernel) (by decide +kernel) rX0 rM0 fun H locs ls I => ?_
  refine st_symbol (k := 1) C (by decide) (by decide +kernel) (by decide +kernel) (by decide +kernel) I (by decide +kernel) (by decide +kernel) (by decide +kernel) (by decide +kernel) rX1 rM1 fun H locs ls I => ?_
  refine st_symbol (k := 2) C (by decide) (by decide +kernel) (by decide +kernel) (by decide +kernel) I (by decide +kernel) (by decide +kernel) (by decide +kernel) (by decide +kernel) rX2 rM2 fun H locs ls I => ?_
  refine st_term (k := 3) C (by decide) (by decide +kernel) (by decide +kernel) (by decide +kernel) (by decide +kernel) (by decide +kernel) I (by decide +kernel) (by decide +kernel) (by decide +kernel) (by decide +kernel) rX3 rM3 fun H locs ls I => ?_
  refine st_term (k := 4) C (by decide) (by decide +kernel) (by decide +kernel) (by decide +kernel) (by decide +kernel) (by decide +kernel) I (by decide +kernel) (by decide +kernel) (by decide +kernel) (by decide +kernel) rX4 rM4 fun H locs ls I => ?_
  refine st_term (k := 5) C (by decide) (by decide +kernel) (by decide +kernel) (by decide +kernel) (by decide +kernel) (by decide +kernel) I (by decide +kernel) (by decide +kernel) (by decide +kernel) (by decide +kernel) rX5 rM5 fun H locs ls I => ?_
  refine st_term (k := 6) C (by decide) (by decide +kernel) (by decide +kernel) (by decide +kernel) (by decide +kernel) (by decide +kernel) I (by decide +kernel) (by decide +kernel) (by decide +kernel) (by decide +kernel) rX6 rM6 fun H locs ls I => ?_
  refine st_term (k := 7) C (by decide) (by decide +kernel) (by decide +kernel) (by decide +kernel) (by decide +kernel) (by decide +kernel) I (by decide +kernel) (by decide +kernel) (by decide +kernel) (by decide +kernel) rX7 rM7 fun H locs ls I => ?_
  refine st_term (k := 8) C (by decide) (by decide +kernel) (by decide +kernel) (by decide +kernel) (by decide +kernel) (by decide +kernel) I (by decide +kernel) (by decide +kernel) (by decide +kernel) (by decide +kernel) rX8 rM8 fun H locs ls I => ?_
  refine st_term (k := 9) C (by decide) (by decide +kernel) (by decide +kernel) (by decide +kernel) (by decide +kernel) (by decide +kernel) I (by decide +kernel) (by decide +kernel) (by decide +kernel) (by decide +kernel) rX9 rM9 fun H locs ls I => ?_
  refine st_term (k := 10) C (by decide) (by decide +kernel) (by decide +kernel) (by decide +kernel) (by decide +kernel) (by decide +kernel) I (by decide +kernel) (by decide +kernel) (by decide +kernel) (by decide +kernel) rX10 rM10 fun H locs ls I => ?_
  refine st_term (k := 11) C (by decide) (by decide +kernel) (by decide +kernel) (by decide +kernel) (by decide +kernel) (by decide +kernel) I (by decide +kernel) (by decide +kernel) (by decide +kernel) (by decide +kernel) rX11 rM11 fun H locs ls I => ?_
  refine st_term (k := 12) C (by decide) (by decide +kernel) (by decide +kernel) (by decide +kernel) (by decide +kernel) (by decide +kernel) I (by decide +kernel) (by decide +kernel) (by decide +kernel) (by decide +kernel) rX12 rM12 fun H locs ls I => ?_
  refine st_term (k := 13) C (by decide) (by decide +kernel) (by decide +kernel) (by decide +kernel) (by decide +kernel) (by decide +kernel) I (by decide +kernel) (by decide +kernel) (by decide +kernel) (by decide +kernel) rX13 rM13 fun H locs ls I => ?_
  exact kk H locs ls I
set_option maxHeartbeats 40000000 in
set_option maxRecDepth 100000 in
/-- from the entry to the loop's head -/
theorem to_loop (l : Launch) (C0 : lw_At p s m meth c b 3072 scr) (kk : ∀ (D : va_G) (H : Heap) (locs : List Loc) (ls : Array Slot), IV D s b 0 hX0 hM0 0 H locs ls → LG p l e s m below meth c b H locs (nC 0) (nS 0) 18 ls []) : W p l e bigR s m #[Value.ref b] below meth c s.heap [] 0 0 (bZ below s) (entryFrame m ([Value.ref b] : List Value).toArray 4) := by
  have C := C0
  obtain ⟨hx, hb, hr, hml, hown, hts, hX, hbl, hlocks⟩ := id C0
  have hg := l_hts C
  have hKn : ∀ (k : Nat) (q : vw_C), mcl[k]? = some q → ∃ (cI : ClassId) (iS : Nat → Nat), u_Kn s q.1 q.2.1 q.2.2 cI iS := fun k q hq => by
    obtain ⟨c1, c2, c3, c4, c5, c6, c7⟩ := fc hq
    exact u_known (C := q.1) (T := q.2.1) (N := q.2.2) (n := q.2.2) hg c1 (hg _ c6)
  obtain ⟨dC, dI, hKc⟩ : ∃ (dC : Nat → ClassId) (dI : Nat → Nat → Nat), ∀ (k : Nat) (q : vw_C), mcl[k]? = some q → u_Kn s q.1 q.2.1 q.2.2 (dC k) (dI k) := by
    have hch : ∀ k : Nat, ∃ (w : ClassId × (Nat → Nat)), ∀ q : vw_C, mcl[k]? = some q → u_Kn s q.1 q.2.1 q.2.2 w.1 w.2 := fun k => by
      cases hk : mcl[k]? with
      | none => exact ⟨(m.cls, fun _ => 0), fun q hq => by cases hq⟩
      | some q0 =>
        obtain ⟨cI, iS, h⟩ := hKn k q0 hk
        exact ⟨(cI, iS), fun q hq => by cases hq; exact h⟩
    exact ⟨fun k => (Classical.choose (hch k)).1, fun k => (Classical.choose (hch k)).2, fun k q hq => Classical.choose_spec (hch k) q hq⟩
  have hS0 : va_S (lA s) s.heap s.heap [] := va_S.rf
  have hW : Wd (dC, dI) (lA s) s s.heap [] [] := ⟨[], [], rfl, rfl, fun a c q h => by simp at h, fun k q h => by simp at h, ⟨fun i j p q h => by simp at h, fun k q h => by simp at h⟩, ⟨hKc, fun k q h => by simp at h⟩, fun k q h => by simp at h⟩
  have hl := lv_entry ([.ref b]) (n := 4) (Nat.le_of_ble_eq_true rfl)
  rw [lg_entry_eq]
  generalize (lg_sl ([.ref b]) ++ List.replicate (4 - (lg_sl ([.ref b])).length) Slot.unset).toArray = ls at hl ⊢
  have hl : lv_has ls 4 [(0, .ref b)] := hl
  refine s_new (own := 14) (i := 7) (ci := 10) hx hb (l_own C) hg (fun _ h => h) hW hS0 (by decide +kernel) (by decide) (by decide) d_law_0 fun H qx hW hS0 => ?_
  refine lv_dup hx hb d_law_3 rfl ?_
  refine l_call (st := [.inr (some 0), .inr (some 0)]) (as := [.inr (some 0)]) (rest := [.inr (some 0)]) (Qc := fun r hE => r = none ∧ hE = hD) C d_law_4 rfl rfl hW hS0 ⟨hl.1, hl.2.1⟩ ⟨⟨qx, rfl, rfl⟩, ⟨qx, rfl, rfl⟩, trivial⟩ ⟨5000, none, hD, hD_made, rfl, rfl⟩ (fun r hE ok => by obtain ⟨-, rfl⟩ := ok; exact ⟨by decide +kernel, by decide +kernel⟩) fun r hE H1 locs1 ads1 st1 hQ ha hW1 hS1 hst1 => ?_
  obtain ⟨rfl, rfl⟩ := hQ
  obtain ⟨q0, r1, rfl, hq0, hr1⟩ := vrs_r (st := []) hst1
  have hr1e : r1 = [] := by
    match r1, hr1 with
    | [], _ => rfl
    | _ :: _, hr1 => exact hr1.elim
  subst hr1e
  refine W.widen (k := 70) (n := 5000) (by decide +kernel) (by decide +kernel) ?_
  refine lv_astore_n (lv' := [(1, .ref q0), (0, .ref b)]) hx hb d_law_7 rfl hl (by decide) rfl (fun ls hl => ?_)
  refine s_new (own := 14) (i := 10) (ci := 11) hx hb (l_own C) hg (fun _ h => h) hW1 hS1 (by decide +kernel) (by decide) (by decide) d_law_8 fun H qy hW2 hS2 => ?_
  refine lv_dup hx hb d_law_11 rfl ?_
  have hqy : (ads1 ++ [qy])[70]? = some qy := by
    have : ads1.length = 70 := by
      rw [Wd_len hW1]
      rfl
    rw [List.getElem?_append_right (by omega), this]
    rfl
  refine l_call (st := [.inr (some 70), .inr (some 70)]) (as := [.inr (some 70)]) (rest := [.inr (some 70)]) (Qc := fun r hE => r = none ∧ hE = hJ) C d_law_12 rfl rfl hW2 hS2 ⟨hl.1, hl.2.1⟩ ⟨⟨qy, hqy, rfl⟩, ⟨qy, hqy, rfl⟩, trivial⟩ ⟨5000, none, hJ, hJ_made, rfl, rfl⟩ (fun r hE ok => by obtain ⟨-, rfl⟩ := ok; exact ⟨by decide +kernel, by decide +kernel⟩) fun r hE H3 locs3 ads3 st3 hQ ha3 hW3 hS3 hst3 => ?_
  obtain ⟨rfl, rfl⟩ := hQ
  obtain ⟨q1, r3, rfl, hq1, hr3⟩ := vrs_r (st := []) hst3
  have hr3e : r3 = [] := by
    match r3, hr3 with
    | [], _ => rfl
    | _ :: _, hr3 => exact hr3.elim
  subst hr3e
  have hq0' : ads3[0]? = some q0 := by
    obtain ⟨la, rfl⟩ := ha3
    rw [List.append_assoc, List.getElem?_append_left (List.getElem?_eq_some_iff.mp hq0).1]
    exact hq0
  refine W.widen (k := nC 0) (n := nS 0) (by decide +kernel) (by decide +kernel) ?_
  refine lv_astore_n (lv' := [(2, .ref q1), (1, .ref q0), (0, .ref b)]) hx hb d_law_15 rfl hl (by decide) rfl (fun ls hl => ?_)
  refine lv_iconst (v := 0) hx hb d_law_16 (by decide) ?_
  refine lv_istore_n (lv' := [(3, .int 0), (2, .ref q1), (1, .ref q0), (0, .ref b)]) hx hb d_law_17 rfl hl (by decide) rfl (fun ls hl => ?_)
  have hnd := Wd_nd hW3
  have hWM := Wd_pick (k := 70) (g := hM) hW3 hJ_pick hM_cl
  rw [hJ_is] at hW3
  have hWX := Wd_drop hW3 hD_cl
  rw [← List.take_append_drop 70 ads3] at hnd
  refine kk (dC, dI) H3 locs3 ls ⟨ads3.take hD.length, (ads3.drop 70).take hM.length, q0, q1, hWX, hWM, fun q hq hq2 => (List.nodup_append.mp hnd).2.2 q hq2 q (List.mem_of_mem_take hq) rfl, ?_, ?_, hS3, hl, by have := hS3.1; omega⟩
  · rw [List.getElem?_take_of_lt (by decide)]; exact hq0'
  · rw [List.getElem?_take_of_lt (by decide), List.getElem?_drop]; exact hq1
/-- THE WHOLE WALK: given what greater(6, 11) does -/
theorem whole_walk (l : Launch) {hY : List MC} (tX : (hY[0]?).map (·.1) = some 20) (pX : 0 < hY.length) (g1 : Run2 30 3 [.inr (some 0), .inl 6, .inl 11] hX14 hY 0 0 1 24) (g2 : Run2 30 3 [.inr (some 0), .inl 6, .inl 11] hY hY 0 0 1 24) (gM : Run2 104 3 [.inr (some 0), .inl 6, .inl 11] hM14 hM14 0 1490 1490 7980) (C : lw_At p s m meth c b 3072 scr) : W p l e bigR s m #[Value.ref b] below meth c s.heap [] 0 0 (bZ below s) (entryFrame m ([Value.ref b] : List Value).toArray 4) := by
  refine to_loop l C fun D H locs ls I => ?_
  refine set_up C I fun H locs ls I => ?_
  refine st_greater (k := 14) (v := 0) C (by decide) (scr_g (j := 0) (by decide) (by decide)) (scr_g (j := 1) (by decide) (by decide)) (scr_g (j := 2) (by decide) (by decide)) I (by decide +kernel) (by decide +kernel) pX (by decide +kernel) g1 gM fun H locs ls I => ?_
  exact loopG C tX (by decide +kernel) pX (by decide +kernel) g2 gM 497 15 1490 H locs ls (by decide) (by decide) (by decide) I
end LW
end
section
/-! THE LAW'S METHOD, from every start with the script: it ends, with at least 742020 new cells -/
def bP (b : Addr) (args : Array Value) (s : State) : Prop := args = #[.ref b] ∧ s.IntsAt b ((List.range 3072).map scr)
def bQ (_ : Array Value) (s : State) (_ : Outcome) (t : State) : Prop := s.heap.size + 742020 ≤ t.heap.size
set_option maxHeartbeats 4000000 in
theorem b_walk (l : Launch) (b : Addr) {hY : List MC} (tX : (hY[0]?).map (·.1) = some 20) (pX : 0 < hY.length) (g1 : Run2 30 3 [.inr (some 0), .inl 6, .inl 11] hX14 hY 0 0 1 24) (g2 : Run2 30 3 [.inr (some 0), .inl 6, .inl 11] hY hY 0 0 1 24) (gM : Run2 104 3 [.inr (some 0), .inl 6, .inl 11] hM14 hM14 0 1490 1490 7980) : MetFree l x (headSpec (Jvm.Cond.code x code maxLocals ret :: tables_1) bigR) (bP b) (fun _ _ _ _ _ => True) bQ := by
  refine MetFree.of_bodyS (code := code) (maxLocals := maxLocals) (ret := ret) (by decide) ?_ ?_
  · intro args s m h hn
    obtain ⟨meth, c, h1, h2, h3, h4, h5, h6, -, -⟩ := Cond.code_spec hn (atoms_spec (ws := Jvm.Cond.code x code maxLocals ret :: tables_1) h _ List.mem_cons_self)
    exact ⟨meth, c, h1, h2, h3, h4, h5, h6⟩
  · intro p e s m args below meth c s₁ B hml0 hP _
    obtain ⟨rfl, hx⟩ := hP
    obtain ⟨sc, harrAt, hlist, hof, hsmall⟩ := hx
    obtain ⟨hcb, hkn, -, -⟩ := State.arrayAt?_spec harrAt
    have hown : s.vm.findClass R_law = some m.cls := findClass_of_methodNamed B.named
    have hts0 : ∀ c ∈ (Jvm.Cond.code x code maxLocals ret :: tables_1), c.before #[Value.ref b] s = true := atoms_spec (ws := Jvm.Cond.code x code maxLocals ret :: tables_1) B.pre
    have hts : ∀ w ∈ lw_tbl, w.before #[Value.ref b] s = true := k2_hts_sels lw_privs (fun w hw => hts0 w (List.mem_cons_of_mem _ hw)) lw_privs_ok
    have hml : c.maxLocals = 4 := B.maxLocals_eq (hts0 _ List.mem_cons_self)
    have X₀ : Stand p l e bigR s m #[Value.ref b] below meth c s₁ [] 0 0 := Stand.of_body B
    have hh0 : s₁.heap = s.heap := by rw [B.state]; rfl
    have hsz : sc.slots.size = 3072 := by rw [← Array.length_toList, hlist, List.length_map, List.length_map, List.length_range]
    have hval : ∀ j : Nat, j < 3072 → sc.slots[j]? = some (.int (scr j)) := fun j hj => by
      rw [← Array.getElem?_toList, hlist, List.getElem?_map, List.getElem?_map, List.getElem?_range hj]
      rfl
    have hbl : b < s.heap.size := (Array.getElem?_eq_some_iff.mp hcb).1
    have hX : va_X b 3072 scr s s.heap := ⟨sc, hcb, hof, hkn, hsz, hval⟩
    have K : W p l e bigR s m #[Value.ref b] below meth c s₁.heap [] 0 0 (bZ below s) (entryFrame m ([Value.ref b] : List Value).toArray 4) := by
      rw [hh0]
      exact whole_walk l tX pX g1 g2 gM ⟨B.exec, B.bytes, B.returns, hml, hown, hts, hX, hbl, B.notSynchronized⟩
    obtain ⟨t, a1, o, b1, b2, b3⟩ := K s₁ rfl X₀
    exact ⟨t, o, a1, b1, b2, b3⟩
end
section
/-! THE START: the script lies there, and all that the Statement asks of it holds -/
theorem ab_heap (a : Array Value) : (start1.aboutOf a).heap = #[{ cls := 19, slots := a, vm := .none }] := rfl
theorem ab_used (a : Array Value) : (start1.aboutOf a).slotsUsed = a.size := rfl
theorem ab_slot (a : Array Value) (i : Nat) (v : Int32) : (start1.aboutOf a).fitsSlot 19 .none i (.int v) = true := rfl
theorem ab_arr (a : Array Value) : (start1.aboutOf a).isArrayOf { cls := 19, slots := a, vm := .none } .int := ⟨(fun k h => by cases h), _, rfl, _, rfl⟩
theorem ab_at (a : Array Value) : (start1.aboutOf a).arrayAt? 0 = some { cls := 19, slots := a, vm := .none } := rfl
theorem ab_fits (a : Array Value) (n : Nat) (f : Nat → Int32) (hs : a.size = n) (hv : ∀ i, i < n → a[i]? = some (.int (f i))) : heapFits (start1.aboutOf a) = true := by
  have h : cellFits (start1.aboutOf a) { cls := 19, slots := a, vm := .none } = true := by
    refine List.all_eq_true.mpr fun i hi => ?_
    have hi2 : i < n := by
      have h3 : i < a.size := List.mem_range.mp hi
      omega
    have h4 := hv i hi2
    simp only [h4]
    exact ab_slot a i _
  unfold heapFits
  rw [ab_heap]
  simp [h]
theorem ab_true (a : Array Value) : (start1.aboutOf a).slotsTrue = true := by
  unfold State.slotsTrue
  rw [ab_heap, ab_used]
  simp
theorem scrV_list : scrV.toList = ((List.range 3072).map scr).map Value.int := by
  simp [scrV, List.map_map]
theorem sR_ints : sR.IntsAt 0 ((List.range 3072).map scr) := ⟨_, ab_at scrV, scrV_list, ab_arr scrV, by simp⟩
theorem scrV_size : scrV.size = 3072 := by simp [scrV]
theorem scrV_at (i : Nat) (hi : i < 3072) : scrV[i]? = some (.int (scr i)) := by
  rw [← Array.getElem?_toList, scrV_list, List.getElem?_map, List.getElem?_map, List.getElem?_range hi]
  rfl
theorem sR_heapFits : heapFits sR = true := ab_fits scrV 3072 scr scrV_size scrV_at
theorem sR_arg : (Term.arg 0).eval start1.args0 sR none [] sR = some (.ref 0) := rfl
theorem sR_rest : rest_1_c.before start1.args0 sR = true := by
  have h1 : (Cond.isInt (.length (.arg 0))).before start1.args0 sR = true := by
    simp [Cond.before, Cond.holds, Cond.isInt_int (sR_ints.length_eval sR_arg)]
  have h2 : (Cond.all (.arg 0) (.isInt (.elem (.arg 0) (.index 0)))).before start1.args0 sR = true := by
    have := sR_ints.all_value (args := start1.args0) (first := sR) (o := none) (idx := []) sR_arg (c := .isInt (.elem (.arg 0) (.index 0))) (fun k hk => Cond.isInt_int (sR_ints.elem_nat (idx := [k]) rfl rfl hk))
    simp [Cond.before, Cond.holds, this]
  show (Cond.and (.isInt (.length (.arg 0))) (.all (.arg 0) (.isInt (.elem (.arg 0) (.index 0))))).before start1.args0 sR = true
  rw [Cond.before_and, Bool.and_eq_true]
  exact ⟨h1, h2⟩
theorem sR_given : (Cond.and given_1 narrow_1).before start1.args0 sR = true := by
  have h1 : (Cond.arrayOf (.arg 0) .int).before start1.args0 sR = true := by
    simp [Cond.before, Cond.holds, sR_ints.arrayOf_value (args := start1.args0) (first := sR) (o := none) (idx := []) sR_arg]
  have h2 : (Cond.le (.length (.arg 0)) (.int 3072)).before start1.args0 sR = true := by
    have h3 := Cond.le_ints (args := start1.args0) (first := sR) (o := none) (idx := []) (s := sR) (sR_ints.length_eval sR_arg) (show (Term.int 3072).eval start1.args0 sR none [] sR = some (.int 3072) from rfl)
    have h4 : ((List.range 3072).map scr).length.toInt32 ≤ 3072 := by rw [List.length_map, List.length_range]; decide
    simp only [Cond.before, Cond.holds, h3, h4, decide_true]
    rfl
  have h5 : given_1.before start1.args0 sR = true := rfl
  rw [Cond.before_and, Bool.and_eq_true]
  refine ⟨h5, ?_⟩
  show (Cond.and (.arrayOf (.arg 0) .int) (.le (.length (.arg 0)) (.int 3072))).before start1.args0 sR = true
  rw [Cond.before_and, Bool.and_eq_true]
  exact ⟨h1, h2⟩
set_option maxRecDepth 1000000 in
theorem sR_argsFit : argsFit sR.vm ⟨0, 0⟩ start1.args0 = true := by decide +kernel
theorem sR_used : sR.slotsUsed = 3072 := (ab_used scrV).trans scrV_size
theorem sR_size : sR.heap.size = 1 := rfl
theorem sR_true : sR.slotsTrue = true := ab_true scrV
set_option maxRecDepth 1000000 in
theorem sR_applies (R : Room) (hf : R.frames = 2048) (hc : R.cells ≤ 790000) (hs : R.slots ≤ 7390000) (hl : R.locals = 84000) : (headSpec (Jvm.Cond.code x code maxLocals ret :: tables_1) R).applies x (launchR.env 0 0 0).platform sR = true :=
  (Spec.applies_iff rfl).mpr ⟨rfl, rfl, rfl, by decide +kernel, by decide +kernel, by decide +kernel, launchR.hasRoom_least _ R (by rw [hf]; decide +kernel) (by rw [sR_size]; show 1 + R.cells ≤ 800000; omega) (by rw [sR_used]; show 3072 + R.slots ≤ 7400000; omega) (by rw [hl]; decide +kernel) sR_true (by decide +kernel) (by rw [hl]; decide +kernel), atoms_intro sR_words⟩
set_option maxRecDepth 1000000 in
theorem sR_start : AtStart classFile x code maxLocals ret World_1 tables_1 room_1 Calls_1 rest_1 Pre_1 launchR start1.p0 (launchR.env 0 0 0) sR ⟨0, 0⟩ start1.args0 Lib.HandBits.below0 :=
  ⟨lR_lists, trivial, launchR.admits_env _ _ _, launchR.least_env, fairChoices_fair.cas, fairChoices_fair.clock, rfl, sR_argsFit, sR_heapFits, sR_applies room_1 rfl (by decide) (by decide) rfl, trivial, sR_rest, sR_given⟩
end
section
/-! WHAT A ROW DOES: it goes on, returns, or calls -/
abbrev Act : Type := MS ⊕ (Option MV ⊕ (Nat × Nat × List MV × List MV × Nat))
abbrev Clo : Type := Nat → List (Option MV) → List MV → List MC → Option Act
/-- what a row does -/
def act (q : MM) (x : FI) : Clo := fun d ml st h => match x with
  | (pc, ig, len, nj, tj, a, b, cl) => match cl with
    | 0 => match mpsG (fun _ => some (a, b)) (fun _ => some a) (fun _ => some a) (fun _ => some (Int32.ofNat a)) q.2.2.2.2.1 (q.1.name == "<init>") ig len pc ml st h with
      | some (_, ml2, st2, h2) => some (.inl (nj, ml2, st2, h2))
      | none => none
    | 1 => match ig with
      | .goto _ => if len = 3 then some (.inl (tj, ml, st, h)) else none
      | .ifCond c _ => match st with
        | .inl x :: st => if len = 3 then (match mcmp c x 0 with
          | true => some (.inl (tj, ml, st, h))
          | false => some (.inl (nj, ml, st, h))) else none
        | _ => none
      | .if_icmp c _ => match st with
        | .inl y :: .inl x :: st => if len = 3 then (match mcmp c x y with
          | true => some (.inl (tj, ml, st, h))
          | false => some (.inl (nj, ml, st, h))) else none
        | _ => none
      | _ => none
    | 2 => match mret q.2.2.2.1 ig len st with
      | some r => some (.inr (.inl r))
      | none => none
    | 3 => match mcalG (fun _ => some (a, b)) d ig len st h with
      | some (M', d', as, rest) => some (.inr (.inr (M', d', as, rest, nj)))
      | none => none
    | _ => none
theorem act_on {q : MM} {x : FI} {d M j : Nat} {ml : List (Option MV)} {st : List MV} {h : List MC} {u : MS} {Q : Option MV → List MC → Prop} (hx : fget M j = some x) (hq : mmt[M]? = some q) (ha : act q x d ml st h = some (.inl u)) (k : PF d M u.1 u.2.1 u.2.2.1 u.2.2.2 Q) : PF d M j ml st h Q := by
  obtain ⟨pc, ig, len, nj, tj, a, b, cl⟩ := x
  simp only [act] at ha
  split at ha
  · split at ha
    · next p1 ml2 st2 h2 hv => cases ha; exact F_ps hx hq hv k
    · cases ha
  · split at ha
    · split at ha
      · next hl => subst hl; cases ha; exact F_goto hx hq k
      · cases ha
    · split at ha
      · split at ha
        · next hl =>
          subst hl
          split at ha
          · next hc => cases ha; exact F_ift hx hq hc k
          · next hc => cases ha; exact F_iff hx hq hc k
        · cases ha
      · cases ha
    · split at ha
      · split at ha
        · next hl =>
          subst hl
          split at ha
          · next hc => cases ha; exact F_ct hx hq hc k
          · next hc => cases ha; exact F_cf hx hq hc k
        · cases ha
      · cases ha
    · cases ha
  · split at ha <;> cases ha
  · split at ha <;> cases ha
  · cases ha
theorem act_ret {q : MM} {x : FI} {d M j : Nat} {ml : List (Option MV)} {st : List MV} {h : List MC} {r : Option MV} {Q : Option MV → List MC → Prop} (hx : fget M j = some x) (hq : mmt[M]? = some q) (ha : act q x d ml st h = some (.inr (.inl r))) (k : Q r h) : PF d M j ml st h Q := by
  obtain ⟨pc, ig, len, nj, tj, a, b, cl⟩ := x
  simp only [act] at ha
  split at ha
  · split at ha <;> cases ha
  · split at ha
    · split at ha <;> cases ha
    · split at ha
      · split at ha
        · split at ha <;> cases ha
        · cases ha
      · cases ha
    · split at ha
      · split at ha
        · split at ha <;> cases ha
        · cases ha
      · cases ha
    · cases ha
  · split at ha
    · next hr => cases ha; exact F_ret hx hq hr k
    · cases ha
  · split at ha <;> cases ha
  · cases ha
theorem act_call {q q' : MM} {x : FI} {d M j M' d' nj : Nat} {as rest : List MV} {ml : List (Option MV)} {st : List MV} {h : List MC} {Q : Option MV → List MC → Prop} (hx : fget M j = some x) (hq : mmt[M]? = some q) (ha : act q x d ml st h = some (.inr (.inr (M', d', as, rest, nj)))) (hq' : mmt[M']? = some q') (k : PF d' M' 0 (as.map some ++ List.replicate (q'.2.2.1 - as.length) none) [] h fun r h' => PF d M nj ml (r.toList ++ rest) h' Q) : PF d M j ml st h Q := by
  obtain ⟨pc, ig, len, nj2, tj, a, b, cl⟩ := x
  simp only [act] at ha
  split at ha
  · split at ha <;> cases ha
  · split at ha
    · split at ha <;> cases ha
    · split at ha
      · split at ha
        · split at ha <;> cases ha
        · cases ha
      · cases ha
    · split at ha
      · split at ha
        · split at ha <;> cases ha
        · cases ha
      · cases ha
    · cases ha
  · split at ha <;> cases ha
  · split at ha
    · next hc => cases ha; exact F_call hx hq hc hq' k
    · cases ha
  · cases ha
end
section
/-! A SECOND QUICK FORM: the rows as functions that go on by themselves, places of lists by the recursor -/
noncomputable def nthK {α : Type} (f : α → Option MS) (l : List α) : Nat → Option MS := @List.rec α (fun _ => Nat → Option MS) (fun _ => none) (fun a _ ih i => @Nat.rec (fun _ => Option MS) (f a) (fun k _ => ih k) i) l
theorem nthK_some {α : Type} {f : α → Option MS} : ∀ {l : List α} {i : Nat} {u : MS}, nthK f l i = some u → ∃ a, l[i]? = some a ∧ f a = some u
  | [], _, _, h => by cases h
  | a :: _, 0, _, h => ⟨a, rfl, h⟩
  | _ :: t, i + 1, u, h => by
    obtain ⟨x, h1, h2⟩ := nthK_some (l := t) (i := i) h
    exact ⟨x, by simpa using h1, h2⟩
noncomputable def setR {α : Type} (v : α) (l : List α) : Nat → List α := @List.rec α (fun _ => Nat → List α) (fun _ => []) (fun a t ih i => @Nat.rec (fun _ => List α) (v :: t) (fun k _ => a :: ih k) i) l
theorem setR_eq {α : Type} (v : α) : ∀ (l : List α) (i : Nat), setR v l i = l.set i v
  | [], _ => rfl
  | _ :: _, 0 => rfl
  | a :: t, i + 1 => by
    show a :: setR v t i = _
    rw [setR_eq v t i]
    rfl
noncomputable def appR {α : Type} (v : α) (l : List α) : List α := @List.rec α (fun _ => List α) [v] (fun a _ ih => a :: ih) l
theorem appR_eq {α : Type} (v : α) : ∀ (l : List α), appR v l = l ++ [v]
  | [] => rfl
  | a :: t => by
    show a :: appR v t = _
    rw [appR_eq v t]
    rfl
/-- ints by their bits -/
def nb (x : Int32) : Nat := x.toBitVec.toNat
def nbs (x : Int32) : Nat := (nb x + 2147483648) % 4294967296
theorem nb_lt (x : Int32) : nb x < 4294967296 := x.toBitVec.isLt
theorem nb_int (x : Int32) : x.toInt = if nb x < 2147483648 then (nb x : Int) else (nb x : Int) - 4294967296 := by
  show x.toBitVec.toInt = _
  rw [BitVec.toInt_eq_toNat_cond]
  have := nb_lt x
  unfold nb at *
  split <;> split <;> omega
theorem nbs_lt (x y : Int32) : x < y ↔ nbs x < nbs y := by
  rw [Int32.lt_iff_toInt_lt, nb_int, nb_int]
  have := nb_lt x
  have := nb_lt y
  unfold nbs
  split <;> split <;> omega
theorem nb_eq (x y : Int32) : x = y ↔ nb x = nb y := by
  constructor
  · intro h; rw [h]
  · intro h
    rw [← Int32.toInt_inj, nb_int, nb_int, h]
theorem nb_ix {i : Int32} (h : nb i < 2147483648) : ¬ i < 0 ∧ i.toNatClampNeg = nb i := by
  have h1 := nb_int i
  rw [if_pos h] at h1
  refine ⟨fun h2 => ?_, ?_⟩
  · rw [Int32.lt_iff_toInt_lt, h1] at h2
    have : (0 : Int32).toInt = 0 := by decide
    omega
  · show i.toInt.toNat = nb i
    rw [h1]
    simp
def mcq (c : Jvm.ClassFile.Cond) (x y : Int32) : Bool := match c with
  | .eq => Nat.beq (nb x) (nb y)
  | .ne => not (Nat.beq (nb x) (nb y))
  | .lt => Nat.blt (nbs x) (nbs y)
  | .ge => not (Nat.blt (nbs x) (nbs y))
  | .gt => Nat.blt (nbs y) (nbs x)
  | .le => not (Nat.blt (nbs y) (nbs x))
theorem blt_iff (a b : Nat) : Nat.blt a b = decide (a < b) := by
  unfold Nat.blt
  rw [Bool.eq_iff_iff]
  simp [Nat.ble_eq]
  omega
theorem mcq_eq (c : Jvm.ClassFile.Cond) (x y : Int32) : mcmp c x y = mcq c x y := by
  have hb : (x == y) = Nat.beq (nb x) (nb y) := by
    rw [Bool.eq_iff_iff, beq_iff_eq, nb_eq, Nat.beq_eq]
  have hle : ∀ a b : Int32, decide (a ≤ b) = not (Nat.blt (nbs b) (nbs a)) := fun a b => by
    rw [blt_iff, Bool.eq_iff_iff]
    simp only [decide_eq_true_eq, Bool.not_eq_true', decide_eq_false_iff_not]
    rw [← nbs_lt]
    exact Int32.not_lt.symm
  cases c <;> simp only [mcmp, mcq]
  · exact hb
  · rw [hb]
  · rw [blt_iff, Bool.eq_iff_iff]; simp [nbs_lt]
  · exact hle y x
  · rw [blt_iff, Bool.eq_iff_iff]; simp [nbs_lt]
  · exact hle x y
abbrev K1 : Type := Nat → List (Option MV) → List MV → List MC → Option MS
abbrev KC : Type := Nat → Nat → List MV → List MV → Nat → List (Option MV) → List MC → Option MS
abbrev KR : Type := Option MV → List MC → Option MS
abbrev Cl2 : Type := K1 → KC → KR → Nat → List (Option MV) → List MV → List MC → Option MS
/-- a row, by what it does -/
def gen (q : MM) (x : FI) : Cl2 := fun kk kc kr d ml st h => match act q x d ml st h with
  | some (.inl (j, ml2, st2, h2)) => kk j ml2 st2 h2
  | some (.inr (.inl r)) => kr r h
  | some (.inr (.inr (M', d', as, rest, nj))) => kc M' d' as rest nj ml h
  | none => none
def Cok (f : Cl2) (q : MM) (x : FI) : Prop := ∀ (kk : K1) (kc : KC) (kr : KR) (d : Nat) (ml : List (Option MV)) (st : List MV) (h : List MC) (u : MS), f kk kc kr d ml st h = some u → gen q x kk kc kr d ml st h = some u
theorem ok_gen {q : MM} {x : FI} : Cok (gen q x) q x := fun _ _ _ _ _ _ _ _ h => h
/-- the value on the stack -/
noncomputable def popI (f : Int32 → List MV → Option MS) (st : List MV) : Option MS := @List.rec MV (fun _ => Option MS) none (fun v t _ => @Sum.rec Int32 (Option Nat) (fun _ => Option MS) (fun x => f x t) (fun _ => none) v) st
noncomputable def popR (f : Nat → List MV → Option MS) (st : List MV) : Option MS := @List.rec MV (fun _ => Option MS) none (fun v t _ => @Sum.rec Int32 (Option Nat) (fun _ => Option MS) (fun _ => none) (fun o => @Option.rec Nat (fun _ => Option MS) none (fun a => f a t) o) v) st
theorem popI_some {f : Int32 → List MV → Option MS} {st : List MV} {u : MS} (h : popI f st = some u) : ∃ x t, st = .inl x :: t ∧ f x t = some u := by
  match st, h with
  | .inl x :: t, h => exact ⟨x, t, rfl, h⟩
  | .inr _ :: _, h => cases h
  | [], h => cases h
theorem popR_some {f : Nat → List MV → Option MS} {st : List MV} {u : MS} (h : popR f st = some u) : ∃ a t, st = .inr (some a) :: t ∧ f a t = some u := by
  match st, h with
  | .inr (some a) :: t, h => exact ⟨a, t, rfl, h⟩
  | .inr none :: _, h => cases h
  | .inl _ :: _, h => cases h
  | [], h => cases h
noncomputable def onB (b : Bool) (r : Option MS) : Option MS := @Bool.rec (fun _ => Option MS) none r b
theorem onB_some {b : Bool} {r : Option MS} {u : MS} (h : onB b r = some u) : b = true ∧ r = some u := by
  cases b
  · cases h
  · exact ⟨rfl, h⟩
noncomputable def isI (f : Option MS) (v : MV) : Option MS := @Sum.rec Int32 (Option Nat) (fun _ => Option MS) (fun _ => f) (fun _ => none) v
noncomputable def isR (f : Option MS) (v : MV) : Option MS := @Sum.rec Int32 (Option Nat) (fun _ => Option MS) (fun _ => none) (fun _ => f) v
theorem isI_some {f : Option MS} {v : MV} {u : MS} (h : isI f v = some u) : ∃ x, v = .inl x ∧ f = some u := by
  match v, h with
  | .inl x, h => exact ⟨x, rfl, h⟩
  | .inr _, h => cases h
theorem isR_some {f : Option MS} {v : MV} {u : MS} (h : isR f v = some u) : ∃ x, v = .inr x ∧ f = some u := by
  match v, h with
  | .inr x, h => exact ⟨x, rfl, h⟩
  | .inl _, h => cases h
noncomputable def onO (f : MV → Option MS) (o : Option MV) : Option MS := @Option.rec MV (fun _ => Option MS) none f o
theorem onO_some {f : MV → Option MS} {o : Option MV} {u : MS} (h : onO f o = some u) : ∃ v, o = some v ∧ f v = some u := by
  match o, h with
  | some v, h => exact ⟨v, rfl, h⟩
  | none, h => cases h
section QC
variable {q : MM} {pc len nj tj a b : Nat}
noncomputable def q_ild (k nj : Nat) : Cl2 := fun kk _ _ _ ml st h => nthK (onO fun v => isI (kk nj ml (v :: st) h) v) ml k
noncomputable def q_ald (k nj : Nat) : Cl2 := fun kk _ _ _ ml st h => nthK (onO fun v => isR (kk nj ml (v :: st) h) v) ml k
theorem ild_some {kk : K1} {k : Nat} {ml : List (Option MV)} {st : List MV} {h : List MC} {u : MS} (hu : nthK (onO fun v => isI (kk nj ml (v :: st) h) v) ml k = some u) : ∃ x, mint (mld ml k) = some x ∧ kk nj ml (.inl x :: st) h = some u := by
  obtain ⟨o, h1, h2⟩ := nthK_some hu
  obtain ⟨v, rfl, h3⟩ := onO_some h2
  obtain ⟨x, rfl, h4⟩ := isI_some h3
  exact ⟨x, by simp [mld, h1, mint], h4⟩
theorem ald_some {kk : K1} {k : Nat} {ml : List (Option MV)} {st : List MV} {h : List MC} {u : MS} (hu : nthK (onO fun v => isR (kk nj ml (v :: st) h) v) ml k = some u) : ∃ x, mref (mld ml k) = some x ∧ kk nj ml (.inr x :: st) h = some u := by
  obtain ⟨o, h1, h2⟩ := nthK_some hu
  obtain ⟨v, rfl, h3⟩ := onO_some h2
  obtain ⟨x, rfl, h4⟩ := isR_some h3
  exact ⟨x, by simp [mld, h1, mref], h4⟩
theorem ok_iload {k : Nat} : Cok (q_ild k nj) q (pc, .iload k, 2, nj, tj, a, b, 0) := by
  intro kk kc kr d ml st h u hu
  obtain ⟨x, h1, h2⟩ := ild_some hu
  simp [gen, act, mpsG, k_iload, h1, h2]
theorem ok_iload_n {k : Fin 4} : Cok (q_ild k.val nj) q (pc, .iload_n k, 1, nj, tj, a, b, 0) := by
  intro kk kc kr d ml st h u hu
  obtain ⟨x, h1, h2⟩ := ild_some hu
  simp [gen, act, mpsG, k_iload_n, h1, h2]
theorem ok_aload {k : Nat} : Cok (q_ald k nj) q (pc, .aload k, 2, nj, tj, a, b, 0) := by
  intro kk kc kr d ml st h u hu
  obtain ⟨x, h1, h2⟩ := ald_some hu
  simp [gen, act, mpsG, k_aload, h1, h2]
theorem ok_aload_n {k : Fin 4} : Cok (q_ald k.val nj) q (pc, .aload_n k, 1, nj, tj, a, b, 0) := by
  intro kk kc kr d ml st h u hu
  obtain ⟨x, h1, h2⟩ := ald_some hu
  simp [gen, act, mpsG, k_aload_n, h1, h2]
noncomputable def q_ist (k nj : Nat) : Cl2 := fun kk _ _ _ ml st h => popI (fun x t => nthK (fun _ => kk nj (setR (some (.inl x)) ml k) t h) ml k) st
theorem ist_some {kk : K1} {k : Nat} {ml : List (Option MV)} {st : List MV} {h : List MC} {u : MS} (hu : popI (fun x t => nthK (fun _ => kk nj (setR (some (.inl x)) ml k) t h) ml k) st = some u) : ∃ x t, st = .inl x :: t ∧ k < ml.length ∧ kk nj (ml.set k (some (.inl x))) t h = some u := by
  obtain ⟨x, t, rfl, h1⟩ := popI_some hu
  obtain ⟨o, h2, h3⟩ := nthK_some h1
  rw [setR_eq] at h3
  exact ⟨x, t, rfl, (List.getElem?_eq_some_iff.mp h2).1, h3⟩
theorem ok_istore {k : Nat} : Cok (q_ist k nj) q (pc, .istore k, 2, nj, tj, a, b, 0) := by
  intro kk kc kr d ml st h u hu
  obtain ⟨x, t, rfl, h1, h2⟩ := ist_some hu
  simp [gen, act, mpsG, k_istore, h1, h2]
theorem ok_istore_n {k : Fin 4} : Cok (q_ist k.val nj) q (pc, .istore_n k, 1, nj, tj, a, b, 0) := by
  intro kk kc kr d ml st h u hu
  obtain ⟨x, t, rfl, h1, h2⟩ := ist_some hu
  simp [gen, act, mpsG, k_istore_n, h1, h2]
def q_con (v : Int32) (nj : Nat) : Cl2 := fun kk _ _ _ ml st h => kk nj ml (.inl v :: st) h
theorem ok_iconst {i : Int} : Cok (q_con (Int32.ofInt i) nj) q (pc, .iconst i, 1, nj, tj, a, b, 0) := by
  intro kk kc kr d ml st h u hu
  simp only [q_con] at hu
  simp [gen, act, mpsG, k_iconst, hu]
theorem ok_bipush {i : Int} : Cok (q_con (Int8.ofInt i).toInt32 nj) q (pc, .bipush i, 2, nj, tj, a, b, 0) := by
  intro kk kc kr d ml st h u hu
  simp only [q_con] at hu
  simp [gen, act, mpsG, k_bipush, hu]
noncomputable def q_inc (k : Nat) (n : Int32) (nj : Nat) : Cl2 := fun kk _ _ _ ml st h => nthK (onO fun v => @Sum.rec Int32 (Option Nat) (fun _ => Option MS) (fun x => kk nj (setR (some (.inl (x + n))) ml k) st h) (fun _ => none) v) ml k
theorem ok_iinc {k : Nat} {n : Int} : Cok (q_inc k (Int32.ofInt n) nj) q (pc, .iinc k n, 3, nj, tj, a, b, 0) := by
  intro kk kc kr d ml st h u hu
  obtain ⟨o, h1, h2⟩ := nthK_some hu
  obtain ⟨v, rfl, h3⟩ := onO_some h2
  match v, h1, h3 with
  | .inl x, h1, h3 =>
    have h3 : kk nj (setR (some (.inl (x + Int32.ofInt n))) ml k) st h = some u := h3
    rw [setR_eq] at h3
    have hlt := (List.getElem?_eq_some_iff.mp h1).1
    have hm : mint (mld ml k) = some x := by unfold mld; rw [h1]; rfl
    simp [gen, act, mpsG, k_iinc, hlt, hm, h3]
  | .inr _, _, h3 => cases h3
noncomputable def q_ar (f : Int32 → Int32 → Int32) (nj : Nat) : Cl2 := fun kk _ _ _ ml st h => popI (fun y t => popI (fun x t => kk nj ml (.inl (f x y) :: t) h) t) st
theorem ok_iadd : Cok (q_ar (fun x y => x + y) nj) q (pc, .iadd, 1, nj, tj, a, b, 0) := by
  intro kk kc kr d ml st h u hu
  obtain ⟨y, t, rfl, h1⟩ := popI_some hu
  obtain ⟨x, t, rfl, h2⟩ := popI_some h1
  simp [gen, act, mpsG, k_iadd, h2]
theorem ok_isub : Cok (q_ar (fun x y => x - y) nj) q (pc, .isub, 1, nj, tj, a, b, 0) := by
  intro kk kc kr d ml st h u hu
  obtain ⟨y, t, rfl, h1⟩ := popI_some hu
  obtain ⟨x, t, rfl, h2⟩ := popI_some h1
  simp [gen, act, mpsG, k_isub, h2]
theorem ok_imul : Cok (q_ar (fun x y => x * y) nj) q (pc, .imul, 1, nj, tj, a, b, 0) := by
  intro kk kc kr d ml st h u hu
  obtain ⟨y, t, rfl, h1⟩ := popI_some hu
  obtain ⟨x, t, rfl, h2⟩ := popI_some h1
  simp [gen, act, mpsG, k_imul, h2]
def q_go (tj : Nat) : Cl2 := fun kk _ _ _ ml st h => kk tj ml st h
theorem ok_goto {off : Int} : Cok (q_go tj) q (pc, .goto off, 3, nj, tj, a, b, 1) := by
  intro kk kc kr d ml st h u hu
  simp only [q_go] at hu
  simp [gen, act, hu]
noncomputable def q_if (c : Jvm.ClassFile.Cond) (nj tj : Nat) : Cl2 := fun kk _ _ _ ml st h => popI (fun x t => @Bool.rec (fun _ => Option MS) (kk nj ml t h) (kk tj ml t h) (mcq c x 0)) st
noncomputable def q_ic (c : Jvm.ClassFile.Cond) (nj tj : Nat) : Cl2 := fun kk _ _ _ ml st h => popI (fun y t => popI (fun x t => @Bool.rec (fun _ => Option MS) (kk nj ml t h) (kk tj ml t h) (mcq c x y)) t) st
theorem ok_ifCond {c : Jvm.ClassFile.Cond} {off : Int} : Cok (q_if c nj tj) q (pc, .ifCond c off, 3, nj, tj, a, b, 1) := by
  intro kk kc kr d ml st h u hu
  obtain ⟨x, t, rfl, h1⟩ := popI_some hu
  simp only [gen, act, mcq_eq, if_true]
  cases hc : mcq c x 0 <;> simp only [hc] at h1 ⊢ <;> exact h1
theorem ok_if_icmp {c : Jvm.ClassFile.Cond} {off : Int} : Cok (q_ic c nj tj) q (pc, .if_icmp c off, 3, nj, tj, a, b, 1) := by
  intro kk kc kr d ml st h u hu
  obtain ⟨y, t, rfl, h1⟩ := popI_some hu
  obtain ⟨x, t, rfl, h2⟩ := popI_some h1
  simp only [gen, act, mcq_eq, if_true]
  cases hc : mcq c x y <;> simp only [hc] at h2 ⊢ <;> exact h2
noncomputable def q_gf (ci k nj : Nat) : Cl2 := fun kk _ _ _ ml st h => popR (fun r t => nthK (fun c => onB (Nat.beq c.1 (10 + ci)) (nthK (fun v => kk nj ml (v :: t) h) c.2 k)) h r) st
theorem ok_getfield {i : Nat} : Cok (q_gf a b nj) q (pc, .getfield i, 3, nj, tj, a, b, 0) := by
  intro kk kc kr d ml st h u hu
  obtain ⟨r, t, rfl, h1⟩ := popR_some hu
  obtain ⟨⟨tg, vs⟩, h2, h3⟩ := nthK_some h1
  obtain ⟨h4, h5⟩ := onB_some h3
  obtain ⟨v, h6, h7⟩ := nthK_some h5
  have h4 : tg = 10 + a := Nat.eq_of_beq_eq_true h4
  subst h4
  simp only at h6
  simp [gen, act, mpsG, k_getfield, h2, h6, h7]
noncomputable def q_ld (tg nj : Nat) : Cl2 := fun kk _ _ _ ml st h => popI (fun i t => popR (fun r t => nthK (fun c => onB (Nat.beq c.1 tg) (onB (Nat.blt (nb i) 2147483648) (nthK (fun v => isI (kk nj ml (v :: t) h) v) c.2 (nb i)))) h r) t) st
theorem ld_some {kk : K1} {tg : Nat} {ml : List (Option MV)} {st : List MV} {h : List MC} {u : MS} (hu : q_ld tg nj kk (fun _ _ _ _ _ _ _ => none) (fun _ _ => none) 0 ml st h = some u) : ∃ i r t vs x, st = .inl i :: .inr (some r) :: t ∧ h[r]? = some (tg, vs) ∧ mint ((mix i vs.length).bind fun j => vs[j]?) = some x ∧ kk nj ml (.inl x :: t) h = some u := by
  obtain ⟨i, t, rfl, h1⟩ := popI_some hu
  obtain ⟨r, t, rfl, h2⟩ := popR_some h1
  obtain ⟨⟨tg2, vs⟩, h3, h4⟩ := nthK_some h2
  obtain ⟨h5, h6⟩ := onB_some h4
  obtain ⟨h7, h8⟩ := onB_some h6
  obtain ⟨v, h9, h10⟩ := nthK_some h8
  obtain ⟨x, rfl, h11⟩ := isI_some h10
  have h5 : tg2 = tg := Nat.eq_of_beq_eq_true h5
  subst h5
  rw [blt_iff, decide_eq_true_eq] at h7
  obtain ⟨g1, g2⟩ := nb_ix h7
  have hlt := (List.getElem?_eq_some_iff.mp h9).1
  refine ⟨i, r, t, vs, x, rfl, h3, ?_, h11⟩
  simp only at h9 hlt
  have hm : mix i vs.length = some (nb i) := by simp [mix, g1, g2, hlt]
  rw [hm]
  show mint (vs[nb i]?) = some x
  rw [h9]
  rfl
theorem ok_iaload : Cok (q_ld 0 nj) q (pc, .iaload, 1, nj, tj, a, b, 0) := by
  intro kk kc kr d ml st h u hu
  obtain ⟨i, r, t, vs, x, rfl, h1, h2, h3⟩ := ld_some hu
  simp [gen, act, mpsG, k_iaload, h1, h2, h3]
theorem ok_baload : Cok (q_ld 1 nj) q (pc, .baload, 1, nj, tj, a, b, 0) := by
  intro kk kc kr d ml st h u hu
  obtain ⟨i, r, t, vs, x, rfl, h1, h2, h3⟩ := ld_some hu
  simp [gen, act, mpsG, k_baload, h1, h2, h3]
def tg3 (t : Nat) : Bool := Nat.beq t 2 || (Nat.beq t 3 || Nat.beq t 4)
noncomputable def q_aal (nj : Nat) : Cl2 := fun kk _ _ _ ml st h => popI (fun i t => popR (fun r t => nthK (fun c => onB (tg3 c.1) (onB (Nat.blt (nb i) 2147483648) (nthK (fun v => isR (kk nj ml (v :: t) h) v) c.2 (nb i)))) h r) t) st
theorem ok_aaload : Cok (q_aal nj) q (pc, .aaload, 1, nj, tj, a, b, 0) := by
  intro kk kc kr d ml st h u hu
  obtain ⟨i, t, rfl, h1⟩ := popI_some hu
  obtain ⟨r, t, rfl, h2⟩ := popR_some h1
  obtain ⟨⟨tg, vs⟩, h3, h4⟩ := nthK_some h2
  obtain ⟨h5, h6⟩ := onB_some h4
  obtain ⟨h7, h8⟩ := onB_some h6
  obtain ⟨v, h9, h10⟩ := nthK_some h8
  obtain ⟨x, rfl, h11⟩ := isR_some h10
  have h5 : tg = 2 ∨ tg = 3 ∨ tg = 4 := by
    simp only [tg3, Bool.or_eq_true, Nat.beq_eq] at h5
    exact h5
  rw [blt_iff, decide_eq_true_eq] at h7
  obtain ⟨g1, g2⟩ := nb_ix h7
  have hlt := (List.getElem?_eq_some_iff.mp h9).1
  simp only at h9 hlt
  have hm : mix i vs.length = some (nb i) := by simp [mix, g1, g2, hlt]
  have hv : mref ((mix i vs.length).bind fun j => vs[j]?) = some x := by
    rw [hm]
    show mref (vs[nb i]?) = some x
    rw [h9]
    rfl
  simp [gen, act, mpsG, k_aaload, h3, h5, hv, h11]
noncomputable def q_ias (nj : Nat) : Cl2 := fun kk _ _ _ ml st h => popI (fun x t => popI (fun i t => popR (fun r t => nthK (fun c => onB (Nat.beq c.1 0) (onB (Nat.blt (nb i) 2147483648) (nthK (fun _ => kk nj ml t (setR (0, setR (.inl x) c.2 (nb i)) h r)) c.2 (nb i)))) h r) t) t) st
theorem ok_iastore : Cok (q_ias nj) q (pc, .iastore, 1, nj, tj, a, b, 0) := by
  intro kk kc kr d ml st h u hu
  obtain ⟨x, t, rfl, h0⟩ := popI_some hu
  obtain ⟨i, t, rfl, h1⟩ := popI_some h0
  obtain ⟨r, t, rfl, h2⟩ := popR_some h1
  obtain ⟨⟨tg, vs⟩, h3, h4⟩ := nthK_some h2
  obtain ⟨h5, h6⟩ := onB_some h4
  obtain ⟨h7, h8⟩ := onB_some h6
  obtain ⟨v, h9, h10⟩ := nthK_some h8
  have h5 : tg = 0 := Nat.eq_of_beq_eq_true h5
  subst h5
  rw [blt_iff, decide_eq_true_eq] at h7
  obtain ⟨g1, g2⟩ := nb_ix h7
  have hlt := (List.getElem?_eq_some_iff.mp h9).1
  simp only [setR_eq] at h9 hlt h10
  simp [gen, act, mpsG, k_iastore, h3, mix, g1, g2, hlt, h10]
noncomputable def q_bas (nj : Nat) : Cl2 := fun kk _ _ _ ml st h => popI (fun x t => popI (fun i t => popR (fun r t => nthK (fun c => onB (Nat.beq c.1 1) (onB (Nat.ble (nb x) 1) (onB (Nat.blt (nb i) 2147483648) (nthK (fun _ => kk nj ml t (setR (1, setR (.inl x) c.2 (nb i)) h r)) c.2 (nb i))))) h r) t) t) st
theorem ok_bastore : Cok (q_bas nj) q (pc, .bastore, 1, nj, tj, a, b, 0) := by
  intro kk kc kr d ml st h u hu
  obtain ⟨x, t, rfl, h0⟩ := popI_some hu
  obtain ⟨i, t, rfl, h1⟩ := popI_some h0
  obtain ⟨r, t, rfl, h2⟩ := popR_some h1
  obtain ⟨⟨tg, vs⟩, h3, h4⟩ := nthK_some h2
  obtain ⟨h5, h5b⟩ := onB_some h4
  obtain ⟨hx, h6⟩ := onB_some h5b
  obtain ⟨h7, h8⟩ := onB_some h6
  obtain ⟨v, h9, h10⟩ := nthK_some h8
  have h5 : tg = 1 := Nat.eq_of_beq_eq_true h5
  subst h5
  have hx : x = 0 ∨ x = 1 := by
    have h01 := Nat.le_of_ble_eq_true hx
    have e0 : nb 0 = 0 := by decide
    have e1 : nb 1 = 1 := by decide
    rcases (show nb x = 0 ∨ nb x = 1 by omega) with e | e
    · exact Or.inl ((nb_eq x 0).mpr (by rw [e, e0]))
    · exact Or.inr ((nb_eq x 1).mpr (by rw [e, e1]))
  rw [blt_iff, decide_eq_true_eq] at h7
  obtain ⟨g1, g2⟩ := nb_ix h7
  have hlt := (List.getElem?_eq_some_iff.mp h9).1
  simp only [setR_eq] at h9 hlt h10
  simp [gen, act, mpsG, k_bastore, h3, hx, mix, g1, g2, hlt, h10]
noncomputable def q_al (nj : Nat) : Cl2 := fun kk _ _ _ ml st h => popR (fun r t => nthK (fun c => onB (Nat.blt c.1 5) (kk nj ml (.inl (Int32.ofNat c.2.length) :: t) h)) h r) st
theorem ok_arraylength : Cok (q_al nj) q (pc, .arraylength, 1, nj, tj, a, b, 0) := by
  intro kk kc kr d ml st h u hu
  obtain ⟨r, t, rfl, h1⟩ := popR_some hu
  obtain ⟨⟨tg, vs⟩, h2, h3⟩ := nthK_some h1
  obtain ⟨h4, h5⟩ := onB_some h3
  rw [blt_iff, decide_eq_true_eq] at h4
  simp only at h4 h5
  simp [gen, act, mpsG, k_arraylength, h2, h4, h5]
noncomputable def q_nia (nj : Nat) : Cl2 := fun kk _ _ _ ml st h => popI (fun n t => onB (Nat.ble (nb n) 100000) (kk nj ml (.inr (some h.length) :: t) (appR (0, List.replicate (nb n) (.inl 0)) h))) st
theorem ok_newint : Cok (q_nia nj) q (pc, .newarray .int, 2, nj, tj, a, b, 0) := by
  intro kk kc kr d ml st h u hu
  obtain ⟨n, t, rfl, h1⟩ := popI_some hu
  obtain ⟨h2, h3⟩ := onB_some h1
  have h2 := Nat.le_of_ble_eq_true h2
  obtain ⟨g1, g2⟩ := nb_ix (i := n) (by omega)
  rw [appR_eq] at h3
  simp [gen, act, mpsG, k_newarray, g1, g2, h2, h3]
end QC
end
section
/-! RUNS OF THE SECOND QUICK FORM -/
abbrev RW : Type := List (List Cl2)
abbrev QT2 : Type := Nat → Option (RW × Nat)
abbrev GI2 : Type := Nat → RW → K1
noncomputable def nthC (f : Cl2 → Option MS) (l : List Cl2) : Nat → Option MS := nthK f l
noncomputable def look2 (f : Cl2 → Option MS) (R : RW) (j : Nat) : Option MS := nthK (fun r => nthK f r (j % 16)) R (j / 16)
noncomputable def gcl (tb : QT2) (ih : GI2) (d : Nat) (R : RW) : KC := fun M' d' as rest nj ml h => @Option.rec (RW × Nat) (fun _ => Option MS) none (fun t => @Option.rec MS (fun _ => Option MS) none (fun u => ih d R nj ml (u.2.2.1 ++ rest) u.2.2.2) (ih d' t.1 0 (as.map some ++ List.replicate (t.2 - as.length) none) [] h)) (tb M')
def grt : KR := fun r h => some (0, [], r.toList, h)
noncomputable def gx2 (tb : QT2) (n : Nat) : GI2 := @Nat.rec (fun _ => GI2) (fun _ _ _ _ _ _ => none) (fun _ ih d R j ml st h => look2 (fun f => f (ih d R) (gcl tb ih d R) grt d ml st h) R j) n
theorem gx2_succ (tb : QT2) (n d : Nat) (R : RW) (j : Nat) (ml : List (Option MV)) (st : List MV) (h : List MC) : gx2 tb (n + 1) d R j ml st h = look2 (fun f => f (gx2 tb n d R) (gcl tb (gx2 tb n) d R) grt d ml st h) R j := rfl
def Rok2 (R : RW) (M nl : Nat) : Prop := ∃ q : MM, mmt[M]? = some q ∧ q.2.2.1 = nl ∧ ∀ i k r f, R[i]? = some r → r[k]? = some f → k < 16 → ∃ x, fget M (16 * i + k) = some x ∧ Cok f q x
def Tok2 (tb : QT2) : Prop := ∀ M R nl, tb M = some (R, nl) → Rok2 R M nl
theorem look2_some {f : Cl2 → Option MS} {R : RW} {j M nl : Nat} {u : MS} (hR : Rok2 R M nl) (h : look2 f R j = some u) : ∃ q x g, mmt[M]? = some q ∧ fget M j = some x ∧ Cok g q x ∧ f g = some u := by
  obtain ⟨q, hq, -, hrow⟩ := hR
  obtain ⟨r, h1, h2⟩ := nthK_some h
  obtain ⟨g, h3, h4⟩ := nthK_some h2
  obtain ⟨x, h5, h6⟩ := hrow _ _ _ _ h1 h3 (Nat.mod_lt _ (by decide))
  rw [Nat.div_add_mod] at h5
  exact ⟨q, x, g, hq, h5, h6, h4⟩
theorem gcl_some {tb : QT2} {ih : GI2} {d M' d' nj : Nat} {R : RW} {as rest : List MV} {ml : List (Option MV)} {h : List MC} {u : MS} (hg : gcl tb ih d R M' d' as rest nj ml h = some u) : ∃ R' nl w, tb M' = some (R', nl) ∧ ih d' R' 0 (as.map some ++ List.replicate (nl - as.length) none) [] h = some w ∧ ih d R nj ml (w.2.2.1 ++ rest) w.2.2.2 = some u := by
  unfold gcl at hg
  cases ht : tb M' with
  | none => rw [ht] at hg; cases hg
  | some t =>
    rw [ht] at hg
    simp only at hg
    cases hw : ih d' t.1 0 (as.map some ++ List.replicate (t.2 - as.length) none) [] h with
    | none => rw [hw] at hg; cases hg
    | some w => rw [hw] at hg; exact ⟨t.1, t.2, w, rfl, hw, hg⟩
theorem gx2_PF {tb : QT2} (ht : Tok2 tb) : ∀ {n d M nl j : Nat} {R : RW} {ml : List (Option MV)} {st : List MV} {h : List MC} {u : MS} {Q : Option MV → List MC → Prop}, Rok2 R M nl → gx2 tb n d R j ml st h = some u → (∀ r : Option MV, u.2.2.1 = r.toList → Q r u.2.2.2) → PF d M j ml st h Q
  | 0, _, _, _, _, _, _, _, _, _, _, _, hg, _ => by cases hg
  | n + 1, d, M, nl, j, R, ml, st, h, u, Q, hR, hg, k => by
    rw [gx2_succ] at hg
    obtain ⟨q, x, g, hq, hx, hc, hf⟩ := look2_some hR hg
    have hgen := hc _ _ _ _ _ _ _ _ hf
    unfold gen at hgen
    split at hgen
    · next j2 ml2 st2 h2 ha => exact act_on hx hq ha (gx2_PF ht hR hgen k)
    · next r ha =>
      have e : u = (0, [], r.toList, h) := by cases hgen; rfl
      subst e
      exact act_ret hx hq ha (k r rfl)
    · next M' d' as rest nj ha =>
      obtain ⟨R', nl', w, hT, g1, g2⟩ := gcl_some hgen
      have hR' := ht _ _ _ hT
      obtain ⟨q', hq', hnl', -⟩ := id hR'
      subst hnl'
      exact act_call hx hq ha hq' (gx2_PF ht hR' g1 (fun r hr => by rw [hr] at g2; exact gx2_PF ht hR g2 k))
    · cases hgen
noncomputable def gcp (tb : QT2) (F : Nat) (ih : K1) : KC := fun M' d' as rest nj ml h => @Option.rec (RW × Nat) (fun _ => Option MS) none (fun t => @Option.rec MS (fun _ => Option MS) none (fun u => ih nj ml (u.2.2.1 ++ rest) u.2.2.2) (gx2 tb F d' t.1 0 (as.map some ++ List.replicate (t.2 - as.length) none) [] h)) (tb M')
noncomputable def gxq (tb : QT2) (F d : Nat) (R : RW) (n : Nat) : K1 := @Nat.rec (fun _ => K1) (fun j ml st h => some (j, ml, st, h)) (fun _ ih j ml st h => look2 (fun f => f ih (gcp tb F ih) (fun _ _ => none) d ml st h) R j) n
theorem gxq_succ (tb : QT2) (F n d : Nat) (R : RW) (j : Nat) (ml : List (Option MV)) (st : List MV) (h : List MC) : gxq tb F d R (n + 1) j ml st h = look2 (fun f => f (gxq tb F d R n) (gcp tb F (gxq tb F d R n)) (fun _ _ => none) d ml st h) R j := rfl
theorem gcp_some {tb : QT2} {ih : K1} {F M' d' nj : Nat} {as rest : List MV} {ml : List (Option MV)} {h : List MC} {u : MS} (hg : gcp tb F ih M' d' as rest nj ml h = some u) : ∃ R' nl w, tb M' = some (R', nl) ∧ gx2 tb F d' R' 0 (as.map some ++ List.replicate (nl - as.length) none) [] h = some w ∧ ih nj ml (w.2.2.1 ++ rest) w.2.2.2 = some u := by
  unfold gcp at hg
  cases ht : tb M' with
  | none => rw [ht] at hg; cases hg
  | some t =>
    rw [ht] at hg
    simp only at hg
    cases hw : gx2 tb F d' t.1 0 (as.map some ++ List.replicate (t.2 - as.length) none) [] h with
    | none => rw [hw] at hg; cases hg
    | some w => rw [hw] at hg; exact ⟨t.1, t.2, w, rfl, hw, hg⟩
theorem gxq_PF {tb : QT2} (ht : Tok2 tb) {F d M nl : Nat} {R : RW} (hR : Rok2 R M nl) : ∀ {n j : Nat} {ml : List (Option MV)} {st : List MV} {h : List MC} {u : MS} {Q : Option MV → List MC → Prop}, gxq tb F d R n j ml st h = some u → PF d M u.1 u.2.1 u.2.2.1 u.2.2.2 Q → PF d M j ml st h Q
  | 0, j, ml, st, h, u, Q, hg, k => by
    have e : some (j, ml, st, h) = some u := hg
    cases e
    exact k
  | n + 1, j, ml, st, h, u, Q, hg, k => by
    rw [gxq_succ] at hg
    obtain ⟨q, x, g, hq, hx, hc, hf⟩ := look2_some hR hg
    have hgen := hc _ _ _ _ _ _ _ _ hf
    unfold gen at hgen
    split at hgen
    · next j2 ml2 st2 h2 ha => exact act_on hx hq ha (gxq_PF ht hR hgen k)
    · cases hgen
    · next M' d' as rest nj ha =>
      obtain ⟨R', nl', w, hT, g1, g2⟩ := gcp_some hgen
      have hR' := ht _ _ _ hT
      obtain ⟨q', hq', hnl', -⟩ := id hR'
      subst hnl'
      exact act_call hx hq ha hq' (gx2_PF ht hR' g1 (fun r hr => by rw [hr] at g2; exact gxq_PF ht hR g2 k))
    · cases hgen
theorem qpiece {tb : QT2} (ht : Tok2 tb) {F n d M nl j j2 : Nat} {R : RW} (hR : Rok2 R M nl) {ml ml2 : List (Option MV)} {st st2 : List MV} {h h2 : List MC} {Q : Option MV → List MC → Prop} (e : endsP (gxq tb F d R n j ml st h) j2 ml2 st2 h2 = true) (k : PF d M j2 ml2 st2 h2 Q) : PF d M j ml st h Q := gxq_PF ht hR (endsP_eq e) k
/-- rows and functions, one by one -/
def okW (q : MM) : List Cl2 → List FI → Prop
  | [], _ => True
  | f :: fs, x :: xs => Cok f q x ∧ okW q fs xs
  | _ :: _, [] => False
def okWW (q : MM) : RW → List (List FI) → Prop
  | [], _ => True
  | r :: rs, l :: ls => (okW q r l ∧ r.length ≤ 16) ∧ okWW q rs ls
  | _ :: _, [] => False
theorem okW_at {q : MM} : ∀ {fs : List Cl2} {xs : List FI} {k : Nat} {f : Cl2}, okW q fs xs → fs[k]? = some f → ∃ x, xs[k]? = some x ∧ Cok f q x
  | [], _, _, _, _, h => by simp at h
  | f :: _, x :: _, 0, g, ho, h => by simp at h; subst h; exact ⟨x, rfl, ho.1⟩
  | _ :: fs, _ :: xs, k + 1, g, ho, h => by simpa using okW_at ho.2 (by simpa using h)
  | _ :: _, [], _, _, ho, _ => ho.elim
theorem okWW_at {q : MM} : ∀ {rs : RW} {ls : List (List FI)} {i : Nat} {r : List Cl2}, okWW q rs ls → rs[i]? = some r → ∃ l, ls[i]? = some l ∧ okW q r l
  | [], _, _, _, _, h => by simp at h
  | r :: _, l :: _, 0, g, ho, h => by simp at h; subst h; exact ⟨l, rfl, ho.1.1⟩
  | _ :: rs, _ :: ls, i + 1, g, ho, h => by simpa using okWW_at ho.2 (by simpa using h)
  | _ :: _, [], _, _, ho, _ => ho.elim
theorem Rok2_of {R : RW} {M nl : Nat} {q : MM} {l : List (List FI)} (hq : mmt[M]? = some q) (hnl : q.2.2.1 = nl) (hl : (ftt[M / 12]?).bind (·[M % 12]?) = some l) (ho : okWW q R l) : Rok2 R M nl := by
  refine ⟨q, hq, hnl, fun i k r f h1 h2 hk => ?_⟩
  obtain ⟨l1, h3, h4⟩ := okWW_at ho h1
  obtain ⟨x, h5, h6⟩ := okW_at h4 h2
  refine ⟨x, ?_, h6⟩
  unfold fget
  rw [hl, show (16 * i + k) / 16 = i by omega, show (16 * i + k) % 16 = k by omega]
  simp only [Option.bind_some, h3, h5]
end
section
/-! THE ROWS OF GREATER AND WHAT IT CALLS, as functions (wip/whole/refute/gen_quick.py) -/
abbrev qm_14 : MM := (⟨"EquationDesk", "isPlace", "(I)Z"⟩, prog_1_method_23_code, 1, (some .boolean), 10, 1)
noncomputable def qr_14 : RW := [[q_ild 0 1, q_if .lt 2 7, q_ild 0 3, q_con (Int8.ofInt 16).toInt32 4, q_ic .ge 5 7, q_con (Int32.ofInt 1) 6, q_go 8, q_con (Int32.ofInt 0) 8, gen qm_14 (15, .ireturn, 1, 9, 0, 0, 0, 2)]]
theorem qo_14 : Rok2 qr_14 14 1 := Rok2_of (q := qm_14) (l := ft_14) rfl rfl rfl ⟨⟨⟨(ok_iload_n (k := 0)), ok_ifCond, (ok_iload_n (k := 0)), ok_bipush, ok_if_icmp, ok_iconst, ok_goto, ok_iconst, ok_gen, trivial⟩, by decide⟩, trivial⟩
abbrev qm_18 : MM := (⟨"EquationDesk$Signature", "arityOf", "(I)I"⟩, prog_9_method_4_code, 2, (some .int), 1, 1)
noncomputable def qr_18 : RW := [[q_ald 0 1, q_gf 1 0 2, q_ild 1 3, q_ld 0 4, gen qm_18 (6, .ireturn, 1, 5, 0, 0, 0, 2)]]
theorem qo_18 : Rok2 qr_18 18 2 := Rok2_of (q := qm_18) (l := ft_18) rfl rfl rfl ⟨⟨⟨(ok_aload_n (k := 0)), ok_getfield, (ok_iload_n (k := 1)), ok_iaload, ok_gen, trivial⟩, by decide⟩, trivial⟩
abbrev qm_30 : MM := (⟨"EquationDesk", "greater", "(II)Z"⟩, prog_1_method_8_code, 3, (some .boolean), 10, 2)
noncomputable def qr_30 : RW := [[q_ild 1 1, gen qm_30 (1, .invokestatic 88, 3, 2, 0, 1, 14, 3), q_if .eq 3 20, q_ild 2 4, gen qm_30 (8, .invokestatic 88, 3, 5, 0, 1, 14, 3), q_if .eq 6 20, q_ald 0 7, q_gf 10 1 8, q_ald 0 9, q_gf 10 8 10, q_ild 1 11, q_aal 12, q_ald 0 13, q_gf 10 8 14, q_ild 2 15, q_aal 16],
  [gen qm_30 (30, .invokevirtual 120, 3, 17, 0, 0, 31, 3), q_if .eq 18 20, q_con (Int32.ofInt 1) 19, q_go 21, q_con (Int32.ofInt 0) 21, gen qm_30 (41, .ireturn, 1, 22, 0, 0, 0, 2)]]
theorem qo_30 : Rok2 qr_30 30 3 := Rok2_of (q := qm_30) (l := ft_30) rfl rfl rfl ⟨⟨⟨(ok_iload_n (k := 1)), ok_gen, ok_ifCond, (ok_iload_n (k := 2)), ok_gen, ok_ifCond, (ok_aload_n (k := 0)), ok_getfield, (ok_aload_n (k := 0)), ok_getfield, (ok_iload_n (k := 1)), ok_aaload, (ok_aload_n (k := 0)), ok_getfield, (ok_iload_n (k := 2)), ok_aaload, trivial⟩, by decide⟩, ⟨⟨ok_gen, ok_ifCond, ok_iconst, ok_goto, ok_iconst, ok_gen, trivial⟩, by decide⟩, trivial⟩
abbrev qm_31 : MM := (⟨"EquationDesk$PathOrder", "isAbove", "([I[I)Z"⟩, prog_5_method_2_code, 5, (some .boolean), 2, 2)
noncomputable def qr_31 : RW := [[q_ald 1 1, q_al 2, q_con (Int8.ofInt 24).toInt32 3, q_ic .gt 4 8, q_ald 2 5, q_al 6, q_con (Int8.ofInt 24).toInt32 7, q_ic .le 8 10, q_con (Int32.ofInt 0) 9, gen qm_31 (15, .ireturn, 1, 10, 0, 0, 0, 2), q_ald 0 11, q_ald 1 12, q_ald 0 13, q_gf 2 2 14, gen qm_31 (22, .invokevirtual 25, 3, 15, 0, 0, 32, 3), q_ald 0 16],
  [q_ald 2 17, q_ald 0 18, q_gf 2 3 19, gen qm_31 (31, .invokevirtual 25, 3, 20, 0, 0, 32, 3), q_ald 1 21, q_al 22, q_con (Int32.ofInt 1) 23, q_ar (fun x y => x - y) 24, q_ist 3 25, q_ild 3 26, q_if .lt 27 56, q_ald 2 28, q_al 29, q_con (Int32.ofInt 1) 30, q_ar (fun x y => x - y) 31, q_ist 4 32],
  [q_ild 4 33, q_if .lt 34 54, q_ald 0 35, q_gf 2 1 36, q_ild 3 37, q_con (Int8.ofInt 24).toInt32 38, q_ar (fun x y => x * y) 39, q_ild 4 40, q_ar (fun x y => x + y) 41, q_ald 0 42, q_ald 1 43, q_ild 3 44, q_ld 0 45, q_ald 2 46, q_ild 4 47, q_ld 0 48],
  [q_ild 3 49, q_ild 4 50, gen qm_31 (76, .invokevirtual 29, 3, 51, 0, 0, 34, 3), q_ias 52, q_inc 4 (Int32.ofInt (-1)) 53, q_go 32, q_inc 3 (Int32.ofInt (-1)) 55, q_go 25, q_ald 0 57, q_gf 2 1 58, q_con (Int32.ofInt 0) 59, q_ld 0 60, q_con (Int32.ofInt 2) 61, q_ic .ne 62 64, q_con (Int32.ofInt 1) 63, q_go 65],
  [q_con (Int32.ofInt 0) 65, gen qm_31 (107, .ireturn, 1, 66, 0, 0, 0, 2)]]
theorem qo_31 : Rok2 qr_31 31 5 := Rok2_of (q := qm_31) (l := ft_31) rfl rfl rfl ⟨⟨⟨(ok_aload_n (k := 1)), ok_arraylength, ok_bipush, ok_if_icmp, (ok_aload_n (k := 2)), ok_arraylength, ok_bipush, ok_if_icmp, ok_iconst, ok_gen, (ok_aload_n (k := 0)), (ok_aload_n (k := 1)), (ok_aload_n (k := 0)), ok_getfield, ok_gen, (ok_aload_n (k := 0)), trivial⟩, by decide⟩, ⟨⟨(ok_aload_n (k := 2)), (ok_aload_n (k := 0)), ok_getfield, ok_gen, (ok_aload_n (k := 1)), ok_arraylength, ok_iconst, ok_isub, (ok_istore_n (k := 3)), (ok_iload_n (k := 3)), ok_ifCond, (ok_aload_n (k := 2)), ok_arraylength, ok_iconst, ok_isub, ok_istore, trivial⟩, by decide⟩, ⟨⟨ok_iload, ok_ifCond, (ok_aload_n (k := 0)), ok_getfield, (ok_iload_n (k := 3)), ok_bipush, ok_imul, ok_iload, ok_iadd, (ok_aload_n (k := 0)), (ok_aload_n (k := 1)), (ok_iload_n (k := 3)), ok_iaload, (ok_aload_n (k := 2)), ok_iload, ok_iaload, trivial⟩, by decide⟩, ⟨⟨(ok_iload_n (k := 3)), ok_iload, ok_gen, ok_iastore, ok_iinc, ok_goto, ok_iinc, ok_goto, (ok_aload_n (k := 0)), ok_getfield, ok_iconst, ok_iaload, ok_iconst, ok_if_icmp, ok_iconst, ok_goto, trivial⟩, by decide⟩, ⟨⟨ok_iconst, ok_gen, trivial⟩, by decide⟩, trivial⟩
abbrev qm_32 : MM := (⟨"EquationDesk$PathOrder", "findSeconds", "([I[I)V"⟩, prog_5_method_3_code, 4, none, 2, 2)
noncomputable def qr_32 : RW := [[q_con (Int32.ofInt 0) 1, q_ist 3 2, q_ild 3 3, q_ald 1 4, q_al 5, q_ic .ge 6 28, q_ald 2 7, q_ild 3 8, q_ald 0 9, q_gf 2 0 10, q_ald 1 11, q_ild 3 12, q_ld 0 13, gen qm_32 (17, .invokevirtual 33, 3, 14, 0, 0, 18, 3), q_con (Int32.ofInt 1) 15, q_ic .le 16 24],
  [q_ald 0 17, q_gf 2 0 18, q_ald 1 19, q_ild 3 20, q_con (Int32.ofInt 1) 21, q_ar (fun x y => x + y) 22, gen qm_32 (32, .invokevirtual 39, 3, 23, 0, 0, 33, 3), q_go 25, q_ild 3 25, q_ias 26, q_inc 3 (Int32.ofInt 1) 27, q_go 2, gen qm_32 (46, .return_, 1, 29, 0, 0, 0, 2)]]
theorem qo_32 : Rok2 qr_32 32 4 := Rok2_of (q := qm_32) (l := ft_32) rfl rfl rfl ⟨⟨⟨ok_iconst, (ok_istore_n (k := 3)), (ok_iload_n (k := 3)), (ok_aload_n (k := 1)), ok_arraylength, ok_if_icmp, (ok_aload_n (k := 2)), (ok_iload_n (k := 3)), (ok_aload_n (k := 0)), ok_getfield, (ok_aload_n (k := 1)), (ok_iload_n (k := 3)), ok_iaload, ok_gen, ok_iconst, ok_if_icmp, trivial⟩, by decide⟩, ⟨⟨(ok_aload_n (k := 0)), ok_getfield, (ok_aload_n (k := 1)), (ok_iload_n (k := 3)), ok_iconst, ok_iadd, ok_gen, ok_goto, (ok_iload_n (k := 3)), ok_iastore, ok_iinc, ok_goto, ok_gen, trivial⟩, by decide⟩, trivial⟩
abbrev qm_33 : MM := (⟨"EquationDesk$Signature", "end", "([II)I"⟩, prog_9_method_6_code, 5, (some .int), 1, 2)
noncomputable def qr_33 : RW := [[q_con (Int32.ofInt 1) 1, q_ist 3 2, q_ild 2 3, q_ist 4 4, q_ild 3 5, q_if .le 6 23, q_ild 4 7, q_ald 1 8, q_al 9, q_ic .ge 10 23, q_ild 3 11, q_ald 0 12, q_gf 1 0 13, q_ald 1 14, q_ild 4 15, q_ld 0 16],
  [q_ld 0 17, q_con (Int32.ofInt 1) 18, q_ar (fun x y => x - y) 19, q_ar (fun x y => x + y) 20, q_ist 3 21, q_inc 4 (Int32.ofInt 1) 22, q_go 4, q_ild 4 24, gen qm_33 (38, .ireturn, 1, 25, 0, 0, 0, 2)]]
theorem qo_33 : Rok2 qr_33 33 5 := Rok2_of (q := qm_33) (l := ft_33) rfl rfl rfl ⟨⟨⟨ok_iconst, (ok_istore_n (k := 3)), (ok_iload_n (k := 2)), ok_istore, (ok_iload_n (k := 3)), ok_ifCond, ok_iload, (ok_aload_n (k := 1)), ok_arraylength, ok_if_icmp, (ok_iload_n (k := 3)), (ok_aload_n (k := 0)), ok_getfield, (ok_aload_n (k := 1)), ok_iload, ok_iaload, trivial⟩, by decide⟩, ⟨⟨ok_iaload, ok_iconst, ok_isub, ok_iadd, (ok_istore_n (k := 3)), ok_iinc, ok_goto, ok_iload, ok_gen, trivial⟩, by decide⟩, trivial⟩
abbrev qm_34 : MM := (⟨"EquationDesk$PathOrder", "relation", "(IIII)I"⟩, prog_5_method_4_code, 7, (some .int), 2, 4)
noncomputable def qr_34 : RW := [[q_ild 1 1, q_con (Int8.ofInt 12).toInt32 2, q_ic .ge 3 10, q_ild 1 4, q_ild 2 5, q_ic .ne 6 8, q_con (Int32.ofInt 1) 7, q_go 9, q_con (Int32.ofInt 0) 9, gen qm_34 (16, .ireturn, 1, 10, 0, 0, 0, 2), q_ald 0 11, q_gf 2 0 12, q_ild 1 13, gen qm_34 (22, .invokevirtual 33, 3, 14, 0, 0, 18, 3), q_ist 5 15, q_ild 5 16],
  [q_if .le 17 26, q_ald 0 18, q_ild 3 19, q_con (Int32.ofInt 1) 20, q_ar (fun x y => x + y) 21, q_ild 4 22, gen qm_34 (38, .invokevirtual 43, 3, 23, 0, 0, 35, 3), q_if .eq 24 26, q_con (Int32.ofInt 2) 25, gen qm_34 (45, .ireturn, 1, 26, 0, 0, 0, 2), q_ild 5 27, q_con (Int32.ofInt 1) 28, q_ic .le 29 39, q_ald 0 30, q_ald 0 31, q_gf 2 2 32],
  [q_ild 3 33, q_ld 0 34, q_ild 4 35, gen qm_34 (61, .invokevirtual 43, 3, 36, 0, 0, 35, 3), q_if .eq 37 39, q_con (Int32.ofInt 2) 38, gen qm_34 (68, .ireturn, 1, 39, 0, 0, 0, 2), q_ild 2 40, q_con (Int8.ofInt 12).toInt32 41, q_ic .lt 42 45, q_ild 1 43, q_ild 2 44, q_ic .ge 45 47, q_con (Int32.ofInt 0) 46, gen qm_34 (81, .ireturn, 1, 47, 0, 0, 0, 2), q_ild 1 48],
  [q_ild 2 49, q_ic .ne 50 58, q_ald 0 51, q_ild 5 52, q_ild 3 53, q_ild 4 54, gen qm_34 (93, .invokevirtual 47, 3, 55, 0, 0, 36, 3), q_if .eq 56 58, q_con (Int32.ofInt 1) 57, gen qm_34 (100, .ireturn, 1, 58, 0, 0, 0, 2), q_ald 0 59, q_gf 2 0 60, q_ild 2 61, gen qm_34 (106, .invokevirtual 33, 3, 62, 0, 0, 18, 3), q_ist 6 63, q_ild 6 64],
  [q_if .le 65 75, q_ald 0 66, q_ild 3 67, q_ild 4 68, q_con (Int32.ofInt 1) 69, q_ar (fun x y => x + y) 70, gen qm_34 (122, .invokevirtual 43, 3, 71, 0, 0, 35, 3), q_con (Int32.ofInt 2) 72, q_ic .eq 73 75, q_con (Int32.ofInt 0) 74, gen qm_34 (130, .ireturn, 1, 75, 0, 0, 0, 2), q_ild 6 76, q_con (Int32.ofInt 1) 77, q_ic .le 78 89, q_ald 0 79, q_ild 3 80],
  [q_ald 0 81, q_gf 2 3 82, q_ild 4 83, q_ld 0 84, gen qm_34 (146, .invokevirtual 43, 3, 85, 0, 0, 35, 3), q_con (Int32.ofInt 2) 86, q_ic .eq 87 89, q_con (Int32.ofInt 0) 88, gen qm_34 (154, .ireturn, 1, 89, 0, 0, 0, 2), q_ild 1 90, q_ild 2 91, q_ic .gt 92 98, q_ald 0 93, q_ild 1 94, q_ild 3 95, q_ild 4 96],
  [gen qm_34 (165, .invokevirtual 51, 3, 97, 0, 0, 37, 3), q_if .eq 98 100, q_con (Int32.ofInt 2) 99, q_go 101, q_con (Int32.ofInt 0) 101, gen qm_34 (176, .ireturn, 1, 102, 0, 0, 0, 2)]]
theorem qo_34 : Rok2 qr_34 34 7 := Rok2_of (q := qm_34) (l := ft_34) rfl rfl rfl ⟨⟨⟨(ok_iload_n (k := 1)), ok_bipush, ok_if_icmp, (ok_iload_n (k := 1)), (ok_iload_n (k := 2)), ok_if_icmp, ok_iconst, ok_goto, ok_iconst, ok_gen, (ok_aload_n (k := 0)), ok_getfield, (ok_iload_n (k := 1)), ok_gen, ok_istore, ok_iload, trivial⟩, by decide⟩, ⟨⟨ok_ifCond, (ok_aload_n (k := 0)), (ok_iload_n (k := 3)), ok_iconst, ok_iadd, ok_iload, ok_gen, ok_ifCond, ok_iconst, ok_gen, ok_iload, ok_iconst, ok_if_icmp, (ok_aload_n (k := 0)), (ok_aload_n (k := 0)), ok_getfield, trivial⟩, by decide⟩, ⟨⟨(ok_iload_n (k := 3)), ok_iaload, ok_iload, ok_gen, ok_ifCond, ok_iconst, ok_gen, (ok_iload_n (k := 2)), ok_bipush, ok_if_icmp, (ok_iload_n (k := 1)), (ok_iload_n (k := 2)), ok_if_icmp, ok_iconst, ok_gen, (ok_iload_n (k := 1)), trivial⟩, by decide⟩, ⟨⟨(ok_iload_n (k := 2)), ok_if_icmp, (ok_aload_n (k := 0)), ok_iload, (ok_iload_n (k := 3)), ok_iload, ok_gen, ok_ifCond, ok_iconst, ok_gen, (ok_aload_n (k := 0)), ok_getfield, (ok_iload_n (k := 2)), ok_gen, ok_istore, ok_iload, trivial⟩, by decide⟩, ⟨⟨ok_ifCond, (ok_aload_n (k := 0)), (ok_iload_n (k := 3)), ok_iload, ok_iconst, ok_iadd, ok_gen, ok_iconst, ok_if_icmp, ok_iconst, ok_gen, ok_iload, ok_iconst, ok_if_icmp, (ok_aload_n (k := 0)), (ok_iload_n (k := 3)), trivial⟩, by decide⟩, ⟨⟨(ok_aload_n (k := 0)), ok_getfield, ok_iload, ok_iaload, ok_gen, ok_iconst, ok_if_icmp, ok_iconst, ok_gen, (ok_iload_n (k := 1)), (ok_iload_n (k := 2)), ok_if_icmp, (ok_aload_n (k := 0)), (ok_iload_n (k := 1)), (ok_iload_n (k := 3)), ok_iload, trivial⟩, by decide⟩, ⟨⟨ok_gen, ok_ifCond, ok_iconst, ok_goto, ok_iconst, ok_gen, trivial⟩, by decide⟩, trivial⟩
abbrev qm_35 : MM := (⟨"EquationDesk$PathOrder", "known", "(II)I"⟩, prog_5_method_5_code, 3, (some .int), 2, 2)
noncomputable def qr_35 : RW := [[q_ald 0 1, q_gf 2 1 2, q_ild 1 3, q_con (Int8.ofInt 24).toInt32 4, q_ar (fun x y => x * y) 5, q_ild 2 6, q_ar (fun x y => x + y) 7, q_ld 0 8, gen qm_35 (11, .ireturn, 1, 9, 0, 0, 0, 2)]]
theorem qo_35 : Rok2 qr_35 35 3 := Rok2_of (q := qm_35) (l := ft_35) rfl rfl rfl ⟨⟨⟨(ok_aload_n (k := 0)), ok_getfield, (ok_iload_n (k := 1)), ok_bipush, ok_imul, (ok_iload_n (k := 2)), ok_iadd, ok_iaload, ok_gen, trivial⟩, by decide⟩, trivial⟩
abbrev qm_36 : MM := (⟨"EquationDesk$PathOrder", "haveSameArguments", "(III)Z"⟩, prog_5_method_6_code, 4, (some .boolean), 2, 3)
noncomputable def qr_36 : RW := [[q_ild 1 1, q_con (Int32.ofInt 1) 2, q_ic .lt 3 13, q_ald 0 4, q_ild 2 5, q_con (Int32.ofInt 1) 6, q_ar (fun x y => x + y) 7, q_ild 3 8, q_con (Int32.ofInt 1) 9, q_ar (fun x y => x + y) 10, gen qm_36 (12, .invokevirtual 43, 3, 11, 0, 0, 35, 3), q_con (Int32.ofInt 1) 12, q_ic .ne 13 30, q_ild 1 14, q_con (Int32.ofInt 2) 15, q_ic .lt 16 28],
  [q_ald 0 17, q_ald 0 18, q_gf 2 2 19, q_ild 2 20, q_ld 0 21, q_ald 0 22, q_gf 2 3 23, q_ild 3 24, q_ld 0 25, gen qm_36 (37, .invokevirtual 43, 3, 26, 0, 0, 35, 3), q_con (Int32.ofInt 1) 27, q_ic .ne 28 30, q_con (Int32.ofInt 1) 29, q_go 31, q_con (Int32.ofInt 0) 31, gen qm_36 (49, .ireturn, 1, 32, 0, 0, 0, 2)]]
theorem qo_36 : Rok2 qr_36 36 4 := Rok2_of (q := qm_36) (l := ft_36) rfl rfl rfl ⟨⟨⟨(ok_iload_n (k := 1)), ok_iconst, ok_if_icmp, (ok_aload_n (k := 0)), (ok_iload_n (k := 2)), ok_iconst, ok_iadd, (ok_iload_n (k := 3)), ok_iconst, ok_iadd, ok_gen, ok_iconst, ok_if_icmp, (ok_iload_n (k := 1)), ok_iconst, ok_if_icmp, trivial⟩, by decide⟩, ⟨⟨(ok_aload_n (k := 0)), (ok_aload_n (k := 0)), ok_getfield, (ok_iload_n (k := 2)), ok_iaload, (ok_aload_n (k := 0)), ok_getfield, (ok_iload_n (k := 3)), ok_iaload, ok_gen, ok_iconst, ok_if_icmp, ok_iconst, ok_goto, ok_iconst, ok_gen, trivial⟩, by decide⟩, trivial⟩
abbrev qm_37 : MM := (⟨"EquationDesk$PathOrder", "argumentsDecide", "(III)Z"⟩, prog_5_method_7_code, 8, (some .boolean), 2, 3)
noncomputable def qr_37 : RW := [[q_ald 0 1, q_ild 2 2, q_con (Int32.ofInt 1) 3, q_ar (fun x y => x + y) 4, q_ild 3 5, q_con (Int32.ofInt 1) 6, q_ar (fun x y => x + y) 7, gen qm_37 (7, .invokevirtual 43, 3, 8, 0, 0, 35, 3), q_ist 4 9, q_ald 0 10, q_gf 2 0 11, q_ild 1 12, gen qm_37 (17, .invokevirtual 33, 3, 13, 0, 0, 18, 3), q_con (Int32.ofInt 2) 14, q_ic .ge 15 22, q_ild 4 16],
  [q_con (Int32.ofInt 2) 17, q_ic .ne 18 20, q_con (Int32.ofInt 1) 19, q_go 21, q_con (Int32.ofInt 0) 21, gen qm_37 (35, .ireturn, 1, 22, 0, 0, 0, 2), q_ald 0 23, q_ald 0 24, q_gf 2 2 25, q_ild 2 26, q_ld 0 27, q_ald 0 28, q_gf 2 3 29, q_ild 3 30, q_ld 0 31, gen qm_37 (49, .invokevirtual 43, 3, 32, 0, 0, 35, 3)],
  [q_ist 5 33, q_ald 0 34, q_gf 2 0 35, q_ild 1 36, gen qm_37 (59, .invokevirtual 54, 3, 37, 0, 0, 38, 3), q_if .ne 38 51, q_ild 4 39, q_con (Int32.ofInt 2) 40, q_ic .eq 41 47, q_ild 4 42, q_con (Int32.ofInt 1) 43, q_ic .ne 44 49, q_ild 5 45, q_con (Int32.ofInt 2) 46, q_ic .ne 47 49, q_con (Int32.ofInt 1) 48],
  [q_go 50, q_con (Int32.ofInt 0) 50, gen qm_37 (88, .ireturn, 1, 51, 0, 0, 0, 2), q_ald 0 52, q_ild 2 53, q_con (Int32.ofInt 1) 54, q_ar (fun x y => x + y) 55, q_ald 0 56, q_gf 2 3 57, q_ild 3 58, q_ld 0 59, gen qm_37 (99, .invokevirtual 43, 3, 60, 0, 0, 35, 3), q_ist 6 61, q_ald 0 62, q_ald 0 63, q_gf 2 2 64],
  [q_ild 2 65, q_ld 0 66, q_ild 3 67, q_con (Int32.ofInt 1) 68, q_ar (fun x y => x + y) 69, gen qm_37 (114, .invokevirtual 43, 3, 70, 0, 0, 35, 3), q_ist 7 71, q_ild 4 72, q_con (Int32.ofInt 1) 73, q_ic .ne 74 81, q_ild 5 75, q_con (Int32.ofInt 2) 76, q_ic .ne 77 79, q_con (Int32.ofInt 1) 78, q_go 80, q_con (Int32.ofInt 0) 80],
  [gen qm_37 (136, .ireturn, 1, 81, 0, 0, 0, 2), q_ild 6 82, q_con (Int32.ofInt 1) 83, q_ic .ne 84 91, q_ild 7 85, q_con (Int32.ofInt 2) 86, q_ic .ne 87 89, q_con (Int32.ofInt 1) 88, q_go 90, q_con (Int32.ofInt 0) 90, gen qm_37 (154, .ireturn, 1, 91, 0, 0, 0, 2), q_ild 7 92, q_con (Int32.ofInt 1) 93, q_ic .ne 94 101, q_ild 6 95, q_con (Int32.ofInt 2) 96],
  [q_ic .ne 97 99, q_con (Int32.ofInt 1) 98, q_go 100, q_con (Int32.ofInt 0) 100, gen qm_37 (172, .ireturn, 1, 101, 0, 0, 0, 2), q_ild 5 102, q_con (Int32.ofInt 1) 103, q_ic .ne 104 111, q_ild 4 105, q_con (Int32.ofInt 2) 106, q_ic .ne 107 109, q_con (Int32.ofInt 1) 108, q_go 110, q_con (Int32.ofInt 0) 110, gen qm_37 (190, .ireturn, 1, 111, 0, 0, 0, 2), q_ild 4 112],
  [q_con (Int32.ofInt 2) 113, q_ic .eq 114 117, q_ild 7 115, q_con (Int32.ofInt 2) 116, q_ic .ne 117 125, q_ild 6 118, q_con (Int32.ofInt 2) 119, q_ic .eq 120 123, q_ild 5 121, q_con (Int32.ofInt 2) 122, q_ic .ne 123 125, q_con (Int32.ofInt 1) 124, q_go 126, q_con (Int32.ofInt 0) 126, gen qm_37 (220, .ireturn, 1, 127, 0, 0, 0, 2)]]
theorem qo_37 : Rok2 qr_37 37 8 := Rok2_of (q := qm_37) (l := ft_37) rfl rfl rfl ⟨⟨⟨(ok_aload_n (k := 0)), (ok_iload_n (k := 2)), ok_iconst, ok_iadd, (ok_iload_n (k := 3)), ok_iconst, ok_iadd, ok_gen, ok_istore, (ok_aload_n (k := 0)), ok_getfield, (ok_iload_n (k := 1)), ok_gen, ok_iconst, ok_if_icmp, ok_iload, trivial⟩, by decide⟩, ⟨⟨ok_iconst, ok_if_icmp, ok_iconst, ok_goto, ok_iconst, ok_gen, (ok_aload_n (k := 0)), (ok_aload_n (k := 0)), ok_getfield, (ok_iload_n (k := 2)), ok_iaload, (ok_aload_n (k := 0)), ok_getfield, (ok_iload_n (k := 3)), ok_iaload, ok_gen, trivial⟩, by decide⟩, ⟨⟨ok_istore, (ok_aload_n (k := 0)), ok_getfield, (ok_iload_n (k := 1)), ok_gen, ok_ifCond, ok_iload, ok_iconst, ok_if_icmp, ok_iload, ok_iconst, ok_if_icmp, ok_iload, ok_iconst, ok_if_icmp, ok_iconst, trivial⟩, by decide⟩, ⟨⟨ok_goto, ok_iconst, ok_gen, (ok_aload_n (k := 0)), (ok_iload_n (k := 2)), ok_iconst, ok_iadd, (ok_aload_n (k := 0)), ok_getfield, (ok_iload_n (k := 3)), ok_iaload, ok_gen, ok_istore, (ok_aload_n (k := 0)), (ok_aload_n (k := 0)), ok_getfield, trivial⟩, by decide⟩, ⟨⟨(ok_iload_n (k := 2)), ok_iaload, (ok_iload_n (k := 3)), ok_iconst, ok_iadd, ok_gen, ok_istore, ok_iload, ok_iconst, ok_if_icmp, ok_iload, ok_iconst, ok_if_icmp, ok_iconst, ok_goto, ok_iconst, trivial⟩, by decide⟩, ⟨⟨ok_gen, ok_iload, ok_iconst, ok_if_icmp, ok_iload, ok_iconst, ok_if_icmp, ok_iconst, ok_goto, ok_iconst, ok_gen, ok_iload, ok_iconst, ok_if_icmp, ok_iload, ok_iconst, trivial⟩, by decide⟩, ⟨⟨ok_if_icmp, ok_iconst, ok_goto, ok_iconst, ok_gen, ok_iload, ok_iconst, ok_if_icmp, ok_iload, ok_iconst, ok_if_icmp, ok_iconst, ok_goto, ok_iconst, ok_gen, ok_iload, trivial⟩, by decide⟩, ⟨⟨ok_iconst, ok_if_icmp, ok_iload, ok_iconst, ok_if_icmp, ok_iload, ok_iconst, ok_if_icmp, ok_iload, ok_iconst, ok_if_icmp, ok_iconst, ok_goto, ok_iconst, ok_gen, trivial⟩, by decide⟩, trivial⟩
abbrev qm_38 : MM := (⟨"EquationDesk$Signature", "isCommutative", "(I)Z"⟩, prog_9_method_5_code, 2, (some .boolean), 1, 1)
noncomputable def qr_38 : RW := [[q_ald 0 1, q_gf 1 1 2, q_ild 1 3, q_ld 1 4, gen qm_38 (6, .ireturn, 1, 5, 0, 0, 0, 2)]]
theorem qo_38 : Rok2 qr_38 38 2 := Rok2_of (q := qm_38) (l := ft_38) rfl rfl rfl ⟨⟨⟨(ok_aload_n (k := 0)), ok_getfield, (ok_iload_n (k := 1)), ok_baload, ok_gen, trivial⟩, by decide⟩, trivial⟩
abbrev qm_95 : MM := (⟨"EquationDeskModel", "isPlace", "(I)Z"⟩, prog_13_method_37_code, 1, (some .boolean), 11, 1)
noncomputable def qr_95 : RW := [[q_ild 0 1, q_if .lt 2 7, q_ild 0 3, q_con (Int8.ofInt 16).toInt32 4, q_ic .ge 5 7, q_con (Int32.ofInt 1) 6, q_go 8, q_con (Int32.ofInt 0) 8, gen qm_95 (15, .ireturn, 1, 9, 0, 0, 0, 2)]]
theorem qo_95 : Rok2 qr_95 95 1 := Rok2_of (q := qm_95) (l := ft_95) rfl rfl rfl ⟨⟨⟨(ok_iload_n (k := 0)), ok_ifCond, (ok_iload_n (k := 0)), ok_bipush, ok_if_icmp, ok_iconst, ok_goto, ok_iconst, ok_gen, trivial⟩, by decide⟩, trivial⟩
abbrev qm_99 : MM := (⟨"EquationDeskModel", "isVariable", "(I)Z"⟩, prog_13_method_3_code, 2, (some .boolean), 11, 1)
noncomputable def qr_99 : RW := [[q_ild 1 1, q_con (Int8.ofInt 100).toInt32 2, q_ic .lt 3 5, q_con (Int32.ofInt 1) 4, q_go 6, q_con (Int32.ofInt 0) 6, gen qm_99 (11, .ireturn, 1, 7, 0, 0, 0, 2)]]
theorem qo_99 : Rok2 qr_99 99 2 := Rok2_of (q := qm_99) (l := ft_99) rfl rfl rfl ⟨⟨⟨(ok_iload_n (k := 1)), ok_bipush, ok_if_icmp, ok_iconst, ok_goto, ok_iconst, ok_gen, trivial⟩, by decide⟩, trivial⟩
abbrev qm_103 : MM := (⟨"EquationDeskModel", "alike", "([I[I)Z"⟩, prog_13_method_7_code, 4, (some .boolean), 11, 2)
noncomputable def qr_103 : RW := [[q_ald 0 1, q_al 2, q_ald 1 3, q_al 4, q_ic .ne 5 7, q_con (Int32.ofInt 1) 6, q_go 8, q_con (Int32.ofInt 0) 8, q_ist 2 9, q_con (Int32.ofInt 0) 10, q_ist 3 11, q_ild 2 12, q_if .eq 13 30, q_ild 3 14, q_ald 0 15, q_al 16],
  [q_ic .ge 17 30, q_ald 0 18, q_ild 3 19, q_ld 0 20, q_ald 1 21, q_ild 3 22, q_ld 0 23, q_ic .ne 24 26, q_con (Int32.ofInt 1) 25, q_go 27, q_con (Int32.ofInt 0) 27, q_ist 2 28, q_inc 3 (Int32.ofInt 1) 29, q_go 11, q_ild 2 31, gen qm_103 (47, .ireturn, 1, 32, 0, 0, 0, 2)]]
theorem qo_103 : Rok2 qr_103 103 4 := Rok2_of (q := qm_103) (l := ft_103) rfl rfl rfl ⟨⟨⟨(ok_aload_n (k := 0)), ok_arraylength, (ok_aload_n (k := 1)), ok_arraylength, ok_if_icmp, ok_iconst, ok_goto, ok_iconst, (ok_istore_n (k := 2)), ok_iconst, (ok_istore_n (k := 3)), (ok_iload_n (k := 2)), ok_ifCond, (ok_iload_n (k := 3)), (ok_aload_n (k := 0)), ok_arraylength, trivial⟩, by decide⟩, ⟨⟨ok_if_icmp, (ok_aload_n (k := 0)), (ok_iload_n (k := 3)), ok_iaload, (ok_aload_n (k := 1)), (ok_iload_n (k := 3)), ok_iaload, ok_if_icmp, ok_iconst, ok_goto, ok_iconst, (ok_istore_n (k := 2)), ok_iinc, ok_goto, (ok_iload_n (k := 2)), ok_gen, trivial⟩, by decide⟩, trivial⟩
abbrev qm_104 : MM := (⟨"EquationDeskModel", "greater", "(II)Z"⟩, prog_13_method_44_code, 3, (some .boolean), 11, 2)
noncomputable def qr_104 : RW := [[q_ald 0 1, q_con (Int32.ofInt 0) 2, gen qm_104 (2, .putfield 47, 3, 3, 0, 11, 0, 0), q_ild 1 4, gen qm_104 (6, .invokestatic 210, 3, 5, 0, 1, 95, 3), q_if .eq 6 22, q_ild 2 7, gen qm_104 (13, .invokestatic 210, 3, 8, 0, 1, 95, 3), q_if .eq 9 22, q_ald 0 10, q_ald 0 11, q_gf 11 4 12, q_ild 1 13, q_aal 14, q_ald 0 15, q_gf 11 4 16],
  [q_ild 2 17, q_aal 18, gen qm_104 (32, .invokevirtual 197, 3, 19, 0, 0, 105, 3), q_if .eq 20 22, q_con (Int32.ofInt 1) 21, q_go 23, q_con (Int32.ofInt 0) 23, gen qm_104 (43, .ireturn, 1, 24, 0, 0, 0, 2)]]
theorem qo_104 : Rok2 qr_104 104 3 := Rok2_of (q := qm_104) (l := ft_104) rfl rfl rfl ⟨⟨⟨(ok_aload_n (k := 0)), ok_iconst, ok_gen, (ok_iload_n (k := 1)), ok_gen, ok_ifCond, (ok_iload_n (k := 2)), ok_gen, ok_ifCond, (ok_aload_n (k := 0)), (ok_aload_n (k := 0)), ok_getfield, (ok_iload_n (k := 1)), ok_aaload, (ok_aload_n (k := 0)), ok_getfield, trivial⟩, by decide⟩, ⟨⟨(ok_iload_n (k := 2)), ok_aaload, ok_gen, ok_ifCond, ok_iconst, ok_goto, ok_iconst, ok_gen, trivial⟩, by decide⟩, trivial⟩
abbrev qm_105 : MM := (⟨"EquationDeskModel", "isGreater", "([I[I)Z"⟩, prog_13_method_13_code, 7, (some .boolean), 11, 2)
noncomputable def qr_105 : RW := [[q_ald 1 1, q_al 2, q_ald 2 3, q_al 4, gen qm_105 (4, .multianewarray 82 2, 4, 5, 0, 4, 0, 0), gen qm_105 (8, .astore_n 3, 1, 6, 0, 0, 0, 0), q_ald 1 7, q_al 8, q_ald 2 9, q_al 10, gen qm_105 (13, .multianewarray 82 2, 4, 11, 0, 4, 0, 0), gen qm_105 (17, .astore 4, 2, 12, 0, 0, 0, 0), q_ald 1 13, q_al 14, q_con (Int32.ofInt 1) 15, q_ar (fun x y => x - y) 16],
  [q_ist 5 17, q_ild 5 18, q_if .lt 19 57, q_ald 2 20, q_al 21, q_con (Int32.ofInt 1) 22, q_ar (fun x y => x - y) 23, q_ist 6 24, q_ild 6 25, q_if .lt 26 55, q_ald 3 27, q_ild 5 28, q_aal 29, q_ild 6 30, q_ald 0 31, q_ald 1 32],
  [q_ild 5 33, gen qm_105 (51, .invokevirtual 66, 3, 34, 0, 0, 106, 3), q_ald 0 35, q_ald 2 36, q_ild 6 37, gen qm_105 (58, .invokevirtual 66, 3, 38, 0, 0, 106, 3), gen qm_105 (61, .invokestatic 84, 3, 39, 0, 1, 103, 3), q_bas 40, q_ald 4 41, q_ild 5 42, q_aal 43, q_ild 6 44, q_ald 0 45, q_ald 1 46, q_ald 2 47, q_ild 5 48],
  [q_ild 6 49, q_ald 3 50, q_ald 4 51, gen qm_105 (82, .invokevirtual 88, 3, 52, 0, 0, 109, 3), q_bas 53, q_inc 6 (Int32.ofInt (-1)) 54, q_go 24, q_inc 5 (Int32.ofInt (-1)) 56, q_go 17, q_ald 4 58, q_con (Int32.ofInt 0) 59, q_aal 60, q_con (Int32.ofInt 0) 61, q_ld 1 62, gen qm_105 (104, .ireturn, 1, 63, 0, 0, 0, 2)]]
theorem qo_105 : Rok2 qr_105 105 7 := Rok2_of (q := qm_105) (l := ft_105) rfl rfl rfl ⟨⟨⟨(ok_aload_n (k := 1)), ok_arraylength, (ok_aload_n (k := 2)), ok_arraylength, ok_gen, ok_gen, (ok_aload_n (k := 1)), ok_arraylength, (ok_aload_n (k := 2)), ok_arraylength, ok_gen, ok_gen, (ok_aload_n (k := 1)), ok_arraylength, ok_iconst, ok_isub, trivial⟩, by decide⟩, ⟨⟨ok_istore, ok_iload, ok_ifCond, (ok_aload_n (k := 2)), ok_arraylength, ok_iconst, ok_isub, ok_istore, ok_iload, ok_ifCond, (ok_aload_n (k := 3)), ok_iload, ok_aaload, ok_iload, (ok_aload_n (k := 0)), (ok_aload_n (k := 1)), trivial⟩, by decide⟩, ⟨⟨ok_iload, ok_gen, (ok_aload_n (k := 0)), (ok_aload_n (k := 2)), ok_iload, ok_gen, ok_gen, ok_bastore, ok_aload, ok_iload, ok_aaload, ok_iload, (ok_aload_n (k := 0)), (ok_aload_n (k := 1)), (ok_aload_n (k := 2)), ok_iload, trivial⟩, by decide⟩, ⟨⟨ok_iload, (ok_aload_n (k := 3)), ok_aload, ok_gen, ok_bastore, ok_iinc, ok_goto, ok_iinc, ok_goto, ok_aload, ok_iconst, ok_aaload, ok_iconst, ok_baload, ok_gen, trivial⟩, by decide⟩, trivial⟩
abbrev qm_106 : MM := (⟨"EquationDeskModel", "part", "([II)[I"⟩, prog_13_method_6_code, 6, (some (.array .int)), 11, 2)
noncomputable def qr_106 : RW := [[q_ald 0 1, q_ald 1 2, q_ild 2 3, gen qm_106 (3, .invokevirtual 58, 3, 4, 0, 0, 107, 3), q_ild 2 5, q_ar (fun x y => x - y) 6, q_ist 3 7, q_ild 3 8, q_nia 9, gen qm_106 (12, .astore 4, 2, 10, 0, 0, 0, 0), q_con (Int32.ofInt 0) 11, q_ist 5 12, q_ild 5 13, q_ild 3 14, q_ic .ge 15 25, q_ald 4 16],
  [q_ild 5 17, q_ald 1 18, q_ild 2 19, q_ild 5 20, q_ar (fun x y => x + y) 21, q_ld 0 22, q_ias 23, q_inc 5 (Int32.ofInt 1) 24, q_go 12, q_ald 4 26, gen qm_106 (42, .areturn, 1, 27, 0, 0, 0, 2)]]
theorem qo_106 : Rok2 qr_106 106 6 := Rok2_of (q := qm_106) (l := ft_106) rfl rfl rfl ⟨⟨⟨(ok_aload_n (k := 0)), (ok_aload_n (k := 1)), (ok_iload_n (k := 2)), ok_gen, (ok_iload_n (k := 2)), ok_isub, (ok_istore_n (k := 3)), (ok_iload_n (k := 3)), ok_newint, ok_gen, ok_iconst, ok_istore, ok_iload, (ok_iload_n (k := 3)), ok_if_icmp, ok_aload, trivial⟩, by decide⟩, ⟨⟨ok_iload, (ok_aload_n (k := 1)), (ok_iload_n (k := 2)), ok_iload, ok_iadd, ok_iaload, ok_iastore, ok_iinc, ok_goto, ok_aload, ok_gen, trivial⟩, by decide⟩, trivial⟩
abbrev qm_107 : MM := (⟨"EquationDeskModel", "end", "([II)I"⟩, prog_13_method_5_code, 5, (some .int), 11, 2)
noncomputable def qr_107 : RW := [[q_con (Int32.ofInt 1) 1, q_ist 3 2, q_ild 2 3, q_ist 4 4, q_ild 3 5, q_if .le 6 18, q_ild 3 7, q_ald 0 8, q_ald 1 9, q_ild 4 10, q_ld 0 11, gen qm_107 (15, .invokevirtual 54, 3, 12, 0, 0, 108, 3), q_con (Int32.ofInt 1) 13, q_ar (fun x y => x - y) 14, q_ar (fun x y => x + y) 15, q_ist 3 16],
  [q_inc 4 (Int32.ofInt 1) 17, q_go 4, q_ild 4 19, gen qm_107 (30, .ireturn, 1, 20, 0, 0, 0, 2)]]
theorem qo_107 : Rok2 qr_107 107 5 := Rok2_of (q := qm_107) (l := ft_107) rfl rfl rfl ⟨⟨⟨ok_iconst, (ok_istore_n (k := 3)), (ok_iload_n (k := 2)), ok_istore, (ok_iload_n (k := 3)), ok_ifCond, (ok_iload_n (k := 3)), (ok_aload_n (k := 0)), (ok_aload_n (k := 1)), ok_iload, ok_iaload, ok_gen, ok_iconst, ok_isub, ok_iadd, (ok_istore_n (k := 3)), trivial⟩, by decide⟩, ⟨⟨ok_iinc, ok_goto, ok_iload, ok_gen, trivial⟩, by decide⟩, trivial⟩
abbrev qm_108 : MM := (⟨"EquationDeskModel", "arityOf", "(I)I"⟩, prog_13_method_4_code, 2, (some .int), 11, 1)
noncomputable def qr_108 : RW := [[q_ald 0 1, q_ild 1 2, gen qm_108 (2, .invokevirtual 50, 3, 3, 0, 0, 99, 3), q_if .eq 4 6, q_con (Int32.ofInt 0) 5, q_go 10, q_ald 0 7, q_gf 11 1 8, q_ild 1 9, q_ld 0 10, gen qm_108 (18, .ireturn, 1, 11, 0, 0, 0, 2)]]
theorem qo_108 : Rok2 qr_108 108 2 := Rok2_of (q := qm_108) (l := ft_108) rfl rfl rfl ⟨⟨⟨(ok_aload_n (k := 0)), (ok_iload_n (k := 1)), ok_gen, ok_ifCond, ok_iconst, ok_goto, (ok_aload_n (k := 0)), ok_getfield, (ok_iload_n (k := 1)), ok_iaload, ok_gen, trivial⟩, by decide⟩, trivial⟩
abbrev qm_109 : MM := (⟨"EquationDeskModel", "moreAt", "([I[III[[Z[[Z)Z"⟩, prog_13_method_14_code, 14, (some .boolean), 11, 6)
noncomputable def qr_109 : RW := [[q_ald 0 1, q_ald 1 2, q_ild 3 3, q_ld 0 4, gen qm_109 (4, .invokevirtual 50, 3, 5, 0, 0, 99, 3), q_if .eq 6 8, q_con (Int32.ofInt 0) 7, gen qm_109 (11, .ireturn, 1, 8, 0, 0, 0, 2), q_ald 0 9, q_ald 2 10, q_ild 4 11, q_ld 0 12, gen qm_109 (17, .invokevirtual 50, 3, 13, 0, 0, 99, 3), q_if .eq 14 26, q_ald 0 15, q_ald 2 16],
  [q_ild 4 17, q_ld 0 18, q_con (Int8.ofInt 100).toInt32 19, q_ar (fun x y => x - y) 20, q_ald 0 21, q_ald 1 22, q_ild 3 23, gen qm_109 (34, .invokevirtual 66, 3, 24, 0, 0, 106, 3), gen qm_109 (37, .invokevirtual 92, 3, 25, 0, 0, 110, 3), gen qm_109 (40, .ireturn, 1, 26, 0, 0, 0, 2), q_ald 0 27, q_gf 11 1 28, q_ald 1 29, q_ild 3 30, q_ld 0 31, q_ld 0 32],
  [q_ist 7 33, q_ald 0 34, q_gf 11 1 35, q_ald 2 36, q_ild 4 37, q_ld 0 38, q_ld 0 39, q_ist 8 40, q_ild 3 41, q_con (Int32.ofInt 1) 42, q_ar (fun x y => x + y) 43, q_ist 9 44, q_ild 7 45, q_con (Int32.ofInt 1) 46, q_ic .le 47 52, q_ald 0 48],
  [q_ald 1 49, q_ild 9 50, gen qm_109 (77, .invokevirtual 58, 3, 51, 0, 0, 107, 3), q_go 53, q_ild 9 53, q_ist 10 54, q_ild 4 55, q_con (Int32.ofInt 1) 56, q_ar (fun x y => x + y) 57, q_ist 11 58, q_ild 8 59, q_con (Int32.ofInt 1) 60, q_ic .le 61 66, q_ald 0 62, q_ald 2 63, q_ild 11 64],
  [gen qm_109 (103, .invokevirtual 58, 3, 65, 0, 0, 107, 3), q_go 67, q_ild 11 67, q_ist 12 68, q_ild 7 69, q_if .le 70 96, q_ald 5 71, q_ild 9 72, q_aal 73, q_ild 4 74, q_ld 1 75, q_if .ne 76 94, q_ald 6 77, q_ild 9 78, q_aal 79, q_ild 4 80],
  [q_ld 1 81, q_if .ne 82 94, q_ald 5 83, q_ild 10 84, q_aal 85, q_ild 4 86, q_ld 1 87, q_if .ne 88 94, q_ald 6 89, q_ild 10 90, q_aal 91, q_ild 4 92, q_ld 1 93, q_if .eq 94 96, q_con (Int32.ofInt 1) 95, gen qm_109 (163, .ireturn, 1, 96, 0, 0, 0, 2)],
  [q_ild 8 97, q_if .eq 98 110, q_ald 6 99, q_ild 3 100, q_aal 101, q_ild 11 102, q_ld 1 103, q_if .eq 104 112, q_ald 6 105, q_ild 3 106, q_aal 107, q_ild 12 108, q_ld 1 109, q_if .eq 110 112, q_con (Int32.ofInt 1) 111, q_go 113],
  [q_con (Int32.ofInt 0) 113, q_ist 13 114, q_ild 13 115, q_if .eq 116 123, q_ald 1 117, q_ild 3 118, q_ld 0 119, q_ald 2 120, q_ild 4 121, q_ld 0 122, q_ic .ge 123 125, q_con (Int32.ofInt 0) 124, gen qm_109 (212, .ireturn, 1, 125, 0, 0, 0, 2), q_ald 1 126, q_ild 3 127, q_ld 0 128],
  [q_ald 2 129, q_ild 4 130, q_ld 0 131, q_ic .le 132 134, q_con (Int32.ofInt 1) 133, gen qm_109 (224, .ireturn, 1, 134, 0, 0, 0, 2), q_ild 7 135, q_if .ne 136 138, q_con (Int32.ofInt 0) 137, gen qm_109 (231, .ireturn, 1, 138, 0, 0, 0, 2), q_ild 7 139, q_con (Int32.ofInt 1) 140, q_ic .ne 141 147, q_ald 6 142, q_ild 9 143, q_aal 144],
  [q_ild 11 145, q_ld 1 146, gen qm_109 (246, .ireturn, 1, 147, 0, 0, 0, 2), q_ald 0 148, q_gf 11 2 149, q_ald 1 150, q_ild 3 151, q_ld 0 152, q_ld 1 153, q_if .ne 154 172, q_ald 5 155, q_ild 9 156, q_aal 157, q_ild 11 158, q_ld 1 159, q_if .eq 160 166],
  [q_ald 6 161, q_ild 10 162, q_aal 163, q_ild 12 164, q_ld 1 165, q_go 171, q_ald 6 167, q_ild 9 168, q_aal 169, q_ild 11 170, q_ld 1 171, gen qm_109 (288, .ireturn, 1, 172, 0, 0, 0, 2), q_ald 5 173, q_ild 9 174, q_aal 175, q_ild 11 176],
  [q_ld 1 177, q_if .eq 178 184, q_ald 6 179, q_ild 10 180, q_aal 181, q_ild 12 182, q_ld 1 183, gen qm_109 (308, .ireturn, 1, 184, 0, 0, 0, 2), q_ald 5 185, q_ild 9 186, q_aal 187, q_ild 12 188, q_ld 1 189, q_if .eq 190 196, q_ald 6 191, q_ild 10 192],
  [q_aal 193, q_ild 11 194, q_ld 1 195, gen qm_109 (328, .ireturn, 1, 196, 0, 0, 0, 2), q_ald 5 197, q_ild 10 198, q_aal 199, q_ild 11 200, q_ld 1 201, q_if .eq 202 208, q_ald 6 203, q_ild 9 204, q_aal 205, q_ild 12 206, q_ld 1 207, gen qm_109 (348, .ireturn, 1, 208, 0, 0, 0, 2)],
  [q_ald 5 209, q_ild 10 210, q_aal 211, q_ild 12 212, q_ld 1 213, q_if .eq 214 220, q_ald 6 215, q_ild 9 216, q_aal 217, q_ild 11 218, q_ld 1 219, gen qm_109 (368, .ireturn, 1, 220, 0, 0, 0, 2), q_ald 6 221, q_ild 9 222, q_aal 223, q_ild 11 224],
  [q_ld 1 225, q_if .ne 226 232, q_ald 6 227, q_ild 10 228, q_aal 229, q_ild 11 230, q_ld 1 231, q_if .eq 232 246, q_ald 6 233, q_ild 9 234, q_aal 235, q_ild 12 236, q_ld 1 237, q_if .ne 238 244, q_ald 6 239, q_ild 10 240],
  [q_aal 241, q_ild 12 242, q_ld 1 243, q_if .eq 244 246, q_con (Int32.ofInt 1) 245, q_go 247, q_con (Int32.ofInt 0) 247, gen qm_109 (418, .ireturn, 1, 248, 0, 0, 0, 2)]]
theorem qo_109 : Rok2 qr_109 109 14 := Rok2_of (q := qm_109) (l := ft_109) rfl rfl rfl ⟨⟨⟨(ok_aload_n (k := 0)), (ok_aload_n (k := 1)), (ok_iload_n (k := 3)), ok_iaload, ok_gen, ok_ifCond, ok_iconst, ok_gen, (ok_aload_n (k := 0)), (ok_aload_n (k := 2)), ok_iload, ok_iaload, ok_gen, ok_ifCond, (ok_aload_n (k := 0)), (ok_aload_n (k := 2)), trivial⟩, by decide⟩, ⟨⟨ok_iload, ok_iaload, ok_bipush, ok_isub, (ok_aload_n (k := 0)), (ok_aload_n (k := 1)), (ok_iload_n (k := 3)), ok_gen, ok_gen, ok_gen, (ok_aload_n (k := 0)), ok_getfield, (ok_aload_n (k := 1)), (ok_iload_n (k := 3)), ok_iaload, ok_iaload, trivial⟩, by decide⟩, ⟨⟨ok_istore, (ok_aload_n (k := 0)), ok_getfield, (ok_aload_n (k := 2)), ok_iload, ok_iaload, ok_iaload, ok_istore, (ok_iload_n (k := 3)), ok_iconst, ok_iadd, ok_istore, ok_iload, ok_iconst, ok_if_icmp, (ok_aload_n (k := 0)), trivial⟩, by decide⟩, ⟨⟨(ok_aload_n (k := 1)), ok_iload, ok_gen, ok_goto, ok_iload, ok_istore, ok_iload, ok_iconst, ok_iadd, ok_istore, ok_iload, ok_iconst, ok_if_icmp, (ok_aload_n (k := 0)), (ok_aload_n (k := 2)), ok_iload, trivial⟩, by decide⟩, ⟨⟨ok_gen, ok_goto, ok_iload, ok_istore, ok_iload, ok_ifCond, ok_aload, ok_iload, ok_aaload, ok_iload, ok_baload, ok_ifCond, ok_aload, ok_iload, ok_aaload, ok_iload, trivial⟩, by decide⟩, ⟨⟨ok_baload, ok_ifCond, ok_aload, ok_iload, ok_aaload, ok_iload, ok_baload, ok_ifCond, ok_aload, ok_iload, ok_aaload, ok_iload, ok_baload, ok_ifCond, ok_iconst, ok_gen, trivial⟩, by decide⟩, ⟨⟨ok_iload, ok_ifCond, ok_aload, (ok_iload_n (k := 3)), ok_aaload, ok_iload, ok_baload, ok_ifCond, ok_aload, (ok_iload_n (k := 3)), ok_aaload, ok_iload, ok_baload, ok_ifCond, ok_iconst, ok_goto, trivial⟩, by decide⟩, ⟨⟨ok_iconst, ok_istore, ok_iload, ok_ifCond, (ok_aload_n (k := 1)), (ok_iload_n (k := 3)), ok_iaload, (ok_aload_n (k := 2)), ok_iload, ok_iaload, ok_if_icmp, ok_iconst, ok_gen, (ok_aload_n (k := 1)), (ok_iload_n (k := 3)), ok_iaload, trivial⟩, by decide⟩, ⟨⟨(ok_aload_n (k := 2)), ok_iload, ok_iaload, ok_if_icmp, ok_iconst, ok_gen, ok_iload, ok_ifCond, ok_iconst, ok_gen, ok_iload, ok_iconst, ok_if_icmp, ok_aload, ok_iload, ok_aaload, trivial⟩, by decide⟩, ⟨⟨ok_iload, ok_baload, ok_gen, (ok_aload_n (k := 0)), ok_getfield, (ok_aload_n (k := 1)), (ok_iload_n (k := 3)), ok_iaload, ok_baload, ok_ifCond, ok_aload, ok_iload, ok_aaload, ok_iload, ok_baload, ok_ifCond, trivial⟩, by decide⟩, ⟨⟨ok_aload, ok_iload, ok_aaload, ok_iload, ok_baload, ok_goto, ok_aload, ok_iload, ok_aaload, ok_iload, ok_baload, ok_gen, ok_aload, ok_iload, ok_aaload, ok_iload, trivial⟩, by decide⟩, ⟨⟨ok_baload, ok_ifCond, ok_aload, ok_iload, ok_aaload, ok_iload, ok_baload, ok_gen, ok_aload, ok_iload, ok_aaload, ok_iload, ok_baload, ok_ifCond, ok_aload, ok_iload, trivial⟩, by decide⟩, ⟨⟨ok_aaload, ok_iload, ok_baload, ok_gen, ok_aload, ok_iload, ok_aaload, ok_iload, ok_baload, ok_ifCond, ok_aload, ok_iload, ok_aaload, ok_iload, ok_baload, ok_gen, trivial⟩, by decide⟩, ⟨⟨ok_aload, ok_iload, ok_aaload, ok_iload, ok_baload, ok_ifCond, ok_aload, ok_iload, ok_aaload, ok_iload, ok_baload, ok_gen, ok_aload, ok_iload, ok_aaload, ok_iload, trivial⟩, by decide⟩, ⟨⟨ok_baload, ok_ifCond, ok_aload, ok_iload, ok_aaload, ok_iload, ok_baload, ok_ifCond, ok_aload, ok_iload, ok_aaload, ok_iload, ok_baload, ok_ifCond, ok_aload, ok_iload, trivial⟩, by decide⟩, ⟨⟨ok_aaload, ok_iload, ok_baload, ok_ifCond, ok_iconst, ok_goto, ok_iconst, ok_gen, trivial⟩, by decide⟩, trivial⟩
abbrev qm_110 : MM := (⟨"EquationDeskModel", "occurs", "(I[I)Z"⟩, prog_13_method_12_code, 5, (some .boolean), 11, 2)
noncomputable def qr_110 : RW := [[q_con (Int32.ofInt 0) 1, q_ist 3 2, q_con (Int32.ofInt 0) 3, q_ist 4 4, q_ild 4 5, q_ald 2 6, q_al 7, q_ic .ge 8 23, q_ild 3 9, q_if .ne 10 17, q_ald 2 11, q_ild 4 12, q_ld 0 13, q_con (Int8.ofInt 100).toInt32 14, q_ild 1 15, q_ar (fun x y => x + y) 16],
  [q_ic .ne 17 19, q_con (Int32.ofInt 1) 18, q_go 20, q_con (Int32.ofInt 0) 20, q_ist 3 21, q_inc 4 (Int32.ofInt 1) 22, q_go 4, q_ild 3 24, gen qm_110 (40, .ireturn, 1, 25, 0, 0, 0, 2)]]
theorem qo_110 : Rok2 qr_110 110 5 := Rok2_of (q := qm_110) (l := ft_110) rfl rfl rfl ⟨⟨⟨ok_iconst, (ok_istore_n (k := 3)), ok_iconst, ok_istore, ok_iload, (ok_aload_n (k := 2)), ok_arraylength, ok_if_icmp, (ok_iload_n (k := 3)), ok_ifCond, (ok_aload_n (k := 2)), ok_iload, ok_iaload, ok_bipush, (ok_iload_n (k := 1)), ok_iadd, trivial⟩, by decide⟩, ⟨⟨ok_if_icmp, ok_iconst, ok_goto, ok_iconst, (ok_istore_n (k := 3)), ok_iinc, ok_goto, (ok_iload_n (k := 3)), ok_gen, trivial⟩, by decide⟩, trivial⟩
noncomputable def qtb : QT2 := fun M => match M with
  | 14 => some (qr_14, 1)
  | 18 => some (qr_18, 2)
  | 30 => some (qr_30, 3)
  | 31 => some (qr_31, 5)
  | 32 => some (qr_32, 4)
  | 33 => some (qr_33, 5)
  | 34 => some (qr_34, 7)
  | 35 => some (qr_35, 3)
  | 36 => some (qr_36, 4)
  | 37 => some (qr_37, 8)
  | 38 => some (qr_38, 2)
  | 95 => some (qr_95, 1)
  | 99 => some (qr_99, 2)
  | 103 => some (qr_103, 4)
  | 104 => some (qr_104, 3)
  | 105 => some (qr_105, 7)
  | 106 => some (qr_106, 6)
  | 107 => some (qr_107, 5)
  | 108 => some (qr_108, 2)
  | 109 => some (qr_109, 14)
  | 110 => some (qr_110, 5)
  | _ => none
theorem qtb_ok : Tok2 qtb := by
  intro M R nl h
  unfold qtb at h
  split at h
  · cases h; exact qo_14
  · cases h; exact qo_18
  · cases h; exact qo_30
  · cases h; exact qo_31
  · cases h; exact qo_32
  · cases h; exact qo_33
  · cases h; exact qo_34
  · cases h; exact qo_35
  · cases h; exact qo_36
  · cases h; exact qo_37
  · cases h; exact qo_38
  · cases h; exact qo_95
  · cases h; exact qo_99
  · cases h; exact qo_103
  · cases h; exact qo_104
  · cases h; exact qo_105
  · cases h; exact qo_106
  · cases h; exact qo_107
  · cases h; exact qo_108
  · cases h; exact qo_109
  · cases h; exact qo_110
  · cases h
end
section
/-! greater(6, 11) OF THE MODEL (wip/whole/refute/gen_runs.py): its heap at the head of the outer loop, for each i -/
def zrow : List MV := List.replicate 24 (.inl 0)
def zs0 : List MV := List.replicate 24 (.inl 0)
def zm0 : List MV := List.replicate 24 (.inl 0)
def zs1 : List MV := List.replicate 24 (.inl 0)
def zm1 : List MV := List.replicate 24 (.inl 0)
def zs2 : List MV := List.replicate 24 (.inl 0)
def zm2 : List MV := List.replicate 24 (.inl 0)
def zs3 : List MV := List.replicate 24 (.inl 0)
def zm3 : List MV := List.replicate 24 (.inl 0)
def zs4 : List MV := List.replicate 24 (.inl 0)
def zm4 : List MV := List.replicate 24 (.inl 0)
def zs5 : List MV := List.replicate 24 (.inl 0)
def zm5 : List MV := List.replicate 24 (.inl 0)
def zs6 : List MV := List.replicate 24 (.inl 0)
def zm6 : List MV := List.replicate 24 (.inl 0)
def zs7 : List MV := List.replicate 24 (.inl 0)
def zm7 : List MV := List.replicate 24 (.inl 0)
def zs8 : List MV := List.replicate 24 (.inl 0)
def zm8 : List MV := List.replicate 24 (.inl 0)
def zs9 : List MV := List.replicate 24 (.inl 0)
def zm9 : List MV := List.replicate 24 (.inl 0)
def zs10 : List MV := List.replicate 24 (.inl 0)
def zm10 : List MV := List.replicate 24 (.inl 0)
def zs11 : List MV := List.replicate 24 (.inl 0)
def zm11 : List MV := List.replicate 24 (.inl 0)
def zs12 : List MV := List.replicate 24 (.inl 0)
def zm12 : List MV := List.replicate 24 (.inl 0)
def zs13 : List MV := List.replicate 24 (.inl 0)
def zm13 : List MV := List.replicate 24 (.inl 0)
def zs14 : List MV := List.replicate 24 (.inl 0)
def zm14 : List MV := List.replicate 24 (.inl 0)
def zs15 : List MV := List.replicate 24 (.inl 0)
def zm15 : List MV := List.replicate 24 (.inl 0)
def zs16 : List MV := List.replicate 24 (.inl 0)
def zm16 : List MV := List.replicate 24 (.inl 0)
def zs17 : List MV := List.replicate 24 (.inl 0)
def zm17 : List MV := List.replicate 24 (.inl 0)
def zs18 : List MV := List.replicate 24 (.inl 0)
def zm18 : List MV := List.replicate 24 (.inl 0)
def zs19 : List MV := List.replicate 24 (.inl 0)
def zm19 : List MV := List.replicate 24 (.inl 0)
def zs20 : List MV := List.replicate 24 (.inl 0)
def zm20 : List MV := List.replicate 24 (.inl 0)
def zs21 : List MV := List.replicate 24 (.inl 0)
def zm21 : List MV := List.replicate 24 (.inl 0)
def zs22 : List MV := List.replicate 24 (.inl 0)
def zm22 : List MV := List.replicate 24 (.inl 0)
def zs23 : List MV := List.replicate 24 (.inl 0)
def zm23 : List MV := List.replicate 24 (.inl 0)
def ga23 : List MC := [(0, [.inl 0]),
  (0, [.inl 100]),
  (0, [.inl 0]),
  (0, [.inl 0]),
  (0, [.inl 100]),
  (0, [.inl 0]),
  (0, [.inl 0]),
  (0, [.inl 2, .inl 100, .inl 100]),
  (0, [.inl 0]),
  (0, [.inl 100]),
  (0, [.inl 0]),
  (0, [.inl 0]),
  (0, [.inl 100]),
  (0, [.inl 0]),
  (0, [.inl 0]),
  (0, [.inl 2, .inl 100, .inl 100]),
  (0, [.inl 0]),
  (0, [.inl 2, .inl 2, .inl 100, .inl 100, .inl 2, .inl 100, .inl 100]),
  (0, [.inl 0]),
  (0, [.inl 100]),
  (0, [.inl 0]),
  (0, [.inl 0]),
  (0, [.inl 100]),
  (0, [.inl 0]),
  (0, [.inl 0]),
  (0, [.inl 2, .inl 100, .inl 100]),
  (0, [.inl 0]),
  (0, [.inl 100]),
  (0, [.inl 0]),
  (0, [.inl 0]),
  (0, [.inl 100]),
  (0, [.inl 0]),
  (0, [.inl 0]),
  (0, [.inl 2, .inl 100, .inl 100]),
  (0, [.inl 0]),
  (0, [.inl 2, .inl 2, .inl 100, .inl 100, .inl 2, .inl 100, .inl 100]),
  (0, [.inl 0]),
  (0, [.inl 100]),
  (0, [.inl 0]),
  (0, [.inl 0]),
  (0, [.inl 100]),
  (0, [.inl 0]),
  (0, [.inl 0]),
  (0, [.inl 2, .inl 100, .inl 100]),
  (0, [.inl 0]),
  (0, [.inl 100]),
  (0, [.inl 0]),
  (0, [.inl 0]),
  (0, [.inl 100]),
  (0, [.inl 0]),
  (0, [.inl 0]),
  (0, [.inl 2, .inl 100, .inl 100]),
  (0, [.inl 0]),
  (0, [.inl 2, .inl 2, .inl 100, .inl 100, .inl 2, .inl 100, .inl 100]),
  (0, [.inl 0]),
  (0, [.inl 2, .inl 2, .inl 2, .inl 100, .inl 100, .inl 2, .inl 100, .inl 100, .inl 2, .inl 2, .inl 100, .inl 100, .inl 2, .inl 100, .inl 100]),
  (0, [.inl 0]),
  (0, [.inl 2, .inl 2, .inl 2, .inl 2, .inl 100, .inl 100, .inl 2, .inl 100, .inl 100, .inl 2, .inl 2, .inl 100, .inl 100, .inl 2, .inl 100, .inl 100, .inl 2, .inl 2, .inl 100, .inl 100, .inl 2, .inl 100, .inl 100]),
  (0, [.inl 0]),
  (0, [.inl 1, .inl 2, .inl 2, .inl 2, .inl 2, .inl 100, .inl 100, .inl 2, .inl 100, .inl 100, .inl 2, .inl 2, .inl 100, .inl 100, .inl 2, .inl 100, .inl 100, .inl 2, .inl 2, .inl 100, .inl 100, .inl 2, .inl 100, .inl 100])]
def ga22 : List MC := [(0, [.inl 0]),
  (0, [.inl 100]),
  (0, [.inl 0]),
  (0, [.inl 0]),
  (0, [.inl 100]),
  (0, [.inl 0]),
  (0, [.inl 0]),
  (0, [.inl 2, .inl 100, .inl 100]),
  (0, [.inl 0]),
  (0, [.inl 100]),
  (0, [.inl 0]),
  (0, [.inl 0]),
  (0, [.inl 100]),
  (0, [.inl 0]),
  (0, [.inl 0]),
  (0, [.inl 2, .inl 100, .inl 100]),
  (0, [.inl 0]),
  (0, [.inl 2, .inl 2, .inl 100, .inl 100, .inl 2, .inl 100, .inl 100]),
  (0, [.inl 0]),
  (0, [.inl 100]),
  (0, [.inl 0]),
  (0, [.inl 0]),
  (0, [.inl 100]),
  (0, [.inl 0]),
  (0, [.inl 0]),
  (0, [.inl 2, .inl 100, .inl 100]),
  (0, [.inl 0]),
  (0, [.inl 100]),
  (0, [.inl 0]),
  (0, [.inl 0]),
  (0, [.inl 100]),
  (0, [.inl 0]),
  (0, [.inl 0]),
  (0, [.inl 2, .inl 100, .inl 100]),
  (0, [.inl 0]),
  (0, [.inl 2, .inl 2, .inl 100, .inl 100, .inl 2, .inl 100, .inl 100]),
  (0, [.inl 0]),
  (0, [.inl 100]),
  (0, [.inl 0]),
  (0, [.inl 0]),
  (0, [.inl 100]),
  (0, [.inl 0]),
  (0, [.inl 0]),
  (0, [.inl 2, .inl 100, .inl 100]),
  (0, [.inl 0]),
  (0, [.inl 100]),
  (0, [.inl 0]),
  (0, [.inl 0]),
  (0, [.inl 100]),
  (0, [.inl 0]),
  (0, [.inl 0]),
  (0, [.inl 2, .inl 100, .inl 100]),
  (0, [.inl 0]),
  (0, [.inl 2, .inl 2, .inl 100, .inl 100, .inl 2, .inl 100, .inl 100]),
  (0, [.inl 0]),
  (0, [.inl 2, .inl 2, .inl 2, .inl 100, .inl 100, .inl 2, .inl 100, .inl 100, .inl 2, .inl 2, .inl 100, .inl 100, .inl 2, .inl 100, .inl 100]),
  (0, [.inl 0]),
  (0, [.inl 2, .inl 2, .inl 2, .inl 2, .inl 100, .inl 100, .inl 2, .inl 100, .inl 100, .inl 2, .inl 2, .inl 100, .inl 100, .inl 2, .inl 100, .inl 100, .inl 2, .inl 2, .inl 100, .inl 100, .inl 2, .inl 100, .inl 100]),
  (0, [.inl 0]),
  (0, [.inl 1, .inl 2, .inl 2, .inl 2, .inl 2, .inl 100, .inl 100, .inl 2, .inl 100, .inl 100, .inl 2, .inl 2, .inl 100, .inl 100, .inl 2, .inl 100, .inl 100, .inl 2, .inl 2, .inl 100, .inl 100, .inl 2, .inl 100, .inl 100])]
def ga21 : List MC := [(0, [.inl 2, .inl 0, .inl 0]),
  (0, [.inl 100]),
  (0, [.inl 2, .inl 0, .inl 0]),
  (0, [.inl 2, .inl 0, .inl 0]),
  (0, [.inl 100]),
  (0, [.inl 2, .inl 0, .inl 0]),
  (0, [.inl 2, .inl 0, .inl 0]),
  (0, [.inl 2, .inl 100, .inl 100]),
  (0, [.inl 2, .inl 0, .inl 0]),
  (0, [.inl 100]),
  (0, [.inl 2, .inl 0, .inl 0]),
  (0, [.inl 2, .inl 0, .inl 0]),
  (0, [.inl 100]),
  (0, [.inl 2, .inl 0, .inl 0]),
  (0, [.inl 2, .inl 0, .inl 0]),
  (0, [.inl 2, .inl 100, .inl 100]),
  (0, [.inl 2, .inl 0, .inl 0]),
  (0, [.inl 2, .inl 2, .inl 100, .inl 100, .inl 2, .inl 100, .inl 100]),
  (0, [.inl 2, .inl 0, .inl 0]),
  (0, [.inl 100]),
  (0, [.inl 2, .inl 0, .inl 0]),
  (0, [.inl 2, .inl 0, .inl 0]),
  (0, [.inl 100]),
  (0, [.inl 2, .inl 0, .inl 0]),
  (0, [.inl 2, .inl 0, .inl 0]),
  (0, [.inl 2, .inl 100, .inl 100]),
  (0, [.inl 2, .inl 0, .inl 0]),
  (0, [.inl 100]),
  (0, [.inl 2, .inl 0, .inl 0]),
  (0, [.inl 2, .inl 0, .inl 0]),
  (0, [.inl 100]),
  (0, [.inl 2, .inl 0, .inl 0]),
  (0, [.inl 2, .inl 0, .inl 0]),
  (0, [.inl 2, .inl 100, .inl 100]),
  (0, [.inl 2, .inl 0, .inl 0]),
  (0, [.inl 2, .inl 2, .inl 100, .inl 100, .inl 2, .inl 100, .inl 100]),
  (0, [.inl 2, .inl 0, .inl 0]),
  (0, [.inl 100]),
  (0, [.inl 2, .inl 0, .inl 0]),
  (0, [.inl 2, .inl 0, .inl 0]),
  (0, [.inl 100]),
  (0, [.inl 2, .inl 0, .inl 0]),
  (0, [.inl 2, .inl 0, .inl 0]),
  (0, [.inl 2, .inl 100, .inl 100]),
  (0, [.inl 2, .inl 0, .inl 0]),
  (0, [.inl 100]),
  (0, [.inl 2, .inl 0, .inl 0]),
  (0, [.inl 2, .inl 0, .inl 0]),
  (0, [.inl 100]),
  (0, [.inl 2, .inl 0, .inl 0]),
  (0, [.inl 2, .inl 0, .inl 0]),
  (0, [.inl 2, .inl 100, .inl 100]),
  (0, [.inl 2, .inl 0, .inl 0]),
  (0, [.inl 2, .inl 2, .inl 100, .inl 100, .inl 2, .inl 100, .inl 100]),
  (0, [.inl 2, .inl 0, .inl 0]),
  (0, [.inl 2, .inl 2, .inl 2, .inl 100, .inl 100, .inl 2, .inl 100, .inl 100, .inl 2, .inl 2, .inl 100, .inl 100, .inl 2, .inl 100, .inl 100]),
  (0, [.inl 2, .inl 0, .inl 0]),
  (0, [.inl 2, .inl 2, .inl 2, .inl 2, .inl 100, .inl 100, .inl 2, .inl 100, .inl 100, .inl 2, .inl 2, .inl 100, .inl 100, .inl 2, .inl 100, .inl 100, .inl 2, .inl 2, .inl 100, .inl 100, .inl 2, .inl 100, .inl 100]),
  (0, [.inl 2, .inl 0, .inl 0]),
  (0, [.inl 1, .inl 2, .inl 2, .inl 2, .inl 2, .inl 100, .inl 100, .inl 2, .inl 100, .inl 100, .inl 2, .inl 2, .inl 100, .inl 100, .inl 2, .inl 100, .inl 100, .inl 2, .inl 2, .inl 100, .inl 100, .inl 2, .inl 100, .inl 100])]
def ga20 : List MC := [(0, [.inl 0]),
  (0, [.inl 100]),
  (0, [.inl 0]),
  (0, [.inl 0]),
  (0, [.inl 100]),
  (0, [.inl 0]),
  (0, [.inl 0]),
  (0, [.inl 2, .inl 100, .inl 100]),
  (0, [.inl 0]),
  (0, [.inl 100]),
  (0, [.inl 0]),
  (0, [.inl 0]),
  (0, [.inl 100]),
  (0, [.inl 0]),
  (0, [.inl 0]),
  (0, [.inl 2, .inl 100, .inl 100]),
  (0, [.inl 0]),
  (0, [.inl 2, .inl 2, .inl 100, .inl 100, .inl 2, .inl 100, .inl 100]),
  (0, [.inl 0]),
  (0, [.inl 100]),
  (0, [.inl 0]),
  (0, [.inl 0]),
  (0, [.inl 100]),
  (0, [.inl 0]),
  (0, [.inl 0]),
  (0, [.inl 2, .inl 100, .inl 100]),
  (0, [.inl 0]),
  (0, [.inl 100]),
  (0, [.inl 0]),
  (0, [.inl 0]),
  (0, [.inl 100]),
  (0, [.inl 0]),
  (0, [.inl 0]),
  (0, [.inl 2, .inl 100, .inl 100]),
  (0, [.inl 0]),
  (0, [.inl 2, .inl 2, .inl 100, .inl 100, .inl 2, .inl 100, .inl 100]),
  (0, [.inl 0]),
  (0, [.inl 100]),
  (0, [.inl 0]),
  (0, [.inl 0]),
  (0, [.inl 100]),
  (0, [.inl 0]),
  (0, [.inl 0]),
  (0, [.inl 2, .inl 100, .inl 100]),
  (0, [.inl 0]),
  (0, [.inl 100]),
  (0, [.inl 0]),
  (0, [.inl 0]),
  (0, [.inl 100]),
  (0, [.inl 0]),
  (0, [.inl 0]),
  (0, [.inl 2, .inl 100, .inl 100]),
  (0, [.inl 0]),
  (0, [.inl 2, .inl 2, .inl 100, .inl 100, .inl 2, .inl 100, .inl 100]),
  (0, [.inl 0]),
  (0, [.inl 2, .inl 2, .inl 2, .inl 100, .inl 100, .inl 2, .inl 100, .inl 100, .inl 2, .inl 2, .inl 100, .inl 100, .inl 2, .inl 100, .inl 100]),
  (0, [.inl 0]),
  (0, [.inl 2, .inl 2, .inl 2, .inl 2, .inl 100, .inl 100, .inl 2, .inl 100, .inl 100, .inl 2, .inl 2, .inl 100, .inl 100, .inl 2, .inl 100, .inl 100, .inl 2, .inl 2, .inl 100, .inl 100, .inl 2, .inl 100, .inl 100]),
  (0, [.inl 0]),
  (0, [.inl 1, .inl 2, .inl 2, .inl 2, .inl 2, .inl 100, .inl 100, .inl 2, .inl 100, .inl 100, .inl 2, .inl 2, .inl 100, .inl 100, .inl 2, .inl 100, .inl 100, .inl 2, .inl 2, .inl 100, .inl 100, .inl 2, .inl 100, .inl 100])]
def ga19 : List MC := [(0, [.inl 0]),
  (0, [.inl 100]),
  (0, [.inl 0]),
  (0, [.inl 0]),
  (0, [.inl 100]),
  (0, [.inl 0]),
  (0, [.inl 0]),
  (0, [.inl 2, .inl 100, .inl 100]),
  (0, [.inl 0]),
  (0, [.inl 100]),
  (0, [.inl 0]),
  (0, [.inl 0]),
  (0, [.inl 100]),
  (0, [.inl 0]),
  (0, [.inl 0]),
  (0, [.inl 2, .inl 100, .inl 100]),
  (0, [.inl 0]),
  (0, [.inl 2, .inl 2, .inl 100, .inl 100, .inl 2, .inl 100, .inl 100]),
  (0, [.inl 0]),
  (0, [.inl 100]),
  (0, [.inl 0]),
  (0, [.inl 0]),
  (0, [.inl 100]),
  (0, [.inl 0]),
  (0, [.inl 0]),
  (0, [.inl 2, .inl 100, .inl 100]),
  (0, [.inl 0]),
  (0, [.inl 100]),
  (0, [.inl 0]),
  (0, [.inl 0]),
  (0, [.inl 100]),
  (0, [.inl 0]),
  (0, [.inl 0]),
  (0, [.inl 2, .inl 100, .inl 100]),
  (0, [.inl 0]),
  (0, [.inl 2, .inl 2, .inl 100, .inl 100, .inl 2, .inl 100, .inl 100]),
  (0, [.inl 0]),
  (0, [.inl 100]),
  (0, [.inl 0]),
  (0, [.inl 0]),
  (0, [.inl 100]),
  (0, [.inl 0]),
  (0, [.inl 0]),
  (0, [.inl 2, .inl 100, .inl 100]),
  (0, [.inl 0]),
  (0, [.inl 100]),
  (0, [.inl 0]),
  (0, [.inl 0]),
  (0, [.inl 100]),
  (0, [.inl 0]),
  (0, [.inl 0]),
  (0, [.inl 2, .inl 100, .inl 100]),
  (0, [.inl 0]),
  (0, [.inl 2, .inl 2, .inl 100, .inl 100, .inl 2, .inl 100, .inl 100]),
  (0, [.inl 0]),
  (0, [.inl 2, .inl 2, .inl 2, .inl 100, .inl 100, .inl 2, .inl 100, .inl 100, .inl 2, .inl 2, .inl 100, .inl 100, .inl 2, .inl 100, .inl 100]),
  (0, [.inl 0]),
  (0, [.inl 2, .inl 2, .inl 2, .inl 2, .inl 100, .inl 100, .inl 2, .inl 100, .inl 100, .inl 2, .inl 2, .inl 100, .inl 100, .inl 2, .inl 100, .inl 100, .inl 2, .inl 2, .inl 100, .inl 100, .inl 2, .inl 100, .inl 100]),
  (0, [.inl 0]),
  (0, [.inl 1, .inl 2, .inl 2, .inl 2, .inl 2, .inl 100, .inl 100, .inl 2, .inl 100, .inl 100, .inl 2, .inl 2, .inl 100, .inl 100, .inl 2, .inl 100, .inl 100, .inl 2, .inl 2, .inl 100, .inl 100, .inl 2, .inl 100, .inl 100])]
def ga18 : List MC := [(0, [.inl 2, .inl 0, .inl 0]),
  (0, [.inl 100]),
  (0, [.inl 2, .inl 0, .inl 0]),
  (0, [.inl 2, .inl 0, .inl 0]),
  (0, [.inl 100]),
  (0, [.inl 2, .inl 0, .inl 0]),
  (0, [.inl 2, .inl 0, .inl 0]),
  (0, [.inl 2, .inl 100, .inl 100]),
  (0, [.inl 2, .inl 0, .inl 0]),
  (0, [.inl 100]),
  (0, [.inl 2, .inl 0, .inl 0]),
  (0, [.inl 2, .inl 0, .inl 0]),
  (0, [.inl 100]),
  (0, [.inl 2, .inl 0, .inl 0]),
  (0, [.inl 2, .inl 0, .inl 0]),
  (0, [.inl 2, .inl 100, .inl 100]),
  (0, [.inl 2, .inl 0, .inl 0]),
  (0, [.inl 2, .inl 2, .inl 100, .inl 100, .inl 2, .inl 100, .inl 100]),
  (0, [.inl 2, .inl 0, .inl 0]),
  (0, [.inl 100]),
  (0, [.inl 2, .inl 0, .inl 0]),
  (0, [.inl 2, .inl 0, .inl 0]),
  (0, [.inl 100]),
  (0, [.inl 2, .inl 0, .inl 0]),
  (0, [.inl 2, .inl 0, .inl 0]),
  (0, [.inl 2, .inl 100, .inl 100]),
  (0, [.inl 2, .inl 0, .inl 0]),
  (0, [.inl 100]),
  (0, [.inl 2, .inl 0, .inl 0]),
  (0, [.inl 2, .inl 0, .inl 0]),
  (0, [.inl 100]),
  (0, [.inl 2, .inl 0, .inl 0]),
  (0, [.inl 2, .inl 0, .inl 0]),
  (0, [.inl 2, .inl 100, .inl 100]),
  (0, [.inl 2, .inl 0, .inl 0]),
  (0, [.inl 2, .inl 2, .inl 100, .inl 100, .inl 2, .inl 100, .inl 100]),
  (0, [.inl 2, .inl 0, .inl 0]),
  (0, [.inl 100]),
  (0, [.inl 2, .inl 0, .inl 0]),
  (0, [.inl 2, .inl 0, .inl 0]),
  (0, [.inl 100]),
  (0, [.inl 2, .inl 0, .inl 0]),
  (0, [.inl 2, .inl 0, .inl 0]),
  (0, [.inl 2, .inl 100, .inl 100]),
  (0, [.inl 2, .inl 0, .inl 0]),
  (0, [.inl 100]),
  (0, [.inl 2, .inl 0, .inl 0]),
  (0, [.inl 2, .inl 0, .inl 0]),
  (0, [.inl 100]),
  (0, [.inl 2, .inl 0, .inl 0]),
  (0, [.inl 2, .inl 0, .inl 0]),
  (0, [.inl 2, .inl 100, .inl 100]),
  (0, [.inl 2, .inl 0, .inl 0]),
  (0, [.inl 2, .inl 2, .inl 100, .inl 100, .inl 2, .inl 100, .inl 100]),
  (0, [.inl 2, .inl 0, .inl 0]),
  (0, [.inl 2, .inl 2, .inl 2, .inl 100, .inl 100, .inl 2, .inl 100, .inl 100, .inl 2, .inl 2, .inl 100, .inl 100, .inl 2, .inl 100, .inl 100]),
  (0, [.inl 2, .inl 0, .inl 0]),
  (0, [.inl 2, .inl 2, .inl 2, .inl 2, .inl 100, .inl 100, .inl 2, .inl 100, .inl 100, .inl 2, .inl 2, .inl 100, .inl 100, .inl 2, .inl 100, .inl 100, .inl 2, .inl 2, .inl 100, .inl 100, .inl 2, .inl 100, .inl 100]),
  (0, [.inl 2, .inl 0, .inl 0]),
  (0, [.inl 1, .inl 2, .inl 2, .inl 2, .inl 2, .inl 100, .inl 100, .inl 2, .inl 100, .inl 100, .inl 2, .inl 2, .inl 100, .inl 100, .inl 2, .inl 100, .inl 100, .inl 2, .inl 2, .inl 100, .inl 100, .inl 2, .inl 100, .inl 100])]
def ga17 : List MC := [(0, [.inl 2, .inl 2, .inl 0, .inl 0, .inl 2, .inl 0, .inl 0]),
  (0, [.inl 100]),
  (0, [.inl 2, .inl 2, .inl 0, .inl 0, .inl 2, .inl 0, .inl 0]),
  (0, [.inl 2, .inl 2, .inl 0, .inl 0, .inl 2, .inl 0, .inl 0]),
  (0, [.inl 100]),
  (0, [.inl 2, .inl 2, .inl 0, .inl 0, .inl 2, .inl 0, .inl 0]),
  (0, [.inl 2, .inl 2, .inl 0, .inl 0, .inl 2, .inl 0, .inl 0]),
  (0, [.inl 2, .inl 100, .inl 100]),
  (0, [.inl 2, .inl 2, .inl 0, .inl 0, .inl 2, .inl 0, .inl 0]),
  (0, [.inl 100]),
  (0, [.inl 2, .inl 2, .inl 0, .inl 0, .inl 2, .inl 0, .inl 0]),
  (0, [.inl 2, .inl 2, .inl 0, .inl 0, .inl 2, .inl 0, .inl 0]),
  (0, [.inl 100]),
  (0, [.inl 2, .inl 2, .inl 0, .inl 0, .inl 2, .inl 0, .inl 0]),
  (0, [.inl 2, .inl 2, .inl 0, .inl 0, .inl 2, .inl 0, .inl 0]),
  (0, [.inl 2, .inl 100, .inl 100]),
  (0, [.inl 2, .inl 2, .inl 0, .inl 0, .inl 2, .inl 0, .inl 0]),
  (0, [.inl 2, .inl 2, .inl 100, .inl 100, .inl 2, .inl 100, .inl 100]),
  (0, [.inl 2, .inl 2, .inl 0, .inl 0, .inl 2, .inl 0, .inl 0]),
  (0, [.inl 100]),
  (0, [.inl 2, .inl 2, .inl 0, .inl 0, .inl 2, .inl 0, .inl 0]),
  (0, [.inl 2, .inl 2, .inl 0, .inl 0, .inl 2, .inl 0, .inl 0]),
  (0, [.inl 100]),
  (0, [.inl 2, .inl 2, .inl 0, .inl 0, .inl 2, .inl 0, .inl 0]),
  (0, [.inl 2, .inl 2, .inl 0, .inl 0, .inl 2, .inl 0, .inl 0]),
  (0, [.inl 2, .inl 100, .inl 100]),
  (0, [.inl 2, .inl 2, .inl 0, .inl 0, .inl 2, .inl 0, .inl 0]),
  (0, [.inl 100]),
  (0, [.inl 2, .inl 2, .inl 0, .inl 0, .inl 2, .inl 0, .inl 0]),
  (0, [.inl 2, .inl 2, .inl 0, .inl 0, .inl 2, .inl 0, .inl 0]),
  (0, [.inl 100]),
  (0, [.inl 2, .inl 2, .inl 0, .inl 0, .inl 2, .inl 0, .inl 0]),
  (0, [.inl 2, .inl 2, .inl 0, .inl 0, .inl 2, .inl 0, .inl 0]),
  (0, [.inl 2, .inl 100, .inl 100]),
  (0, [.inl 2, .inl 2, .inl 0, .inl 0, .inl 2, .inl 0, .inl 0]),
  (0, [.inl 2, .inl 2, .inl 100, .inl 100, .inl 2, .inl 100, .inl 100]),
  (0, [.inl 2, .inl 2, .inl 0, .inl 0, .inl 2, .inl 0, .inl 0]),
  (0, [.inl 100]),
  (0, [.inl 2, .inl 2, .inl 0, .inl 0, .inl 2, .inl 0, .inl 0]),
  (0, [.inl 2, .inl 2, .inl 0, .inl 0, .inl 2, .inl 0, .inl 0]),
  (0, [.inl 100]),
  (0, [.inl 2, .inl 2, .inl 0, .inl 0, .inl 2, .inl 0, .inl 0]),
  (0, [.inl 2, .inl 2, .inl 0, .inl 0, .inl 2, .inl 0, .inl 0]),
  (0, [.inl 2, .inl 100, .inl 100]),
  (0, [.inl 2, .inl 2, .inl 0, .inl 0, .inl 2, .inl 0, .inl 0]),
  (0, [.inl 100]),
  (0, [.inl 2, .inl 2, .inl 0, .inl 0, .inl 2, .inl 0, .inl 0]),
  (0, [.inl 2, .inl 2, .inl 0, .inl 0, .inl 2, .inl 0, .inl 0]),
  (0, [.inl 100]),
  (0, [.inl 2, .inl 2, .inl 0, .inl 0, .inl 2, .inl 0, .inl 0]),
  (0, [.inl 2, .inl 2, .inl 0, .inl 0, .inl 2, .inl 0, .inl 0]),
  (0, [.inl 2, .inl 100, .inl 100]),
  (0, [.inl 2, .inl 2, .inl 0, .inl 0, .inl 2, .inl 0, .inl 0]),
  (0, [.inl 2, .inl 2, .inl 100, .inl 100, .inl 2, .inl 100, .inl 100]),
  (0, [.inl 2, .inl 2, .inl 0, .inl 0, .inl 2, .inl 0, .inl 0]),
  (0, [.inl 2, .inl 2, .inl 2, .inl 100, .inl 100, .inl 2, .inl 100, .inl 100, .inl 2, .inl 2, .inl 100, .inl 100, .inl 2, .inl 100, .inl 100]),
  (0, [.inl 2, .inl 2, .inl 0, .inl 0, .inl 2, .inl 0, .inl 0]),
  (0, [.inl 2, .inl 2, .inl 2, .inl 2, .inl 100, .inl 100, .inl 2, .inl 100, .inl 100, .inl 2, .inl 2, .inl 100, .inl 100, .inl 2, .inl 100, .inl 100, .inl 2, .inl 2, .inl 100, .inl 100, .inl 2, .inl 100, .inl 100]),
  (0, [.inl 2, .inl 2, .inl 0, .inl 0, .inl 2, .inl 0, .inl 0]),
  (0, [.inl 1, .inl 2, .inl 2, .inl 2, .inl 2, .inl 100, .inl 100, .inl 2, .inl 100, .inl 100, .inl 2, .inl 2, .inl 100, .inl 100, .inl 2, .inl 100, .inl 100, .inl 2, .inl 2, .inl 100, .inl 100, .inl 2, .inl 100, .inl 100])]
def ga16 : List MC := [(0, [.inl 0]),
  (0, [.inl 100]),
  (0, [.inl 0]),
  (0, [.inl 0]),
  (0, [.inl 100]),
  (0, [.inl 0]),
  (0, [.inl 0]),
  (0, [.inl 2, .inl 100, .inl 100]),
  (0, [.inl 0]),
  (0, [.inl 100]),
  (0, [.inl 0]),
  (0, [.inl 0]),
  (0, [.inl 100]),
  (0, [.inl 0]),
  (0, [.inl 0]),
  (0, [.inl 2, .inl 100, .inl 100]),
  (0, [.inl 0]),
  (0, [.inl 2, .inl 2, .inl 100, .inl 100, .inl 2, .inl 100, .inl 100]),
  (0, [.inl 0]),
  (0, [.inl 100]),
  (0, [.inl 0]),
  (0, [.inl 0]),
  (0, [.inl 100]),
  (0, [.inl 0]),
  (0, [.inl 0]),
  (0, [.inl 2, .inl 100, .inl 100]),
  (0, [.inl 0]),
  (0, [.inl 100]),
  (0, [.inl 0]),
  (0, [.inl 0]),
  (0, [.inl 100]),
  (0, [.inl 0]),
  (0, [.inl 0]),
  (0, [.inl 2, .inl 100, .inl 100]),
  (0, [.inl 0]),
  (0, [.inl 2, .inl 2, .inl 100, .inl 100, .inl 2, .inl 100, .inl 100]),
  (0, [.inl 0]),
  (0, [.inl 100]),
  (0, [.inl 0]),
  (0, [.inl 0]),
  (0, [.inl 100]),
  (0, [.inl 0]),
  (0, [.inl 0]),
  (0, [.inl 2, .inl 100, .inl 100]),
  (0, [.inl 0]),
  (0, [.inl 100]),
  (0, [.inl 0]),
  (0, [.inl 0]),
  (0, [.inl 100]),
  (0, [.inl 0]),
  (0, [.inl 0]),
  (0, [.inl 2, .inl 100, .inl 100]),
  (0, [.inl 0]),
  (0, [.inl 2, .inl 2, .inl 100, .inl 100, .inl 2, .inl 100, .inl 100]),
  (0, [.inl 0]),
  (0, [.inl 2, .inl 2, .inl 2, .inl 100, .inl 100, .inl 2, .inl 100, .inl 100, .inl 2, .inl 2, .inl 100, .inl 100, .inl 2, .inl 100, .inl 100]),
  (0, [.inl 0]),
  (0, [.inl 2, .inl 2, .inl 2, .inl 2, .inl 100, .inl 100, .inl 2, .inl 100, .inl 100, .inl 2, .inl 2, .inl 100, .inl 100, .inl 2, .inl 100, .inl 100, .inl 2, .inl 2, .inl 100, .inl 100, .inl 2, .inl 100, .inl 100]),
  (0, [.inl 0]),
  (0, [.inl 1, .inl 2, .inl 2, .inl 2, .inl 2, .inl 100, .inl 100, .inl 2, .inl 100, .inl 100, .inl 2, .inl 2, .inl 100, .inl 100, .inl 2, .inl 100, .inl 100, .inl 2, .inl 2, .inl 100, .inl 100, .inl 2, .inl 100, .inl 100])]
def ga15 : List MC := [(0, [.inl 0]),
  (0, [.inl 100]),
  (0, [.inl 0]),
  (0, [.inl 0]),
  (0, [.inl 100]),
  (0, [.inl 0]),
  (0, [.inl 0]),
  (0, [.inl 2, .inl 100, .inl 100]),
  (0, [.inl 0]),
  (0, [.inl 100]),
  (0, [.inl 0]),
  (0, [.inl 0]),
  (0, [.inl 100]),
  (0, [.inl 0]),
  (0, [.inl 0]),
  (0, [.inl 2, .inl 100, .inl 100]),
  (0, [.inl 0]),
  (0, [.inl 2, .inl 2, .inl 100, .inl 100, .inl 2, .inl 100, .inl 100]),
  (0, [.inl 0]),
  (0, [.inl 100]),
  (0, [.inl 0]),
  (0, [.inl 0]),
  (0, [.inl 100]),
  (0, [.inl 0]),
  (0, [.inl 0]),
  (0, [.inl 2, .inl 100, .inl 100]),
  (0, [.inl 0]),
  (0, [.inl 100]),
  (0, [.inl 0]),
  (0, [.inl 0]),
  (0, [.inl 100]),
  (0, [.inl 0]),
  (0, [.inl 0]),
  (0, [.inl 2, .inl 100, .inl 100]),
  (0, [.inl 0]),
  (0, [.inl 2, .inl 2, .inl 100, .inl 100, .inl 2, .inl 100, .inl 100]),
  (0, [.inl 0]),
  (0, [.inl 100]),
  (0, [.inl 0]),
  (0, [.inl 0]),
  (0, [.inl 100]),
  (0, [.inl 0]),
  (0, [.inl 0]),
  (0, [.inl 2, .inl 100, .inl 100]),
  (0, [.inl 0]),
  (0, [.inl 100]),
  (0, [.inl 0]),
  (0, [.inl 0]),
  (0, [.inl 100]),
  (0, [.inl 0]),
  (0, [.inl 0]),
  (0, [.inl 2, .inl 100, .inl 100]),
  (0, [.inl 0]),
  (0, [.inl 2, .inl 2, .inl 100, .inl 100, .inl 2, .inl 100, .inl 100]),
  (0, [.inl 0]),
  (0, [.inl 2, .inl 2, .inl 2, .inl 100, .inl 100, .inl 2, .inl 100, .inl 100, .inl 2, .inl 2, .inl 100, .inl 100, .inl 2, .inl 100, .inl 100]),
  (0, [.inl 0]),
  (0, [.inl 2, .inl 2, .inl 2, .inl 2, .inl 100, .inl 100, .inl 2, .inl 100, .inl 100, .inl 2, .inl 2, .inl 100, .inl 100, .inl 2, .inl 100, .inl 100, .inl 2, .inl 2, .inl 100, .inl 100, .inl 2, .inl 100, .inl 100]),
  (0, [.inl 0]),
  (0, [.inl 1, .inl 2, .inl 2, .inl 2, .inl 2, .inl 100, .inl 100, .inl 2, .inl 100, .inl 100, .inl 2, .inl 2, .inl 100, .inl 100, .inl 2, .inl 100, .inl 100, .inl 2, .inl 2, .inl 100, .inl 100, .inl 2, .inl 100, .inl 100])]
def ga14 : List MC := [(0, [.inl 2, .inl 0, .inl 0]),
  (0, [.inl 100]),
  (0, [.inl 2, .inl 0, .inl 0]),
  (0, [.inl 2, .inl 0, .inl 0]),
  (0, [.inl 100]),
  (0, [.inl 2, .inl 0, .inl 0]),
  (0, [.inl 2, .inl 0, .inl 0]),
  (0, [.inl 2, .inl 100, .inl 100]),
  (0, [.inl 2, .inl 0, .inl 0]),
  (0, [.inl 100]),
  (0, [.inl 2, .inl 0, .inl 0]),
  (0, [.inl 2, .inl 0, .inl 0]),
  (0, [.inl 100]),
  (0, [.inl 2, .inl 0, .inl 0]),
  (0, [.inl 2, .inl 0, .inl 0]),
  (0, [.inl 2, .inl 100, .inl 100]),
  (0, [.inl 2, .inl 0, .inl 0]),
  (0, [.inl 2, .inl 2, .inl 100, .inl 100, .inl 2, .inl 100, .inl 100]),
  (0, [.inl 2, .inl 0, .inl 0]),
  (0, [.inl 100]),
  (0, [.inl 2, .inl 0, .inl 0]),
  (0, [.inl 2, .inl 0, .inl 0]),
  (0, [.inl 100]),
  (0, [.inl 2, .inl 0, .inl 0]),
  (0, [.inl 2, .inl 0, .inl 0]),
  (0, [.inl 2, .inl 100, .inl 100]),
  (0, [.inl 2, .inl 0, .inl 0]),
  (0, [.inl 100]),
  (0, [.inl 2, .inl 0, .inl 0]),
  (0, [.inl 2, .inl 0, .inl 0]),
  (0, [.inl 100]),
  (0, [.inl 2, .inl 0, .inl 0]),
  (0, [.inl 2, .inl 0, .inl 0]),
  (0, [.inl 2, .inl 100, .inl 100]),
  (0, [.inl 2, .inl 0, .inl 0]),
  (0, [.inl 2, .inl 2, .inl 100, .inl 100, .inl 2, .inl 100, .inl 100]),
  (0, [.inl 2, .inl 0, .inl 0]),
  (0, [.inl 100]),
  (0, [.inl 2, .inl 0, .inl 0]),
  (0, [.inl 2, .inl 0, .inl 0]),
  (0, [.inl 100]),
  (0, [.inl 2, .inl 0, .inl 0]),
  (0, [.inl 2, .inl 0, .inl 0]),
  (0, [.inl 2, .inl 100, .inl 100]),
  (0, [.inl 2, .inl 0, .inl 0]),
  (0, [.inl 100]),
  (0, [.inl 2, .inl 0, .inl 0]),
  (0, [.inl 2, .inl 0, .inl 0]),
  (0, [.inl 100]),
  (0, [.inl 2, .inl 0, .inl 0]),
  (0, [.inl 2, .inl 0, .inl 0]),
  (0, [.inl 2, .inl 100, .inl 100]),
  (0, [.inl 2, .inl 0, .inl 0]),
  (0, [.inl 2, .inl 2, .inl 100, .inl 100, .inl 2, .inl 100, .inl 100]),
  (0, [.inl 2, .inl 0, .inl 0]),
  (0, [.inl 2, .inl 2, .inl 2, .inl 100, .inl 100, .inl 2, .inl 100, .inl 100, .inl 2, .inl 2, .inl 100, .inl 100, .inl 2, .inl 100, .inl 100]),
  (0, [.inl 2, .inl 0, .inl 0]),
  (0, [.inl 2, .inl 2, .inl 2, .inl 2, .inl 100, .inl 100, .inl 2, .inl 100, .inl 100, .inl 2, .inl 2, .inl 100, .inl 100, .inl 2, .inl 100, .inl 100, .inl 2, .inl 2, .inl 100, .inl 100, .inl 2, .inl 100, .inl 100]),
  (0, [.inl 2, .inl 0, .inl 0]),
  (0, [.inl 1, .inl 2, .inl 2, .inl 2, .inl 2, .inl 100, .inl 100, .inl 2, .inl 100, .inl 100, .inl 2, .inl 2, .inl 100, .inl 100, .inl 2, .inl 100, .inl 100, .inl 2, .inl 2, .inl 100, .inl 100, .inl 2, .inl 100, .inl 100])]
def ga13 : List MC := [(0, [.inl 0]),
  (0, [.inl 100]),
  (0, [.inl 0]),
  (0, [.inl 0]),
  (0, [.inl 100]),
  (0, [.inl 0]),
  (0, [.inl 0]),
  (0, [.inl 2, .inl 100, .inl 100]),
  (0, [.inl 0]),
  (0, [.inl 100]),
  (0, [.inl 0]),
  (0, [.inl 0]),
  (0, [.inl 100]),
  (0, [.inl 0]),
  (0, [.inl 0]),
  (0, [.inl 2, .inl 100, .inl 100]),
  (0, [.inl 0]),
  (0, [.inl 2, .inl 2, .inl 100, .inl 100, .inl 2, .inl 100, .inl 100]),
  (0, [.inl 0]),
  (0, [.inl 100]),
  (0, [.inl 0]),
  (0, [.inl 0]),
  (0, [.inl 100]),
  (0, [.inl 0]),
  (0, [.inl 0]),
  (0, [.inl 2, .inl 100, .inl 100]),
  (0, [.inl 0]),
  (0, [.inl 100]),
  (0, [.inl 0]),
  (0, [.inl 0]),
  (0, [.inl 100]),
  (0, [.inl 0]),
  (0, [.inl 0]),
  (0, [.inl 2, .inl 100, .inl 100]),
  (0, [.inl 0]),
  (0, [.inl 2, .inl 2, .inl 100, .inl 100, .inl 2, .inl 100, .inl 100]),
  (0, [.inl 0]),
  (0, [.inl 100]),
  (0, [.inl 0]),
  (0, [.inl 0]),
  (0, [.inl 100]),
  (0, [.inl 0]),
  (0, [.inl 0]),
  (0, [.inl 2, .inl 100, .inl 100]),
  (0, [.inl 0]),
  (0, [.inl 100]),
  (0, [.inl 0]),
  (0, [.inl 0]),
  (0, [.inl 100]),
  (0, [.inl 0]),
  (0, [.inl 0]),
  (0, [.inl 2, .inl 100, .inl 100]),
  (0, [.inl 0]),
  (0, [.inl 2, .inl 2, .inl 100, .inl 100, .inl 2, .inl 100, .inl 100]),
  (0, [.inl 0]),
  (0, [.inl 2, .inl 2, .inl 2, .inl 100, .inl 100, .inl 2, .inl 100, .inl 100, .inl 2, .inl 2, .inl 100, .inl 100, .inl 2, .inl 100, .inl 100]),
  (0, [.inl 0]),
  (0, [.inl 2, .inl 2, .inl 2, .inl 2, .inl 100, .inl 100, .inl 2, .inl 100, .inl 100, .inl 2, .inl 2, .inl 100, .inl 100, .inl 2, .inl 100, .inl 100, .inl 2, .inl 2, .inl 100, .inl 100, .inl 2, .inl 100, .inl 100]),
  (0, [.inl 0]),
  (0, [.inl 1, .inl 2, .inl 2, .inl 2, .inl 2, .inl 100, .inl 100, .inl 2, .inl 100, .inl 100, .inl 2, .inl 2, .inl 100, .inl 100, .inl 2, .inl 100, .inl 100, .inl 2, .inl 2, .inl 100, .inl 100, .inl 2, .inl 100, .inl 100])]
def ga12 : List MC := [(0, [.inl 0]),
  (0, [.inl 100]),
  (0, [.inl 0]),
  (0, [.inl 0]),
  (0, [.inl 100]),
  (0, [.inl 0]),
  (0, [.inl 0]),
  (0, [.inl 2, .inl 100, .inl 100]),
  (0, [.inl 0]),
  (0, [.inl 100]),
  (0, [.inl 0]),
  (0, [.inl 0]),
  (0, [.inl 100]),
  (0, [.inl 0]),
  (0, [.inl 0]),
  (0, [.inl 2, .inl 100, .inl 100]),
  (0, [.inl 0]),
  (0, [.inl 2, .inl 2, .inl 100, .inl 100, .inl 2, .inl 100, .inl 100]),
  (0, [.inl 0]),
  (0, [.inl 100]),
  (0, [.inl 0]),
  (0, [.inl 0]),
  (0, [.inl 100]),
  (0, [.inl 0]),
  (0, [.inl 0]),
  (0, [.inl 2, .inl 100, .inl 100]),
  (0, [.inl 0]),
  (0, [.inl 100]),
  (0, [.inl 0]),
  (0, [.inl 0]),
  (0, [.inl 100]),
  (0, [.inl 0]),
  (0, [.inl 0]),
  (0, [.inl 2, .inl 100, .inl 100]),
  (0, [.inl 0]),
  (0, [.inl 2, .inl 2, .inl 100, .inl 100, .inl 2, .inl 100, .inl 100]),
  (0, [.inl 0]),
  (0, [.inl 100]),
  (0, [.inl 0]),
  (0, [.inl 0]),
  (0, [.inl 100]),
  (0, [.inl 0]),
  (0, [.inl 0]),
  (0, [.inl 2, .inl 100, .inl 100]),
  (0, [.inl 0]),
  (0, [.inl 100]),
  (0, [.inl 0]),
  (0, [.inl 0]),
  (0, [.inl 100]),
  (0, [.inl 0]),
  (0, [.inl 0]),
  (0, [.inl 2, .inl 100, .inl 100]),
  (0, [.inl 0]),
  (0, [.inl 2, .inl 2, .inl 100, .inl 100, .inl 2, .inl 100, .inl 100]),
  (0, [.inl 0]),
  (0, [.inl 2, .inl 2, .inl 2, .inl 100, .inl 100, .inl 2, .inl 100, .inl 100, .inl 2, .inl 2, .inl 100, .inl 100, .inl 2, .inl 100, .inl 100]),
  (0, [.inl 0]),
  (0, [.inl 2, .inl 2, .inl 2, .inl 2, .inl 100, .inl 100, .inl 2, .inl 100, .inl 100, .inl 2, .inl 2, .inl 100, .inl 100, .inl 2, .inl 100, .inl 100, .inl 2, .inl 2, .inl 100, .inl 100, .inl 2, .inl 100, .inl 100]),
  (0, [.inl 0]),
  (0, [.inl 1, .inl 2, .inl 2, .inl 2, .inl 2, .inl 100, .inl 100, .inl 2, .inl 100, .inl 100, .inl 2, .inl 2, .inl 100, .inl 100, .inl 2, .inl 100, .inl 100, .inl 2, .inl 2, .inl 100, .inl 100, .inl 2, .inl 100, .inl 100])]
def ga11 : List MC := [(0, [.inl 2, .inl 0, .inl 0]),
  (0, [.inl 100]),
  (0, [.inl 2, .inl 0, .inl 0]),
  (0, [.inl 2, .inl 0, .inl 0]),
  (0, [.inl 100]),
  (0, [.inl 2, .inl 0, .inl 0]),
  (0, [.inl 2, .inl 0, .inl 0]),
  (0, [.inl 2, .inl 100, .inl 100]),
  (0, [.inl 2, .inl 0, .inl 0]),
  (0, [.inl 100]),
  (0, [.inl 2, .inl 0, .inl 0]),
  (0, [.inl 2, .inl 0, .inl 0]),
  (0, [.inl 100]),
  (0, [.inl 2, .inl 0, .inl 0]),
  (0, [.inl 2, .inl 0, .inl 0]),
  (0, [.inl 2, .inl 100, .inl 100]),
  (0, [.inl 2, .inl 0, .inl 0]),
  (0, [.inl 2, .inl 2, .inl 100, .inl 100, .inl 2, .inl 100, .inl 100]),
  (0, [.inl 2, .inl 0, .inl 0]),
  (0, [.inl 100]),
  (0, [.inl 2, .inl 0, .inl 0]),
  (0, [.inl 2, .inl 0, .inl 0]),
  (0, [.inl 100]),
  (0, [.inl 2, .inl 0, .inl 0]),
  (0, [.inl 2, .inl 0, .inl 0]),
  (0, [.inl 2, .inl 100, .inl 100]),
  (0, [.inl 2, .inl 0, .inl 0]),
  (0, [.inl 100]),
  (0, [.inl 2, .inl 0, .inl 0]),
  (0, [.inl 2, .inl 0, .inl 0]),
  (0, [.inl 100]),
  (0, [.inl 2, .inl 0, .inl 0]),
  (0, [.inl 2, .inl 0, .inl 0]),
  (0, [.inl 2, .inl 100, .inl 100]),
  (0, [.inl 2, .inl 0, .inl 0]),
  (0, [.inl 2, .inl 2, .inl 100, .inl 100, .inl 2, .inl 100, .inl 100]),
  (0, [.inl 2, .inl 0, .inl 0]),
  (0, [.inl 100]),
  (0, [.inl 2, .inl 0, .inl 0]),
  (0, [.inl 2, .inl 0, .inl 0]),
  (0, [.inl 100]),
  (0, [.inl 2, .inl 0, .inl 0]),
  (0, [.inl 2, .inl 0, .inl 0]),
  (0, [.inl 2, .inl 100, .inl 100]),
  (0, [.inl 2, .inl 0, .inl 0]),
  (0, [.inl 100]),
  (0, [.inl 2, .inl 0, .inl 0]),
  (0, [.inl 2, .inl 0, .inl 0]),
  (0, [.inl 100]),
  (0, [.inl 2, .inl 0, .inl 0]),
  (0, [.inl 2, .inl 0, .inl 0]),
  (0, [.inl 2, .inl 100, .inl 100]),
  (0, [.inl 2, .inl 0, .inl 0]),
  (0, [.inl 2, .inl 2, .inl 100, .inl 100, .inl 2, .inl 100, .inl 100]),
  (0, [.inl 2, .inl 0, .inl 0]),
  (0, [.inl 2, .inl 2, .inl 2, .inl 100, .inl 100, .inl 2, .inl 100, .inl 100, .inl 2, .inl 2, .inl 100, .inl 100, .inl 2, .inl 100, .inl 100]),
  (0, [.inl 2, .inl 0, .inl 0]),
  (0, [.inl 2, .inl 2, .inl 2, .inl 2, .inl 100, .inl 100, .inl 2, .inl 100, .inl 100, .inl 2, .inl 2, .inl 100, .inl 100, .inl 2, .inl 100, .inl 100, .inl 2, .inl 2, .inl 100, .inl 100, .inl 2, .inl 100, .inl 100]),
  (0, [.inl 2, .inl 0, .inl 0]),
  (0, [.inl 1, .inl 2, .inl 2, .inl 2, .inl 2, .inl 100, .inl 100, .inl 2, .inl 100, .inl 100, .inl 2, .inl 2, .inl 100, .inl 100, .inl 2, .inl 100, .inl 100, .inl 2, .inl 2, .inl 100, .inl 100, .inl 2, .inl 100, .inl 100])]
def ga10 : List MC := [(0, [.inl 2, .inl 2, .inl 0, .inl 0, .inl 2, .inl 0, .inl 0]),
  (0, [.inl 100]),
  (0, [.inl 2, .inl 2, .inl 0, .inl 0, .inl 2, .inl 0, .inl 0]),
  (0, [.inl 2, .inl 2, .inl 0, .inl 0, .inl 2, .inl 0, .inl 0]),
  (0, [.inl 100]),
  (0, [.inl 2, .inl 2, .inl 0, .inl 0, .inl 2, .inl 0, .inl 0]),
  (0, [.inl 2, .inl 2, .inl 0, .inl 0, .inl 2, .inl 0, .inl 0]),
  (0, [.inl 2, .inl 100, .inl 100]),
  (0, [.inl 2, .inl 2, .inl 0, .inl 0, .inl 2, .inl 0, .inl 0]),
  (0, [.inl 100]),
  (0, [.inl 2, .inl 2, .inl 0, .inl 0, .inl 2, .inl 0, .inl 0]),
  (0, [.inl 2, .inl 2, .inl 0, .inl 0, .inl 2, .inl 0, .inl 0]),
  (0, [.inl 100]),
  (0, [.inl 2, .inl 2, .inl 0, .inl 0, .inl 2, .inl 0, .inl 0]),
  (0, [.inl 2, .inl 2, .inl 0, .inl 0, .inl 2, .inl 0, .inl 0]),
  (0, [.inl 2, .inl 100, .inl 100]),
  (0, [.inl 2, .inl 2, .inl 0, .inl 0, .inl 2, .inl 0, .inl 0]),
  (0, [.inl 2, .inl 2, .inl 100, .inl 100, .inl 2, .inl 100, .inl 100]),
  (0, [.inl 2, .inl 2, .inl 0, .inl 0, .inl 2, .inl 0, .inl 0]),
  (0, [.inl 100]),
  (0, [.inl 2, .inl 2, .inl 0, .inl 0, .inl 2, .inl 0, .inl 0]),
  (0, [.inl 2, .inl 2, .inl 0, .inl 0, .inl 2, .inl 0, .inl 0]),
  (0, [.inl 100]),
  (0, [.inl 2, .inl 2, .inl 0, .inl 0, .inl 2, .inl 0, .inl 0]),
  (0, [.inl 2, .inl 2, .inl 0, .inl 0, .inl 2, .inl 0, .inl 0]),
  (0, [.inl 2, .inl 100, .inl 100]),
  (0, [.inl 2, .inl 2, .inl 0, .inl 0, .inl 2, .inl 0, .inl 0]),
  (0, [.inl 100]),
  (0, [.inl 2, .inl 2, .inl 0, .inl 0, .inl 2, .inl 0, .inl 0]),
  (0, [.inl 2, .inl 2, .inl 0, .inl 0, .inl 2, .inl 0, .inl 0]),
  (0, [.inl 100]),
  (0, [.inl 2, .inl 2, .inl 0, .inl 0, .inl 2, .inl 0, .inl 0]),
  (0, [.inl 2, .inl 2, .inl 0, .inl 0, .inl 2, .inl 0, .inl 0]),
  (0, [.inl 2, .inl 100, .inl 100]),
  (0, [.inl 2, .inl 2, .inl 0, .inl 0, .inl 2, .inl 0, .inl 0]),
  (0, [.inl 2, .inl 2, .inl 100, .inl 100, .inl 2, .inl 100, .inl 100]),
  (0, [.inl 2, .inl 2, .inl 0, .inl 0, .inl 2, .inl 0, .inl 0]),
  (0, [.inl 100]),
  (0, [.inl 2, .inl 2, .inl 0, .inl 0, .inl 2, .inl 0, .inl 0]),
  (0, [.inl 2, .inl 2, .inl 0, .inl 0, .inl 2, .inl 0, .inl 0]),
  (0, [.inl 100]),
  (0, [.inl 2, .inl 2, .inl 0, .inl 0, .inl 2, .inl 0, .inl 0]),
  (0, [.inl 2, .inl 2, .inl 0, .inl 0, .inl 2, .inl 0, .inl 0]),
  (0, [.inl 2, .inl 100, .inl 100]),
  (0, [.inl 2, .inl 2, .inl 0, .inl 0, .inl 2, .inl 0, .inl 0]),
  (0, [.inl 100]),
  (0, [.inl 2, .inl 2, .inl 0, .inl 0, .inl 2, .inl 0, .inl 0]),
  (0, [.inl 2, .inl 2, .inl 0, .inl 0, .inl 2, .inl 0, .inl 0]),
  (0, [.inl 100]),
  (0, [.inl 2, .inl 2, .inl 0, .inl 0, .inl 2, .inl 0, .inl 0]),
  (0, [.inl 2, .inl 2, .inl 0, .inl 0, .inl 2, .inl 0, .inl 0]),
  (0, [.inl 2, .inl 100, .inl 100]),
  (0, [.inl 2, .inl 2, .inl 0, .inl 0, .inl 2, .inl 0, .inl 0]),
  (0, [.inl 2, .inl 2, .inl 100, .inl 100, .inl 2, .inl 100, .inl 100]),
  (0, [.inl 2, .inl 2, .inl 0, .inl 0, .inl 2, .inl 0, .inl 0]),
  (0, [.inl 2, .inl 2, .inl 2, .inl 100, .inl 100, .inl 2, .inl 100, .inl 100, .inl 2, .inl 2, .inl 100, .inl 100, .inl 2, .inl 100, .inl 100]),
  (0, [.inl 2, .inl 2, .inl 0, .inl 0, .inl 2, .inl 0, .inl 0]),
  (0, [.inl 2, .inl 2, .inl 2, .inl 2, .inl 100, .inl 100, .inl 2, .inl 100, .inl 100, .inl 2, .inl 2, .inl 100, .inl 100, .inl 2, .inl 100, .inl 100, .inl 2, .inl 2, .inl 100, .inl 100, .inl 2, .inl 100, .inl 100]),
  (0, [.inl 2, .inl 2, .inl 0, .inl 0, .inl 2, .inl 0, .inl 0]),
  (0, [.inl 1, .inl 2, .inl 2, .inl 2, .inl 2, .inl 100, .inl 100, .inl 2, .inl 100, .inl 100, .inl 2, .inl 2, .inl 100, .inl 100, .inl 2, .inl 100, .inl 100, .inl 2, .inl 2, .inl 100, .inl 100, .inl 2, .inl 100, .inl 100])]
def ga9 : List MC := [(0, [.inl 0]),
  (0, [.inl 100]),
  (0, [.inl 0]),
  (0, [.inl 0]),
  (0, [.inl 100]),
  (0, [.inl 0]),
  (0, [.inl 0]),
  (0, [.inl 2, .inl 100, .inl 100]),
  (0, [.inl 0]),
  (0, [.inl 100]),
  (0, [.inl 0]),
  (0, [.inl 0]),
  (0, [.inl 100]),
  (0, [.inl 0]),
  (0, [.inl 0]),
  (0, [.inl 2, .inl 100, .inl 100]),
  (0, [.inl 0]),
  (0, [.inl 2, .inl 2, .inl 100, .inl 100, .inl 2, .inl 100, .inl 100]),
  (0, [.inl 0]),
  (0, [.inl 100]),
  (0, [.inl 0]),
  (0, [.inl 0]),
  (0, [.inl 100]),
  (0, [.inl 0]),
  (0, [.inl 0]),
  (0, [.inl 2, .inl 100, .inl 100]),
  (0, [.inl 0]),
  (0, [.inl 100]),
  (0, [.inl 0]),
  (0, [.inl 0]),
  (0, [.inl 100]),
  (0, [.inl 0]),
  (0, [.inl 0]),
  (0, [.inl 2, .inl 100, .inl 100]),
  (0, [.inl 0]),
  (0, [.inl 2, .inl 2, .inl 100, .inl 100, .inl 2, .inl 100, .inl 100]),
  (0, [.inl 0]),
  (0, [.inl 100]),
  (0, [.inl 0]),
  (0, [.inl 0]),
  (0, [.inl 100]),
  (0, [.inl 0]),
  (0, [.inl 0]),
  (0, [.inl 2, .inl 100, .inl 100]),
  (0, [.inl 0]),
  (0, [.inl 100]),
  (0, [.inl 0]),
  (0, [.inl 0]),
  (0, [.inl 100]),
  (0, [.inl 0]),
  (0, [.inl 0]),
  (0, [.inl 2, .inl 100, .inl 100]),
  (0, [.inl 0]),
  (0, [.inl 2, .inl 2, .inl 100, .inl 100, .inl 2, .inl 100, .inl 100]),
  (0, [.inl 0]),
  (0, [.inl 2, .inl 2, .inl 2, .inl 100, .inl 100, .inl 2, .inl 100, .inl 100, .inl 2, .inl 2, .inl 100, .inl 100, .inl 2, .inl 100, .inl 100]),
  (0, [.inl 0]),
  (0, [.inl 2, .inl 2, .inl 2, .inl 2, .inl 100, .inl 100, .inl 2, .inl 100, .inl 100, .inl 2, .inl 2, .inl 100, .inl 100, .inl 2, .inl 100, .inl 100, .inl 2, .inl 2, .inl 100, .inl 100, .inl 2, .inl 100, .inl 100]),
  (0, [.inl 0]),
  (0, [.inl 1, .inl 2, .inl 2, .inl 2, .inl 2, .inl 100, .inl 100, .inl 2, .inl 100, .inl 100, .inl 2, .inl 2, .inl 100, .inl 100, .inl 2, .inl 100, .inl 100, .inl 2, .inl 2, .inl 100, .inl 100, .inl 2, .inl 100, .inl 100])]
def ga8 : List MC := [(0, [.inl 0]),
  (0, [.inl 100]),
  (0, [.inl 0]),
  (0, [.inl 0]),
  (0, [.inl 100]),
  (0, [.inl 0]),
  (0, [.inl 0]),
  (0, [.inl 2, .inl 100, .inl 100]),
  (0, [.inl 0]),
  (0, [.inl 100]),
  (0, [.inl 0]),
  (0, [.inl 0]),
  (0, [.inl 100]),
  (0, [.inl 0]),
  (0, [.inl 0]),
  (0, [.inl 2, .inl 100, .inl 100]),
  (0, [.inl 0]),
  (0, [.inl 2, .inl 2, .inl 100, .inl 100, .inl 2, .inl 100, .inl 100]),
  (0, [.inl 0]),
  (0, [.inl 100]),
  (0, [.inl 0]),
  (0, [.inl 0]),
  (0, [.inl 100]),
  (0, [.inl 0]),
  (0, [.inl 0]),
  (0, [.inl 2, .inl 100, .inl 100]),
  (0, [.inl 0]),
  (0, [.inl 100]),
  (0, [.inl 0]),
  (0, [.inl 0]),
  (0, [.inl 100]),
  (0, [.inl 0]),
  (0, [.inl 0]),
  (0, [.inl 2, .inl 100, .inl 100]),
  (0, [.inl 0]),
  (0, [.inl 2, .inl 2, .inl 100, .inl 100, .inl 2, .inl 100, .inl 100]),
  (0, [.inl 0]),
  (0, [.inl 100]),
  (0, [.inl 0]),
  (0, [.inl 0]),
  (0, [.inl 100]),
  (0, [.inl 0]),
  (0, [.inl 0]),
  (0, [.inl 2, .inl 100, .inl 100]),
  (0, [.inl 0]),
  (0, [.inl 100]),
  (0, [.inl 0]),
  (0, [.inl 0]),
  (0, [.inl 100]),
  (0, [.inl 0]),
  (0, [.inl 0]),
  (0, [.inl 2, .inl 100, .inl 100]),
  (0, [.inl 0]),
  (0, [.inl 2, .inl 2, .inl 100, .inl 100, .inl 2, .inl 100, .inl 100]),
  (0, [.inl 0]),
  (0, [.inl 2, .inl 2, .inl 2, .inl 100, .inl 100, .inl 2, .inl 100, .inl 100, .inl 2, .inl 2, .inl 100, .inl 100, .inl 2, .inl 100, .inl 100]),
  (0, [.inl 0]),
  (0, [.inl 2, .inl 2, .inl 2, .inl 2, .inl 100, .inl 100, .inl 2, .inl 100, .inl 100, .inl 2, .inl 2, .inl 100, .inl 100, .inl 2, .inl 100, .inl 100, .inl 2, .inl 2, .inl 100, .inl 100, .inl 2, .inl 100, .inl 100]),
  (0, [.inl 0]),
  (0, [.inl 1, .inl 2, .inl 2, .inl 2, .inl 2, .inl 100, .inl 100, .inl 2, .inl 100, .inl 100, .inl 2, .inl 2, .inl 100, .inl 100, .inl 2, .inl 100, .inl 100, .inl 2, .inl 2, .inl 100, .inl 100, .inl 2, .inl 100, .inl 100])]
def ga7 : List MC := [(0, [.inl 2, .inl 0, .inl 0]),
  (0, [.inl 100]),
  (0, [.inl 2, .inl 0, .inl 0]),
  (0, [.inl 2, .inl 0, .inl 0]),
  (0, [.inl 100]),
  (0, [.inl 2, .inl 0, .inl 0]),
  (0, [.inl 2, .inl 0, .inl 0]),
  (0, [.inl 2, .inl 100, .inl 100]),
  (0, [.inl 2, .inl 0, .inl 0]),
  (0, [.inl 100]),
  (0, [.inl 2, .inl 0, .inl 0]),
  (0, [.inl 2, .inl 0, .inl 0]),
  (0, [.inl 100]),
  (0, [.inl 2, .inl 0, .inl 0]),
  (0, [.inl 2, .inl 0, .inl 0]),
  (0, [.inl 2, .inl 100, .inl 100]),
  (0, [.inl 2, .inl 0, .inl 0]),
  (0, [.inl 2, .inl 2, .inl 100, .inl 100, .inl 2, .inl 100, .inl 100]),
  (0, [.inl 2, .inl 0, .inl 0]),
  (0, [.inl 100]),
  (0, [.inl 2, .inl 0, .inl 0]),
  (0, [.inl 2, .inl 0, .inl 0]),
  (0, [.inl 100]),
  (0, [.inl 2, .inl 0, .inl 0]),
  (0, [.inl 2, .inl 0, .inl 0]),
  (0, [.inl 2, .inl 100, .inl 100]),
  (0, [.inl 2, .inl 0, .inl 0]),
  (0, [.inl 100]),
  (0, [.inl 2, .inl 0, .inl 0]),
  (0, [.inl 2, .inl 0, .inl 0]),
  (0, [.inl 100]),
  (0, [.inl 2, .inl 0, .inl 0]),
  (0, [.inl 2, .inl 0, .inl 0]),
  (0, [.inl 2, .inl 100, .inl 100]),
  (0, [.inl 2, .inl 0, .inl 0]),
  (0, [.inl 2, .inl 2, .inl 100, .inl 100, .inl 2, .inl 100, .inl 100]),
  (0, [.inl 2, .inl 0, .inl 0]),
  (0, [.inl 100]),
  (0, [.inl 2, .inl 0, .inl 0]),
  (0, [.inl 2, .inl 0, .inl 0]),
  (0, [.inl 100]),
  (0, [.inl 2, .inl 0, .inl 0]),
  (0, [.inl 2, .inl 0, .inl 0]),
  (0, [.inl 2, .inl 100, .inl 100]),
  (0, [.inl 2, .inl 0, .inl 0]),
  (0, [.inl 100]),
  (0, [.inl 2, .inl 0, .inl 0]),
  (0, [.inl 2, .inl 0, .inl 0]),
  (0, [.inl 100]),
  (0, [.inl 2, .inl 0, .inl 0]),
  (0, [.inl 2, .inl 0, .inl 0]),
  (0, [.inl 2, .inl 100, .inl 100]),
  (0, [.inl 2, .inl 0, .inl 0]),
  (0, [.inl 2, .inl 2, .inl 100, .inl 100, .inl 2, .inl 100, .inl 100]),
  (0, [.inl 2, .inl 0, .inl 0]),
  (0, [.inl 2, .inl 2, .inl 2, .inl 100, .inl 100, .inl 2, .inl 100, .inl 100, .inl 2, .inl 2, .inl 100, .inl 100, .inl 2, .inl 100, .inl 100]),
  (0, [.inl 2, .inl 0, .inl 0]),
  (0, [.inl 2, .inl 2, .inl 2, .inl 2, .inl 100, .inl 100, .inl 2, .inl 100, .inl 100, .inl 2, .inl 2, .inl 100, .inl 100, .inl 2, .inl 100, .inl 100, .inl 2, .inl 2, .inl 100, .inl 100, .inl 2, .inl 100, .inl 100]),
  (0, [.inl 2, .inl 0, .inl 0]),
  (0, [.inl 1, .inl 2, .inl 2, .inl 2, .inl 2, .inl 100, .inl 100, .inl 2, .inl 100, .inl 100, .inl 2, .inl 2, .inl 100, .inl 100, .inl 2, .inl 100, .inl 100, .inl 2, .inl 2, .inl 100, .inl 100, .inl 2, .inl 100, .inl 100])]
def ga6 : List MC := [(0, [.inl 0]),
  (0, [.inl 100]),
  (0, [.inl 0]),
  (0, [.inl 0]),
  (0, [.inl 100]),
  (0, [.inl 0]),
  (0, [.inl 0]),
  (0, [.inl 2, .inl 100, .inl 100]),
  (0, [.inl 0]),
  (0, [.inl 100]),
  (0, [.inl 0]),
  (0, [.inl 0]),
  (0, [.inl 100]),
  (0, [.inl 0]),
  (0, [.inl 0]),
  (0, [.inl 2, .inl 100, .inl 100]),
  (0, [.inl 0]),
  (0, [.inl 2, .inl 2, .inl 100, .inl 100, .inl 2, .inl 100, .inl 100]),
  (0, [.inl 0]),
  (0, [.inl 100]),
  (0, [.inl 0]),
  (0, [.inl 0]),
  (0, [.inl 100]),
  (0, [.inl 0]),
  (0, [.inl 0]),
  (0, [.inl 2, .inl 100, .inl 100]),
  (0, [.inl 0]),
  (0, [.inl 100]),
  (0, [.inl 0]),
  (0, [.inl 0]),
  (0, [.inl 100]),
  (0, [.inl 0]),
  (0, [.inl 0]),
  (0, [.inl 2, .inl 100, .inl 100]),
  (0, [.inl 0]),
  (0, [.inl 2, .inl 2, .inl 100, .inl 100, .inl 2, .inl 100, .inl 100]),
  (0, [.inl 0]),
  (0, [.inl 100]),
  (0, [.inl 0]),
  (0, [.inl 0]),
  (0, [.inl 100]),
  (0, [.inl 0]),
  (0, [.inl 0]),
  (0, [.inl 2, .inl 100, .inl 100]),
  (0, [.inl 0]),
  (0, [.inl 100]),
  (0, [.inl 0]),
  (0, [.inl 0]),
  (0, [.inl 100]),
  (0, [.inl 0]),
  (0, [.inl 0]),
  (0, [.inl 2, .inl 100, .inl 100]),
  (0, [.inl 0]),
  (0, [.inl 2, .inl 2, .inl 100, .inl 100, .inl 2, .inl 100, .inl 100]),
  (0, [.inl 0]),
  (0, [.inl 2, .inl 2, .inl 2, .inl 100, .inl 100, .inl 2, .inl 100, .inl 100, .inl 2, .inl 2, .inl 100, .inl 100, .inl 2, .inl 100, .inl 100]),
  (0, [.inl 0]),
  (0, [.inl 2, .inl 2, .inl 2, .inl 2, .inl 100, .inl 100, .inl 2, .inl 100, .inl 100, .inl 2, .inl 2, .inl 100, .inl 100, .inl 2, .inl 100, .inl 100, .inl 2, .inl 2, .inl 100, .inl 100, .inl 2, .inl 100, .inl 100]),
  (0, [.inl 0]),
  (0, [.inl 1, .inl 2, .inl 2, .inl 2, .inl 2, .inl 100, .inl 100, .inl 2, .inl 100, .inl 100, .inl 2, .inl 2, .inl 100, .inl 100, .inl 2, .inl 100, .inl 100, .inl 2, .inl 2, .inl 100, .inl 100, .inl 2, .inl 100, .inl 100])]
def ga5 : List MC := [(0, [.inl 0]),
  (0, [.inl 100]),
  (0, [.inl 0]),
  (0, [.inl 0]),
  (0, [.inl 100]),
  (0, [.inl 0]),
  (0, [.inl 0]),
  (0, [.inl 2, .inl 100, .inl 100]),
  (0, [.inl 0]),
  (0, [.inl 100]),
  (0, [.inl 0]),
  (0, [.inl 0]),
  (0, [.inl 100]),
  (0, [.inl 0]),
  (0, [.inl 0]),
  (0, [.inl 2, .inl 100, .inl 100]),
  (0, [.inl 0]),
  (0, [.inl 2, .inl 2, .inl 100, .inl 100, .inl 2, .inl 100, .inl 100]),
  (0, [.inl 0]),
  (0, [.inl 100]),
  (0, [.inl 0]),
  (0, [.inl 0]),
  (0, [.inl 100]),
  (0, [.inl 0]),
  (0, [.inl 0]),
  (0, [.inl 2, .inl 100, .inl 100]),
  (0, [.inl 0]),
  (0, [.inl 100]),
  (0, [.inl 0]),
  (0, [.inl 0]),
  (0, [.inl 100]),
  (0, [.inl 0]),
  (0, [.inl 0]),
  (0, [.inl 2, .inl 100, .inl 100]),
  (0, [.inl 0]),
  (0, [.inl 2, .inl 2, .inl 100, .inl 100, .inl 2, .inl 100, .inl 100]),
  (0, [.inl 0]),
  (0, [.inl 100]),
  (0, [.inl 0]),
  (0, [.inl 0]),
  (0, [.inl 100]),
  (0, [.inl 0]),
  (0, [.inl 0]),
  (0, [.inl 2, .inl 100, .inl 100]),
  (0, [.inl 0]),
  (0, [.inl 100]),
  (0, [.inl 0]),
  (0, [.inl 0]),
  (0, [.inl 100]),
  (0, [.inl 0]),
  (0, [.inl 0]),
  (0, [.inl 2, .inl 100, .inl 100]),
  (0, [.inl 0]),
  (0, [.inl 2, .inl 2, .inl 100, .inl 100, .inl 2, .inl 100, .inl 100]),
  (0, [.inl 0]),
  (0, [.inl 2, .inl 2, .inl 2, .inl 100, .inl 100, .inl 2, .inl 100, .inl 100, .inl 2, .inl 2, .inl 100, .inl 100, .inl 2, .inl 100, .inl 100]),
  (0, [.inl 0]),
  (0, [.inl 2, .inl 2, .inl 2, .inl 2, .inl 100, .inl 100, .inl 2, .inl 100, .inl 100, .inl 2, .inl 2, .inl 100, .inl 100, .inl 2, .inl 100, .inl 100, .inl 2, .inl 2, .inl 100, .inl 100, .inl 2, .inl 100, .inl 100]),
  (0, [.inl 0]),
  (0, [.inl 1, .inl 2, .inl 2, .inl 2, .inl 2, .inl 100, .inl 100, .inl 2, .inl 100, .inl 100, .inl 2, .inl 2, .inl 100, .inl 100, .inl 2, .inl 100, .inl 100, .inl 2, .inl 2, .inl 100, .inl 100, .inl 2, .inl 100, .inl 100])]
def ga4 : List MC := [(0, [.inl 2, .inl 0, .inl 0]),
  (0, [.inl 100]),
  (0, [.inl 2, .inl 0, .inl 0]),
  (0, [.inl 2, .inl 0, .inl 0]),
  (0, [.inl 100]),
  (0, [.inl 2, .inl 0, .inl 0]),
  (0, [.inl 2, .inl 0, .inl 0]),
  (0, [.inl 2, .inl 100, .inl 100]),
  (0, [.inl 2, .inl 0, .inl 0]),
  (0, [.inl 100]),
  (0, [.inl 2, .inl 0, .inl 0]),
  (0, [.inl 2, .inl 0, .inl 0]),
  (0, [.inl 100]),
  (0, [.inl 2, .inl 0, .inl 0]),
  (0, [.inl 2, .inl 0, .inl 0]),
  (0, [.inl 2, .inl 100, .inl 100]),
  (0, [.inl 2, .inl 0, .inl 0]),
  (0, [.inl 2, .inl 2, .inl 100, .inl 100, .inl 2, .inl 100, .inl 100]),
  (0, [.inl 2, .inl 0, .inl 0]),
  (0, [.inl 100]),
  (0, [.inl 2, .inl 0, .inl 0]),
  (0, [.inl 2, .inl 0, .inl 0]),
  (0, [.inl 100]),
  (0, [.inl 2, .inl 0, .inl 0]),
  (0, [.inl 2, .inl 0, .inl 0]),
  (0, [.inl 2, .inl 100, .inl 100]),
  (0, [.inl 2, .inl 0, .inl 0]),
  (0, [.inl 100]),
  (0, [.inl 2, .inl 0, .inl 0]),
  (0, [.inl 2, .inl 0, .inl 0]),
  (0, [.inl 100]),
  (0, [.inl 2, .inl 0, .inl 0]),
  (0, [.inl 2, .inl 0, .inl 0]),
  (0, [.inl 2, .inl 100, .inl 100]),
  (0, [.inl 2, .inl 0, .inl 0]),
  (0, [.inl 2, .inl 2, .inl 100, .inl 100, .inl 2, .inl 100, .inl 100]),
  (0, [.inl 2, .inl 0, .inl 0]),
  (0, [.inl 100]),
  (0, [.inl 2, .inl 0, .inl 0]),
  (0, [.inl 2, .inl 0, .inl 0]),
  (0, [.inl 100]),
  (0, [.inl 2, .inl 0, .inl 0]),
  (0, [.inl 2, .inl 0, .inl 0]),
  (0, [.inl 2, .inl 100, .inl 100]),
  (0, [.inl 2, .inl 0, .inl 0]),
  (0, [.inl 100]),
  (0, [.inl 2, .inl 0, .inl 0]),
  (0, [.inl 2, .inl 0, .inl 0]),
  (0, [.inl 100]),
  (0, [.inl 2, .inl 0, .inl 0]),
  (0, [.inl 2, .inl 0, .inl 0]),
  (0, [.inl 2, .inl 100, .inl 100]),
  (0, [.inl 2, .inl 0, .inl 0]),
  (0, [.inl 2, .inl 2, .inl 100, .inl 100, .inl 2, .inl 100, .inl 100]),
  (0, [.inl 2, .inl 0, .inl 0]),
  (0, [.inl 2, .inl 2, .inl 2, .inl 100, .inl 100, .inl 2, .inl 100, .inl 100, .inl 2, .inl 2, .inl 100, .inl 100, .inl 2, .inl 100, .inl 100]),
  (0, [.inl 2, .inl 0, .inl 0]),
  (0, [.inl 2, .inl 2, .inl 2, .inl 2, .inl 100, .inl 100, .inl 2, .inl 100, .inl 100, .inl 2, .inl 2, .inl 100, .inl 100, .inl 2, .inl 100, .inl 100, .inl 2, .inl 2, .inl 100, .inl 100, .inl 2, .inl 100, .inl 100]),
  (0, [.inl 2, .inl 0, .inl 0]),
  (0, [.inl 1, .inl 2, .inl 2, .inl 2, .inl 2, .inl 100, .inl 100, .inl 2, .inl 100, .inl 100, .inl 2, .inl 2, .inl 100, .inl 100, .inl 2, .inl 100, .inl 100, .inl 2, .inl 2, .inl 100, .inl 100, .inl 2, .inl 100, .inl 100])]
def ga3 : List MC := [(0, [.inl 2, .inl 2, .inl 0, .inl 0, .inl 2, .inl 0, .inl 0]),
  (0, [.inl 100]),
  (0, [.inl 2, .inl 2, .inl 0, .inl 0, .inl 2, .inl 0, .inl 0]),
  (0, [.inl 2, .inl 2, .inl 0, .inl 0, .inl 2, .inl 0, .inl 0]),
  (0, [.inl 100]),
  (0, [.inl 2, .inl 2, .inl 0, .inl 0, .inl 2, .inl 0, .inl 0]),
  (0, [.inl 2, .inl 2, .inl 0, .inl 0, .inl 2, .inl 0, .inl 0]),
  (0, [.inl 2, .inl 100, .inl 100]),
  (0, [.inl 2, .inl 2, .inl 0, .inl 0, .inl 2, .inl 0, .inl 0]),
  (0, [.inl 100]),
  (0, [.inl 2, .inl 2, .inl 0, .inl 0, .inl 2, .inl 0, .inl 0]),
  (0, [.inl 2, .inl 2, .inl 0, .inl 0, .inl 2, .inl 0, .inl 0]),
  (0, [.inl 100]),
  (0, [.inl 2, .inl 2, .inl 0, .inl 0, .inl 2, .inl 0, .inl 0]),
  (0, [.inl 2, .inl 2, .inl 0, .inl 0, .inl 2, .inl 0, .inl 0]),
  (0, [.inl 2, .inl 100, .inl 100]),
  (0, [.inl 2, .inl 2, .inl 0, .inl 0, .inl 2, .inl 0, .inl 0]),
  (0, [.inl 2, .inl 2, .inl 100, .inl 100, .inl 2, .inl 100, .inl 100]),
  (0, [.inl 2, .inl 2, .inl 0, .inl 0, .inl 2, .inl 0, .inl 0]),
  (0, [.inl 100]),
  (0, [.inl 2, .inl 2, .inl 0, .inl 0, .inl 2, .inl 0, .inl 0]),
  (0, [.inl 2, .inl 2, .inl 0, .inl 0, .inl 2, .inl 0, .inl 0]),
  (0, [.inl 100]),
  (0, [.inl 2, .inl 2, .inl 0, .inl 0, .inl 2, .inl 0, .inl 0]),
  (0, [.inl 2, .inl 2, .inl 0, .inl 0, .inl 2, .inl 0, .inl 0]),
  (0, [.inl 2, .inl 100, .inl 100]),
  (0, [.inl 2, .inl 2, .inl 0, .inl 0, .inl 2, .inl 0, .inl 0]),
  (0, [.inl 100]),
  (0, [.inl 2, .inl 2, .inl 0, .inl 0, .inl 2, .inl 0, .inl 0]),
  (0, [.inl 2, .inl 2, .inl 0, .inl 0, .inl 2, .inl 0, .inl 0]),
  (0, [.inl 100]),
  (0, [.inl 2, .inl 2, .inl 0, .inl 0, .inl 2, .inl 0, .inl 0]),
  (0, [.inl 2, .inl 2, .inl 0, .inl 0, .inl 2, .inl 0, .inl 0]),
  (0, [.inl 2, .inl 100, .inl 100]),
  (0, [.inl 2, .inl 2, .inl 0, .inl 0, .inl 2, .inl 0, .inl 0]),
  (0, [.inl 2, .inl 2, .inl 100, .inl 100, .inl 2, .inl 100, .inl 100]),
  (0, [.inl 2, .inl 2, .inl 0, .inl 0, .inl 2, .inl 0, .inl 0]),
  (0, [.inl 100]),
  (0, [.inl 2, .inl 2, .inl 0, .inl 0, .inl 2, .inl 0, .inl 0]),
  (0, [.inl 2, .inl 2, .inl 0, .inl 0, .inl 2, .inl 0, .inl 0]),
  (0, [.inl 100]),
  (0, [.inl 2, .inl 2, .inl 0, .inl 0, .inl 2, .inl 0, .inl 0]),
  (0, [.inl 2, .inl 2, .inl 0, .inl 0, .inl 2, .inl 0, .inl 0]),
  (0, [.inl 2, .inl 100, .inl 100]),
  (0, [.inl 2, .inl 2, .inl 0, .inl 0, .inl 2, .inl 0, .inl 0]),
  (0, [.inl 100]),
  (0, [.inl 2, .inl 2, .inl 0, .inl 0, .inl 2, .inl 0, .inl 0]),
  (0, [.inl 2, .inl 2, .inl 0, .inl 0, .inl 2, .inl 0, .inl 0]),
  (0, [.inl 100]),
  (0, [.inl 2, .inl 2, .inl 0, .inl 0, .inl 2, .inl 0, .inl 0]),
  (0, [.inl 2, .inl 2, .inl 0, .inl 0, .inl 2, .inl 0, .inl 0]),
  (0, [.inl 2, .inl 100, .inl 100]),
  (0, [.inl 2, .inl 2, .inl 0, .inl 0, .inl 2, .inl 0, .inl 0]),
  (0, [.inl 2, .inl 2, .inl 100, .inl 100, .inl 2, .inl 100, .inl 100]),
  (0, [.inl 2, .inl 2, .inl 0, .inl 0, .inl 2, .inl 0, .inl 0]),
  (0, [.inl 2, .inl 2, .inl 2, .inl 100, .inl 100, .inl 2, .inl 100, .inl 100, .inl 2, .inl 2, .inl 100, .inl 100, .inl 2, .inl 100, .inl 100]),
  (0, [.inl 2, .inl 2, .inl 0, .inl 0, .inl 2, .inl 0, .inl 0]),
  (0, [.inl 2, .inl 2, .inl 2, .inl 2, .inl 100, .inl 100, .inl 2, .inl 100, .inl 100, .inl 2, .inl 2, .inl 100, .inl 100, .inl 2, .inl 100, .inl 100, .inl 2, .inl 2, .inl 100, .inl 100, .inl 2, .inl 100, .inl 100]),
  (0, [.inl 2, .inl 2, .inl 0, .inl 0, .inl 2, .inl 0, .inl 0]),
  (0, [.inl 1, .inl 2, .inl 2, .inl 2, .inl 2, .inl 100, .inl 100, .inl 2, .inl 100, .inl 100, .inl 2, .inl 2, .inl 100, .inl 100, .inl 2, .inl 100, .inl 100, .inl 2, .inl 2, .inl 100, .inl 100, .inl 2, .inl 100, .inl 100])]
def ga2 : List MC := [(0, [.inl 2, .inl 2, .inl 2, .inl 0, .inl 0, .inl 2, .inl 0, .inl 0, .inl 2, .inl 2, .inl 0, .inl 0, .inl 2, .inl 0, .inl 0]),
  (0, [.inl 100]),
  (0, [.inl 2, .inl 2, .inl 2, .inl 0, .inl 0, .inl 2, .inl 0, .inl 0, .inl 2, .inl 2, .inl 0, .inl 0, .inl 2, .inl 0, .inl 0]),
  (0, [.inl 2, .inl 2, .inl 2, .inl 0, .inl 0, .inl 2, .inl 0, .inl 0, .inl 2, .inl 2, .inl 0, .inl 0, .inl 2, .inl 0, .inl 0]),
  (0, [.inl 100]),
  (0, [.inl 2, .inl 2, .inl 2, .inl 0, .inl 0, .inl 2, .inl 0, .inl 0, .inl 2, .inl 2, .inl 0, .inl 0, .inl 2, .inl 0, .inl 0]),
  (0, [.inl 2, .inl 2, .inl 2, .inl 0, .inl 0, .inl 2, .inl 0, .inl 0, .inl 2, .inl 2, .inl 0, .inl 0, .inl 2, .inl 0, .inl 0]),
  (0, [.inl 2, .inl 100, .inl 100]),
  (0, [.inl 2, .inl 2, .inl 2, .inl 0, .inl 0, .inl 2, .inl 0, .inl 0, .inl 2, .inl 2, .inl 0, .inl 0, .inl 2, .inl 0, .inl 0]),
  (0, [.inl 100]),
  (0, [.inl 2, .inl 2, .inl 2, .inl 0, .inl 0, .inl 2, .inl 0, .inl 0, .inl 2, .inl 2, .inl 0, .inl 0, .inl 2, .inl 0, .inl 0]),
  (0, [.inl 2, .inl 2, .inl 2, .inl 0, .inl 0, .inl 2, .inl 0, .inl 0, .inl 2, .inl 2, .inl 0, .inl 0, .inl 2, .inl 0, .inl 0]),
  (0, [.inl 100]),
  (0, [.inl 2, .inl 2, .inl 2, .inl 0, .inl 0, .inl 2, .inl 0, .inl 0, .inl 2, .inl 2, .inl 0, .inl 0, .inl 2, .inl 0, .inl 0]),
  (0, [.inl 2, .inl 2, .inl 2, .inl 0, .inl 0, .inl 2, .inl 0, .inl 0, .inl 2, .inl 2, .inl 0, .inl 0, .inl 2, .inl 0, .inl 0]),
  (0, [.inl 2, .inl 100, .inl 100]),
  (0, [.inl 2, .inl 2, .inl 2, .inl 0, .inl 0, .inl 2, .inl 0, .inl 0, .inl 2, .inl 2, .inl 0, .inl 0, .inl 2, .inl 0, .inl 0]),
  (0, [.inl 2, .inl 2, .inl 100, .inl 100, .inl 2, .inl 100, .inl 100]),
  (0, [.inl 2, .inl 2, .inl 2, .inl 0, .inl 0, .inl 2, .inl 0, .inl 0, .inl 2, .inl 2, .inl 0, .inl 0, .inl 2, .inl 0, .inl 0]),
  (0, [.inl 100]),
  (0, [.inl 2, .inl 2, .inl 2, .inl 0, .inl 0, .inl 2, .inl 0, .inl 0, .inl 2, .inl 2, .inl 0, .inl 0, .inl 2, .inl 0, .inl 0]),
  (0, [.inl 2, .inl 2, .inl 2, .inl 0, .inl 0, .inl 2, .inl 0, .inl 0, .inl 2, .inl 2, .inl 0, .inl 0, .inl 2, .inl 0, .inl 0]),
  (0, [.inl 100]),
  (0, [.inl 2, .inl 2, .inl 2, .inl 0, .inl 0, .inl 2, .inl 0, .inl 0, .inl 2, .inl 2, .inl 0, .inl 0, .inl 2, .inl 0, .inl 0]),
  (0, [.inl 2, .inl 2, .inl 2, .inl 0, .inl 0, .inl 2, .inl 0, .inl 0, .inl 2, .inl 2, .inl 0, .inl 0, .inl 2, .inl 0, .inl 0]),
  (0, [.inl 2, .inl 100, .inl 100]),
  (0, [.inl 2, .inl 2, .inl 2, .inl 0, .inl 0, .inl 2, .inl 0, .inl 0, .inl 2, .inl 2, .inl 0, .inl 0, .inl 2, .inl 0, .inl 0]),
  (0, [.inl 100]),
  (0, [.inl 2, .inl 2, .inl 2, .inl 0, .inl 0, .inl 2, .inl 0, .inl 0, .inl 2, .inl 2, .inl 0, .inl 0, .inl 2, .inl 0, .inl 0]),
  (0, [.inl 2, .inl 2, .inl 2, .inl 0, .inl 0, .inl 2, .inl 0, .inl 0, .inl 2, .inl 2, .inl 0, .inl 0, .inl 2, .inl 0, .inl 0]),
  (0, [.inl 100]),
  (0, [.inl 2, .inl 2, .inl 2, .inl 0, .inl 0, .inl 2, .inl 0, .inl 0, .inl 2, .inl 2, .inl 0, .inl 0, .inl 2, .inl 0, .inl 0]),
  (0, [.inl 2, .inl 2, .inl 2, .inl 0, .inl 0, .inl 2, .inl 0, .inl 0, .inl 2, .inl 2, .inl 0, .inl 0, .inl 2, .inl 0, .inl 0]),
  (0, [.inl 2, .inl 100, .inl 100]),
  (0, [.inl 2, .inl 2, .inl 2, .inl 0, .inl 0, .inl 2, .inl 0, .inl 0, .inl 2, .inl 2, .inl 0, .inl 0, .inl 2, .inl 0, .inl 0]),
  (0, [.inl 2, .inl 2, .inl 100, .inl 100, .inl 2, .inl 100, .inl 100]),
  (0, [.inl 2, .inl 2, .inl 2, .inl 0, .inl 0, .inl 2, .inl 0, .inl 0, .inl 2, .inl 2, .inl 0, .inl 0, .inl 2, .inl 0, .inl 0]),
  (0, [.inl 100]),
  (0, [.inl 2, .inl 2, .inl 2, .inl 0, .inl 0, .inl 2, .inl 0, .inl 0, .inl 2, .inl 2, .inl 0, .inl 0, .inl 2, .inl 0, .inl 0]),
  (0, [.inl 2, .inl 2, .inl 2, .inl 0, .inl 0, .inl 2, .inl 0, .inl 0, .inl 2, .inl 2, .inl 0, .inl 0, .inl 2, .inl 0, .inl 0]),
  (0, [.inl 100]),
  (0, [.inl 2, .inl 2, .inl 2, .inl 0, .inl 0, .inl 2, .inl 0, .inl 0, .inl 2, .inl 2, .inl 0, .inl 0, .inl 2, .inl 0, .inl 0]),
  (0, [.inl 2, .inl 2, .inl 2, .inl 0, .inl 0, .inl 2, .inl 0, .inl 0, .inl 2, .inl 2, .inl 0, .inl 0, .inl 2, .inl 0, .inl 0]),
  (0, [.inl 2, .inl 100, .inl 100]),
  (0, [.inl 2, .inl 2, .inl 2, .inl 0, .inl 0, .inl 2, .inl 0, .inl 0, .inl 2, .inl 2, .inl 0, .inl 0, .inl 2, .inl 0, .inl 0]),
  (0, [.inl 100]),
  (0, [.inl 2, .inl 2, .inl 2, .inl 0, .inl 0, .inl 2, .inl 0, .inl 0, .inl 2, .inl 2, .inl 0, .inl 0, .inl 2, .inl 0, .inl 0]),
  (0, [.inl 2, .inl 2, .inl 2, .inl 0, .inl 0, .inl 2, .inl 0, .inl 0, .inl 2, .inl 2, .inl 0, .inl 0, .inl 2, .inl 0, .inl 0]),
  (0, [.inl 100]),
  (0, [.inl 2, .inl 2, .inl 2, .inl 0, .inl 0, .inl 2, .inl 0, .inl 0, .inl 2, .inl 2, .inl 0, .inl 0, .inl 2, .inl 0, .inl 0]),
  (0, [.inl 2, .inl 2, .inl 2, .inl 0, .inl 0, .inl 2, .inl 0, .inl 0, .inl 2, .inl 2, .inl 0, .inl 0, .inl 2, .inl 0, .inl 0]),
  (0, [.inl 2, .inl 100, .inl 100]),
  (0, [.inl 2, .inl 2, .inl 2, .inl 0, .inl 0, .inl 2, .inl 0, .inl 0, .inl 2, .inl 2, .inl 0, .inl 0, .inl 2, .inl 0, .inl 0]),
  (0, [.inl 2, .inl 2, .inl 100, .inl 100, .inl 2, .inl 100, .inl 100]),
  (0, [.inl 2, .inl 2, .inl 2, .inl 0, .inl 0, .inl 2, .inl 0, .inl 0, .inl 2, .inl 2, .inl 0, .inl 0, .inl 2, .inl 0, .inl 0]),
  (0, [.inl 2, .inl 2, .inl 2, .inl 100, .inl 100, .inl 2, .inl 100, .inl 100, .inl 2, .inl 2, .inl 100, .inl 100, .inl 2, .inl 100, .inl 100]),
  (0, [.inl 2, .inl 2, .inl 2, .inl 0, .inl 0, .inl 2, .inl 0, .inl 0, .inl 2, .inl 2, .inl 0, .inl 0, .inl 2, .inl 0, .inl 0]),
  (0, [.inl 2, .inl 2, .inl 2, .inl 2, .inl 100, .inl 100, .inl 2, .inl 100, .inl 100, .inl 2, .inl 2, .inl 100, .inl 100, .inl 2, .inl 100, .inl 100, .inl 2, .inl 2, .inl 100, .inl 100, .inl 2, .inl 100, .inl 100]),
  (0, [.inl 2, .inl 2, .inl 2, .inl 0, .inl 0, .inl 2, .inl 0, .inl 0, .inl 2, .inl 2, .inl 0, .inl 0, .inl 2, .inl 0, .inl 0]),
  (0, [.inl 1, .inl 2, .inl 2, .inl 2, .inl 2, .inl 100, .inl 100, .inl 2, .inl 100, .inl 100, .inl 2, .inl 2, .inl 100, .inl 100, .inl 2, .inl 100, .inl 100, .inl 2, .inl 2, .inl 100, .inl 100, .inl 2, .inl 100, .inl 100])]
def ga1 : List MC := [(0, [.inl 2, .inl 2, .inl 2, .inl 2, .inl 0, .inl 0, .inl 2, .inl 0, .inl 0, .inl 2, .inl 2, .inl 0, .inl 0, .inl 2, .inl 0, .inl 0, .inl 2, .inl 2, .inl 0, .inl 0, .inl 2, .inl 0, .inl 0]),
  (0, [.inl 100]),
  (0, [.inl 2, .inl 2, .inl 2, .inl 2, .inl 0, .inl 0, .inl 2, .inl 0, .inl 0, .inl 2, .inl 2, .inl 0, .inl 0, .inl 2, .inl 0, .inl 0, .inl 2, .inl 2, .inl 0, .inl 0, .inl 2, .inl 0, .inl 0]),
  (0, [.inl 2, .inl 2, .inl 2, .inl 2, .inl 0, .inl 0, .inl 2, .inl 0, .inl 0, .inl 2, .inl 2, .inl 0, .inl 0, .inl 2, .inl 0, .inl 0, .inl 2, .inl 2, .inl 0, .inl 0, .inl 2, .inl 0, .inl 0]),
  (0, [.inl 100]),
  (0, [.inl 2, .inl 2, .inl 2, .inl 2, .inl 0, .inl 0, .inl 2, .inl 0, .inl 0, .inl 2, .inl 2, .inl 0, .inl 0, .inl 2, .inl 0, .inl 0, .inl 2, .inl 2, .inl 0, .inl 0, .inl 2, .inl 0, .inl 0]),
  (0, [.inl 2, .inl 2, .inl 2, .inl 2, .inl 0, .inl 0, .inl 2, .inl 0, .inl 0, .inl 2, .inl 2, .inl 0, .inl 0, .inl 2, .inl 0, .inl 0, .inl 2, .inl 2, .inl 0, .inl 0, .inl 2, .inl 0, .inl 0]),
  (0, [.inl 2, .inl 100, .inl 100]),
  (0, [.inl 2, .inl 2, .inl 2, .inl 2, .inl 0, .inl 0, .inl 2, .inl 0, .inl 0, .inl 2, .inl 2, .inl 0, .inl 0, .inl 2, .inl 0, .inl 0, .inl 2, .inl 2, .inl 0, .inl 0, .inl 2, .inl 0, .inl 0]),
  (0, [.inl 100]),
  (0, [.inl 2, .inl 2, .inl 2, .inl 2, .inl 0, .inl 0, .inl 2, .inl 0, .inl 0, .inl 2, .inl 2, .inl 0, .inl 0, .inl 2, .inl 0, .inl 0, .inl 2, .inl 2, .inl 0, .inl 0, .inl 2, .inl 0, .inl 0]),
  (0, [.inl 2, .inl 2, .inl 2, .inl 2, .inl 0, .inl 0, .inl 2, .inl 0, .inl 0, .inl 2, .inl 2, .inl 0, .inl 0, .inl 2, .inl 0, .inl 0, .inl 2, .inl 2, .inl 0, .inl 0, .inl 2, .inl 0, .inl 0]),
  (0, [.inl 100]),
  (0, [.inl 2, .inl 2, .inl 2, .inl 2, .inl 0, .inl 0, .inl 2, .inl 0, .inl 0, .inl 2, .inl 2, .inl 0, .inl 0, .inl 2, .inl 0, .inl 0, .inl 2, .inl 2, .inl 0, .inl 0, .inl 2, .inl 0, .inl 0]),
  (0, [.inl 2, .inl 2, .inl 2, .inl 2, .inl 0, .inl 0, .inl 2, .inl 0, .inl 0, .inl 2, .inl 2, .inl 0, .inl 0, .inl 2, .inl 0, .inl 0, .inl 2, .inl 2, .inl 0, .inl 0, .inl 2, .inl 0, .inl 0]),
  (0, [.inl 2, .inl 100, .inl 100]),
  (0, [.inl 2, .inl 2, .inl 2, .inl 2, .inl 0, .inl 0, .inl 2, .inl 0, .inl 0, .inl 2, .inl 2, .inl 0, .inl 0, .inl 2, .inl 0, .inl 0, .inl 2, .inl 2, .inl 0, .inl 0, .inl 2, .inl 0, .inl 0]),
  (0, [.inl 2, .inl 2, .inl 100, .inl 100, .inl 2, .inl 100, .inl 100]),
  (0, [.inl 2, .inl 2, .inl 2, .inl 2, .inl 0, .inl 0, .inl 2, .inl 0, .inl 0, .inl 2, .inl 2, .inl 0, .inl 0, .inl 2, .inl 0, .inl 0, .inl 2, .inl 2, .inl 0, .inl 0, .inl 2, .inl 0, .inl 0]),
  (0, [.inl 100]),
  (0, [.inl 2, .inl 2, .inl 2, .inl 2, .inl 0, .inl 0, .inl 2, .inl 0, .inl 0, .inl 2, .inl 2, .inl 0, .inl 0, .inl 2, .inl 0, .inl 0, .inl 2, .inl 2, .inl 0, .inl 0, .inl 2, .inl 0, .inl 0]),
  (0, [.inl 2, .inl 2, .inl 2, .inl 2, .inl 0, .inl 0, .inl 2, .inl 0, .inl 0, .inl 2, .inl 2, .inl 0, .inl 0, .inl 2, .inl 0, .inl 0, .inl 2, .inl 2, .inl 0, .inl 0, .inl 2, .inl 0, .inl 0]),
  (0, [.inl 100]),
  (0, [.inl 2, .inl 2, .inl 2, .inl 2, .inl 0, .inl 0, .inl 2, .inl 0, .inl 0, .inl 2, .inl 2, .inl 0, .inl 0, .inl 2, .inl 0, .inl 0, .inl 2, .inl 2, .inl 0, .inl 0, .inl 2, .inl 0, .inl 0]),
  (0, [.inl 2, .inl 2, .inl 2, .inl 2, .inl 0, .inl 0, .inl 2, .inl 0, .inl 0, .inl 2, .inl 2, .inl 0, .inl 0, .inl 2, .inl 0, .inl 0, .inl 2, .inl 2, .inl 0, .inl 0, .inl 2, .inl 0, .inl 0]),
  (0, [.inl 2, .inl 100, .inl 100]),
  (0, [.inl 2, .inl 2, .inl 2, .inl 2, .inl 0, .inl 0, .inl 2, .inl 0, .inl 0, .inl 2, .inl 2, .inl 0, .inl 0, .inl 2, .inl 0, .inl 0, .inl 2, .inl 2, .inl 0, .inl 0, .inl 2, .inl 0, .inl 0]),
  (0, [.inl 100]),
  (0, [.inl 2, .inl 2, .inl 2, .inl 2, .inl 0, .inl 0, .inl 2, .inl 0, .inl 0, .inl 2, .inl 2, .inl 0, .inl 0, .inl 2, .inl 0, .inl 0, .inl 2, .inl 2, .inl 0, .inl 0, .inl 2, .inl 0, .inl 0]),
  (0, [.inl 2, .inl 2, .inl 2, .inl 2, .inl 0, .inl 0, .inl 2, .inl 0, .inl 0, .inl 2, .inl 2, .inl 0, .inl 0, .inl 2, .inl 0, .inl 0, .inl 2, .inl 2, .inl 0, .inl 0, .inl 2, .inl 0, .inl 0]),
  (0, [.inl 100]),
  (0, [.inl 2, .inl 2, .inl 2, .inl 2, .inl 0, .inl 0, .inl 2, .inl 0, .inl 0, .inl 2, .inl 2, .inl 0, .inl 0, .inl 2, .inl 0, .inl 0, .inl 2, .inl 2, .inl 0, .inl 0, .inl 2, .inl 0, .inl 0]),
  (0, [.inl 2, .inl 2, .inl 2, .inl 2, .inl 0, .inl 0, .inl 2, .inl 0, .inl 0, .inl 2, .inl 2, .inl 0, .inl 0, .inl 2, .inl 0, .inl 0, .inl 2, .inl 2, .inl 0, .inl 0, .inl 2, .inl 0, .inl 0]),
  (0, [.inl 2, .inl 100, .inl 100]),
  (0, [.inl 2, .inl 2, .inl 2, .inl 2, .inl 0, .inl 0, .inl 2, .inl 0, .inl 0, .inl 2, .inl 2, .inl 0, .inl 0, .inl 2, .inl 0, .inl 0, .inl 2, .inl 2, .inl 0, .inl 0, .inl 2, .inl 0, .inl 0]),
  (0, [.inl 2, .inl 2, .inl 100, .inl 100, .inl 2, .inl 100, .inl 100]),
  (0, [.inl 2, .inl 2, .inl 2, .inl 2, .inl 0, .inl 0, .inl 2, .inl 0, .inl 0, .inl 2, .inl 2, .inl 0, .inl 0, .inl 2, .inl 0, .inl 0, .inl 2, .inl 2, .inl 0, .inl 0, .inl 2, .inl 0, .inl 0]),
  (0, [.inl 100]),
  (0, [.inl 2, .inl 2, .inl 2, .inl 2, .inl 0, .inl 0, .inl 2, .inl 0, .inl 0, .inl 2, .inl 2, .inl 0, .inl 0, .inl 2, .inl 0, .inl 0, .inl 2, .inl 2, .inl 0, .inl 0, .inl 2, .inl 0, .inl 0]),
  (0, [.inl 2, .inl 2, .inl 2, .inl 2, .inl 0, .inl 0, .inl 2, .inl 0, .inl 0, .inl 2, .inl 2, .inl 0, .inl 0, .inl 2, .inl 0, .inl 0, .inl 2, .inl 2, .inl 0, .inl 0, .inl 2, .inl 0, .inl 0]),
  (0, [.inl 100]),
  (0, [.inl 2, .inl 2, .inl 2, .inl 2, .inl 0, .inl 0, .inl 2, .inl 0, .inl 0, .inl 2, .inl 2, .inl 0, .inl 0, .inl 2, .inl 0, .inl 0, .inl 2, .inl 2, .inl 0, .inl 0, .inl 2, .inl 0, .inl 0]),
  (0, [.inl 2, .inl 2, .inl 2, .inl 2, .inl 0, .inl 0, .inl 2, .inl 0, .inl 0, .inl 2, .inl 2, .inl 0, .inl 0, .inl 2, .inl 0, .inl 0, .inl 2, .inl 2, .inl 0, .inl 0, .inl 2, .inl 0, .inl 0]),
  (0, [.inl 2, .inl 100, .inl 100]),
  (0, [.inl 2, .inl 2, .inl 2, .inl 2, .inl 0, .inl 0, .inl 2, .inl 0, .inl 0, .inl 2, .inl 2, .inl 0, .inl 0, .inl 2, .inl 0, .inl 0, .inl 2, .inl 2, .inl 0, .inl 0, .inl 2, .inl 0, .inl 0]),
  (0, [.inl 100]),
  (0, [.inl 2, .inl 2, .inl 2, .inl 2, .inl 0, .inl 0, .inl 2, .inl 0, .inl 0, .inl 2, .inl 2, .inl 0, .inl 0, .inl 2, .inl 0, .inl 0, .inl 2, .inl 2, .inl 0, .inl 0, .inl 2, .inl 0, .inl 0]),
  (0, [.inl 2, .inl 2, .inl 2, .inl 2, .inl 0, .inl 0, .inl 2, .inl 0, .inl 0, .inl 2, .inl 2, .inl 0, .inl 0, .inl 2, .inl 0, .inl 0, .inl 2, .inl 2, .inl 0, .inl 0, .inl 2, .inl 0, .inl 0]),
  (0, [.inl 100]),
  (0, [.inl 2, .inl 2, .inl 2, .inl 2, .inl 0, .inl 0, .inl 2, .inl 0, .inl 0, .inl 2, .inl 2, .inl 0, .inl 0, .inl 2, .inl 0, .inl 0, .inl 2, .inl 2, .inl 0, .inl 0, .inl 2, .inl 0, .inl 0]),
  (0, [.inl 2, .inl 2, .inl 2, .inl 2, .inl 0, .inl 0, .inl 2, .inl 0, .inl 0, .inl 2, .inl 2, .inl 0, .inl 0, .inl 2, .inl 0, .inl 0, .inl 2, .inl 2, .inl 0, .inl 0, .inl 2, .inl 0, .inl 0]),
  (0, [.inl 2, .inl 100, .inl 100]),
  (0, [.inl 2, .inl 2, .inl 2, .inl 2, .inl 0, .inl 0, .inl 2, .inl 0, .inl 0, .inl 2, .inl 2, .inl 0, .inl 0, .inl 2, .inl 0, .inl 0, .inl 2, .inl 2, .inl 0, .inl 0, .inl 2, .inl 0, .inl 0]),
  (0, [.inl 2, .inl 2, .inl 100, .inl 100, .inl 2, .inl 100, .inl 100]),
  (0, [.inl 2, .inl 2, .inl 2, .inl 2, .inl 0, .inl 0, .inl 2, .inl 0, .inl 0, .inl 2, .inl 2, .inl 0, .inl 0, .inl 2, .inl 0, .inl 0, .inl 2, .inl 2, .inl 0, .inl 0, .inl 2, .inl 0, .inl 0]),
  (0, [.inl 2, .inl 2, .inl 2, .inl 100, .inl 100, .inl 2, .inl 100, .inl 100, .inl 2, .inl 2, .inl 100, .inl 100, .inl 2, .inl 100, .inl 100]),
  (0, [.inl 2, .inl 2, .inl 2, .inl 2, .inl 0, .inl 0, .inl 2, .inl 0, .inl 0, .inl 2, .inl 2, .inl 0, .inl 0, .inl 2, .inl 0, .inl 0, .inl 2, .inl 2, .inl 0, .inl 0, .inl 2, .inl 0, .inl 0]),
  (0, [.inl 2, .inl 2, .inl 2, .inl 2, .inl 100, .inl 100, .inl 2, .inl 100, .inl 100, .inl 2, .inl 2, .inl 100, .inl 100, .inl 2, .inl 100, .inl 100, .inl 2, .inl 2, .inl 100, .inl 100, .inl 2, .inl 100, .inl 100]),
  (0, [.inl 2, .inl 2, .inl 2, .inl 2, .inl 0, .inl 0, .inl 2, .inl 0, .inl 0, .inl 2, .inl 2, .inl 0, .inl 0, .inl 2, .inl 0, .inl 0, .inl 2, .inl 2, .inl 0, .inl 0, .inl 2, .inl 0, .inl 0]),
  (0, [.inl 1, .inl 2, .inl 2, .inl 2, .inl 2, .inl 100, .inl 100, .inl 2, .inl 100, .inl 100, .inl 2, .inl 2, .inl 100, .inl 100, .inl 2, .inl 100, .inl 100, .inl 2, .inl 2, .inl 100, .inl 100, .inl 2, .inl 100, .inl 100])]
def ga0 : List MC := [(0, [.inl 1, .inl 2, .inl 2, .inl 2, .inl 2, .inl 0, .inl 0, .inl 2, .inl 0, .inl 0, .inl 2, .inl 2, .inl 0, .inl 0, .inl 2, .inl 0, .inl 0, .inl 2, .inl 2, .inl 0, .inl 0, .inl 2, .inl 0, .inl 0]),
  (0, [.inl 100]),
  (0, [.inl 1, .inl 2, .inl 2, .inl 2, .inl 2, .inl 0, .inl 0, .inl 2, .inl 0, .inl 0, .inl 2, .inl 2, .inl 0, .inl 0, .inl 2, .inl 0, .inl 0, .inl 2, .inl 2, .inl 0, .inl 0, .inl 2, .inl 0, .inl 0]),
  (0, [.inl 1, .inl 2, .inl 2, .inl 2, .inl 2, .inl 0, .inl 0, .inl 2, .inl 0, .inl 0, .inl 2, .inl 2, .inl 0, .inl 0, .inl 2, .inl 0, .inl 0, .inl 2, .inl 2, .inl 0, .inl 0, .inl 2, .inl 0, .inl 0]),
  (0, [.inl 100]),
  (0, [.inl 1, .inl 2, .inl 2, .inl 2, .inl 2, .inl 0, .inl 0, .inl 2, .inl 0, .inl 0, .inl 2, .inl 2, .inl 0, .inl 0, .inl 2, .inl 0, .inl 0, .inl 2, .inl 2, .inl 0, .inl 0, .inl 2, .inl 0, .inl 0]),
  (0, [.inl 1, .inl 2, .inl 2, .inl 2, .inl 2, .inl 0, .inl 0, .inl 2, .inl 0, .inl 0, .inl 2, .inl 2, .inl 0, .inl 0, .inl 2, .inl 0, .inl 0, .inl 2, .inl 2, .inl 0, .inl 0, .inl 2, .inl 0, .inl 0]),
  (0, [.inl 2, .inl 100, .inl 100]),
  (0, [.inl 1, .inl 2, .inl 2, .inl 2, .inl 2, .inl 0, .inl 0, .inl 2, .inl 0, .inl 0, .inl 2, .inl 2, .inl 0, .inl 0, .inl 2, .inl 0, .inl 0, .inl 2, .inl 2, .inl 0, .inl 0, .inl 2, .inl 0, .inl 0]),
  (0, [.inl 100]),
  (0, [.inl 1, .inl 2, .inl 2, .inl 2, .inl 2, .inl 0, .inl 0, .inl 2, .inl 0, .inl 0, .inl 2, .inl 2, .inl 0, .inl 0, .inl 2, .inl 0, .inl 0, .inl 2, .inl 2, .inl 0, .inl 0, .inl 2, .inl 0, .inl 0]),
  (0, [.inl 1, .inl 2, .inl 2, .inl 2, .inl 2, .inl 0, .inl 0, .inl 2, .inl 0, .inl 0, .inl 2, .inl 2, .inl 0, .inl 0, .inl 2, .inl 0, .inl 0, .inl 2, .inl 2, .inl 0, .inl 0, .inl 2, .inl 0, .inl 0]),
  (0, [.inl 100]),
  (0, [.inl 1, .inl 2, .inl 2, .inl 2, .inl 2, .inl 0, .inl 0, .inl 2, .inl 0, .inl 0, .inl 2, .inl 2, .inl 0, .inl 0, .inl 2, .inl 0, .inl 0, .inl 2, .inl 2, .inl 0, .inl 0, .inl 2, .inl 0, .inl 0]),
  (0, [.inl 1, .inl 2, .inl 2, .inl 2, .inl 2, .inl 0, .inl 0, .inl 2, .inl 0, .inl 0, .inl 2, .inl 2, .inl 0, .inl 0, .inl 2, .inl 0, .inl 0, .inl 2, .inl 2, .inl 0, .inl 0, .inl 2, .inl 0, .inl 0]),
  (0, [.inl 2, .inl 100, .inl 100]),
  (0, [.inl 1, .inl 2, .inl 2, .inl 2, .inl 2, .inl 0, .inl 0, .inl 2, .inl 0, .inl 0, .inl 2, .inl 2, .inl 0, .inl 0, .inl 2, .inl 0, .inl 0, .inl 2, .inl 2, .inl 0, .inl 0, .inl 2, .inl 0, .inl 0]),
  (0, [.inl 2, .inl 2, .inl 100, .inl 100, .inl 2, .inl 100, .inl 100]),
  (0, [.inl 1, .inl 2, .inl 2, .inl 2, .inl 2, .inl 0, .inl 0, .inl 2, .inl 0, .inl 0, .inl 2, .inl 2, .inl 0, .inl 0, .inl 2, .inl 0, .inl 0, .inl 2, .inl 2, .inl 0, .inl 0, .inl 2, .inl 0, .inl 0]),
  (0, [.inl 100]),
  (0, [.inl 1, .inl 2, .inl 2, .inl 2, .inl 2, .inl 0, .inl 0, .inl 2, .inl 0, .inl 0, .inl 2, .inl 2, .inl 0, .inl 0, .inl 2, .inl 0, .inl 0, .inl 2, .inl 2, .inl 0, .inl 0, .inl 2, .inl 0, .inl 0]),
  (0, [.inl 1, .inl 2, .inl 2, .inl 2, .inl 2, .inl 0, .inl 0, .inl 2, .inl 0, .inl 0, .inl 2, .inl 2, .inl 0, .inl 0, .inl 2, .inl 0, .inl 0, .inl 2, .inl 2, .inl 0, .inl 0, .inl 2, .inl 0, .inl 0]),
  (0, [.inl 100]),
  (0, [.inl 1, .inl 2, .inl 2, .inl 2, .inl 2, .inl 0, .inl 0, .inl 2, .inl 0, .inl 0, .inl 2, .inl 2, .inl 0, .inl 0, .inl 2, .inl 0, .inl 0, .inl 2, .inl 2, .inl 0, .inl 0, .inl 2, .inl 0, .inl 0]),
  (0, [.inl 1, .inl 2, .inl 2, .inl 2, .inl 2, .inl 0, .inl 0, .inl 2, .inl 0, .inl 0, .inl 2, .inl 2, .inl 0, .inl 0, .inl 2, .inl 0, .inl 0, .inl 2, .inl 2, .inl 0, .inl 0, .inl 2, .inl 0, .inl 0]),
  (0, [.inl 2, .inl 100, .inl 100]),
  (0, [.inl 1, .inl 2, .inl 2, .inl 2, .inl 2, .inl 0, .inl 0, .inl 2, .inl 0, .inl 0, .inl 2, .inl 2, .inl 0, .inl 0, .inl 2, .inl 0, .inl 0, .inl 2, .inl 2, .inl 0, .inl 0, .inl 2, .inl 0, .inl 0]),
  (0, [.inl 100]),
  (0, [.inl 1, .inl 2, .inl 2, .inl 2, .inl 2, .inl 0, .inl 0, .inl 2, .inl 0, .inl 0, .inl 2, .inl 2, .inl 0, .inl 0, .inl 2, .inl 0, .inl 0, .inl 2, .inl 2, .inl 0, .inl 0, .inl 2, .inl 0, .inl 0]),
  (0, [.inl 1, .inl 2, .inl 2, .inl 2, .inl 2, .inl 0, .inl 0, .inl 2, .inl 0, .inl 0, .inl 2, .inl 2, .inl 0, .inl 0, .inl 2, .inl 0, .inl 0, .inl 2, .inl 2, .inl 0, .inl 0, .inl 2, .inl 0, .inl 0]),
  (0, [.inl 100]),
  (0, [.inl 1, .inl 2, .inl 2, .inl 2, .inl 2, .inl 0, .inl 0, .inl 2, .inl 0, .inl 0, .inl 2, .inl 2, .inl 0, .inl 0, .inl 2, .inl 0, .inl 0, .inl 2, .inl 2, .inl 0, .inl 0, .inl 2, .inl 0, .inl 0]),
  (0, [.inl 1, .inl 2, .inl 2, .inl 2, .inl 2, .inl 0, .inl 0, .inl 2, .inl 0, .inl 0, .inl 2, .inl 2, .inl 0, .inl 0, .inl 2, .inl 0, .inl 0, .inl 2, .inl 2, .inl 0, .inl 0, .inl 2, .inl 0, .inl 0]),
  (0, [.inl 2, .inl 100, .inl 100]),
  (0, [.inl 1, .inl 2, .inl 2, .inl 2, .inl 2, .inl 0, .inl 0, .inl 2, .inl 0, .inl 0, .inl 2, .inl 2, .inl 0, .inl 0, .inl 2, .inl 0, .inl 0, .inl 2, .inl 2, .inl 0, .inl 0, .inl 2, .inl 0, .inl 0]),
  (0, [.inl 2, .inl 2, .inl 100, .inl 100, .inl 2, .inl 100, .inl 100]),
  (0, [.inl 1, .inl 2, .inl 2, .inl 2, .inl 2, .inl 0, .inl 0, .inl 2, .inl 0, .inl 0, .inl 2, .inl 2, .inl 0, .inl 0, .inl 2, .inl 0, .inl 0, .inl 2, .inl 2, .inl 0, .inl 0, .inl 2, .inl 0, .inl 0]),
  (0, [.inl 100]),
  (0, [.inl 1, .inl 2, .inl 2, .inl 2, .inl 2, .inl 0, .inl 0, .inl 2, .inl 0, .inl 0, .inl 2, .inl 2, .inl 0, .inl 0, .inl 2, .inl 0, .inl 0, .inl 2, .inl 2, .inl 0, .inl 0, .inl 2, .inl 0, .inl 0]),
  (0, [.inl 1, .inl 2, .inl 2, .inl 2, .inl 2, .inl 0, .inl 0, .inl 2, .inl 0, .inl 0, .inl 2, .inl 2, .inl 0, .inl 0, .inl 2, .inl 0, .inl 0, .inl 2, .inl 2, .inl 0, .inl 0, .inl 2, .inl 0, .inl 0]),
  (0, [.inl 100]),
  (0, [.inl 1, .inl 2, .inl 2, .inl 2, .inl 2, .inl 0, .inl 0, .inl 2, .inl 0, .inl 0, .inl 2, .inl 2, .inl 0, .inl 0, .inl 2, .inl 0, .inl 0, .inl 2, .inl 2, .inl 0, .inl 0, .inl 2, .inl 0, .inl 0]),
  (0, [.inl 1, .inl 2, .inl 2, .inl 2, .inl 2, .inl 0, .inl 0, .inl 2, .inl 0, .inl 0, .inl 2, .inl 2, .inl 0, .inl 0, .inl 2, .inl 0, .inl 0, .inl 2, .inl 2, .inl 0, .inl 0, .inl 2, .inl 0, .inl 0]),
  (0, [.inl 2, .inl 100, .inl 100]),
  (0, [.inl 1, .inl 2, .inl 2, .inl 2, .inl 2, .inl 0, .inl 0, .inl 2, .inl 0, .inl 0, .inl 2, .inl 2, .inl 0, .inl 0, .inl 2, .inl 0, .inl 0, .inl 2, .inl 2, .inl 0, .inl 0, .inl 2, .inl 0, .inl 0]),
  (0, [.inl 100]),
  (0, [.inl 1, .inl 2, .inl 2, .inl 2, .inl 2, .inl 0, .inl 0, .inl 2, .inl 0, .inl 0, .inl 2, .inl 2, .inl 0, .inl 0, .inl 2, .inl 0, .inl 0, .inl 2, .inl 2, .inl 0, .inl 0, .inl 2, .inl 0, .inl 0]),
  (0, [.inl 1, .inl 2, .inl 2, .inl 2, .inl 2, .inl 0, .inl 0, .inl 2, .inl 0, .inl 0, .inl 2, .inl 2, .inl 0, .inl 0, .inl 2, .inl 0, .inl 0, .inl 2, .inl 2, .inl 0, .inl 0, .inl 2, .inl 0, .inl 0]),
  (0, [.inl 100]),
  (0, [.inl 1, .inl 2, .inl 2, .inl 2, .inl 2, .inl 0, .inl 0, .inl 2, .inl 0, .inl 0, .inl 2, .inl 2, .inl 0, .inl 0, .inl 2, .inl 0, .inl 0, .inl 2, .inl 2, .inl 0, .inl 0, .inl 2, .inl 0, .inl 0]),
  (0, [.inl 1, .inl 2, .inl 2, .inl 2, .inl 2, .inl 0, .inl 0, .inl 2, .inl 0, .inl 0, .inl 2, .inl 2, .inl 0, .inl 0, .inl 2, .inl 0, .inl 0, .inl 2, .inl 2, .inl 0, .inl 0, .inl 2, .inl 0, .inl 0]),
  (0, [.inl 2, .inl 100, .inl 100]),
  (0, [.inl 1, .inl 2, .inl 2, .inl 2, .inl 2, .inl 0, .inl 0, .inl 2, .inl 0, .inl 0, .inl 2, .inl 2, .inl 0, .inl 0, .inl 2, .inl 0, .inl 0, .inl 2, .inl 2, .inl 0, .inl 0, .inl 2, .inl 0, .inl 0]),
  (0, [.inl 2, .inl 2, .inl 100, .inl 100, .inl 2, .inl 100, .inl 100]),
  (0, [.inl 1, .inl 2, .inl 2, .inl 2, .inl 2, .inl 0, .inl 0, .inl 2, .inl 0, .inl 0, .inl 2, .inl 2, .inl 0, .inl 0, .inl 2, .inl 0, .inl 0, .inl 2, .inl 2, .inl 0, .inl 0, .inl 2, .inl 0, .inl 0]),
  (0, [.inl 2, .inl 2, .inl 2, .inl 100, .inl 100, .inl 2, .inl 100, .inl 100, .inl 2, .inl 2, .inl 100, .inl 100, .inl 2, .inl 100, .inl 100]),
  (0, [.inl 1, .inl 2, .inl 2, .inl 2, .inl 2, .inl 0, .inl 0, .inl 2, .inl 0, .inl 0, .inl 2, .inl 2, .inl 0, .inl 0, .inl 2, .inl 0, .inl 0, .inl 2, .inl 2, .inl 0, .inl 0, .inl 2, .inl 0, .inl 0]),
  (0, [.inl 2, .inl 2, .inl 2, .inl 2, .inl 100, .inl 100, .inl 2, .inl 100, .inl 100, .inl 2, .inl 2, .inl 100, .inl 100, .inl 2, .inl 100, .inl 100, .inl 2, .inl 2, .inl 100, .inl 100, .inl 2, .inl 100, .inl 100]),
  (0, [.inl 1, .inl 2, .inl 2, .inl 2, .inl 2, .inl 0, .inl 0, .inl 2, .inl 0, .inl 0, .inl 2, .inl 2, .inl 0, .inl 0, .inl 2, .inl 0, .inl 0, .inl 2, .inl 2, .inl 0, .inl 0, .inl 2, .inl 0, .inl 0]),
  (0, [.inl 1, .inl 2, .inl 2, .inl 2, .inl 2, .inl 100, .inl 100, .inl 2, .inl 100, .inl 100, .inl 2, .inl 2, .inl 100, .inl 100, .inl 2, .inl 100, .inl 100, .inl 2, .inl 2, .inl 100, .inl 100, .inl 2, .inl 100, .inl 100])]
def gg24 : List MC := []
def gg23 : List MC := gg24 ++ ga23
def gg22 : List MC := gg23 ++ ga22
def gg21 : List MC := gg22 ++ ga21
def gg20 : List MC := gg21 ++ ga20
def gg19 : List MC := gg20 ++ ga19
def gg18 : List MC := gg19 ++ ga18
def gg17 : List MC := gg18 ++ ga17
def gg16 : List MC := gg17 ++ ga16
def gg15 : List MC := gg16 ++ ga15
def gg14 : List MC := gg15 ++ ga14
def gg13 : List MC := gg14 ++ ga13
def gg12 : List MC := gg13 ++ ga12
def gg11 : List MC := gg12 ++ ga11
def gg10 : List MC := gg11 ++ ga10
def gg9 : List MC := gg10 ++ ga9
def gg8 : List MC := gg9 ++ ga8
def gg7 : List MC := gg8 ++ ga7
def gg6 : List MC := gg7 ++ ga6
def gg5 : List MC := gg6 ++ ga5
def gg4 : List MC := gg5 ++ ga4
def gg3 : List MC := gg4 ++ ga3
def gg2 : List MC := gg3 ++ ga2
def gg1 : List MC := gg2 ++ ga1
def gg0 : List MC := gg1 ++ ga0
def tb24 : List MC := [(4, [.inr (some 38), .inr (some 39), .inr (some 40), .inr (some 41), .inr (some 42), .inr (some 43), .inr (some 44), .inr (some 45), .inr (some 46), .inr (some 47), .inr (some 48), .inr (some 49), .inr (some 50), .inr (some 51), .inr (some 52), .inr (some 53), .inr (some 54), .inr (some 55), .inr (some 56), .inr (some 57), .inr (some 58), .inr (some 59), .inr (some 60), .inr (some 61)]), (1, zrow), (1, zrow), (1, zrow), (1, zrow), (1, zrow), (1, zrow), (1, zrow), (1, zrow), (1, zrow), (1, zrow), (1, zrow), (1, zrow), (1, zrow), (1, zrow), (1, zrow), (1, zrow), (1, zrow), (1, zrow), (1, zrow), (1, zrow), (1, zrow), (1, zrow), (1, zrow), (1, zrow), (4, [.inr (some 63), .inr (some 64), .inr (some 65), .inr (some 66), .inr (some 67), .inr (some 68), .inr (some 69), .inr (some 70), .inr (some 71), .inr (some 72), .inr (some 73), .inr (some 74), .inr (some 75), .inr (some 76), .inr (some 77), .inr (some 78), .inr (some 79), .inr (some 80), .inr (some 81), .inr (some 82), .inr (some 83), .inr (some 84), .inr (some 85), .inr (some 86)]), (1, zrow), (1, zrow), (1, zrow), (1, zrow), (1, zrow), (1, zrow), (1, zrow), (1, zrow), (1, zrow), (1, zrow), (1, zrow), (1, zrow), (1, zrow), (1, zrow), (1, zrow), (1, zrow), (1, zrow), (1, zrow), (1, zrow), (1, zrow), (1, zrow), (1, zrow), (1, zrow), (1, zrow)]
def hB24 : List MC := hM14 ++ (tb24 ++ gg24)
def lB24 : List (Option MV) := [some (.inr (some 0)), some (.inr (some 31)), some (.inr (some 36)), some (.inr (some 37)), some (.inr (some 62)), some (.inl 23), none]
def tb23 : List MC := [(4, [.inr (some 38), .inr (some 39), .inr (some 40), .inr (some 41), .inr (some 42), .inr (some 43), .inr (some 44), .inr (some 45), .inr (some 46), .inr (some 47), .inr (some 48), .inr (some 49), .inr (some 50), .inr (some 51), .inr (some 52), .inr (some 53), .inr (some 54), .inr (some 55), .inr (some 56), .inr (some 57), .inr (some 58), .inr (some 59), .inr (some 60), .inr (some 61)]), (1, zrow), (1, zrow), (1, zrow), (1, zrow), (1, zrow), (1, zrow), (1, zrow), (1, zrow), (1, zrow), (1, zrow), (1, zrow), (1, zrow), (1, zrow), (1, zrow), (1, zrow), (1, zrow), (1, zrow), (1, zrow), (1, zrow), (1, zrow), (1, zrow), (1, zrow), (1, zrow), (1, zs23), (4, [.inr (some 63), .inr (some 64), .inr (some 65), .inr (some 66), .inr (some 67), .inr (some 68), .inr (some 69), .inr (some 70), .inr (some 71), .inr (some 72), .inr (some 73), .inr (some 74), .inr (some 75), .inr (some 76), .inr (some 77), .inr (some 78), .inr (some 79), .inr (some 80), .inr (some 81), .inr (some 82), .inr (some 83), .inr (some 84), .inr (some 85), .inr (some 86)]), (1, zrow), (1, zrow), (1, zrow), (1, zrow), (1, zrow), (1, zrow), (1, zrow), (1, zrow), (1, zrow), (1, zrow), (1, zrow), (1, zrow), (1, zrow), (1, zrow), (1, zrow), (1, zrow), (1, zrow), (1, zrow), (1, zrow), (1, zrow), (1, zrow), (1, zrow), (1, zrow), (1, zm23)]
def hB23 : List MC := hM14 ++ (tb23 ++ gg23)
def lB23 : List (Option MV) := [some (.inr (some 0)), some (.inr (some 31)), some (.inr (some 36)), some (.inr (some 37)), some (.inr (some 62)), some (.inl 22), some (.inl (-1))]
def tb22 : List MC := [(4, [.inr (some 38), .inr (some 39), .inr (some 40), .inr (some 41), .inr (some 42), .inr (some 43), .inr (some 44), .inr (some 45), .inr (some 46), .inr (some 47), .inr (some 48), .inr (some 49), .inr (some 50), .inr (some 51), .inr (some 52), .inr (some 53), .inr (some 54), .inr (some 55), .inr (some 56), .inr (some 57), .inr (some 58), .inr (some 59), .inr (some 60), .inr (some 61)]), (1, zrow), (1, zrow), (1, zrow), (1, zrow), (1, zrow), (1, zrow), (1, zrow), (1, zrow), (1, zrow), (1, zrow), (1, zrow), (1, zrow), (1, zrow), (1, zrow), (1, zrow), (1, zrow), (1, zrow), (1, zrow), (1, zrow), (1, zrow), (1, zrow), (1, zrow), (1, zs22), (1, zs23), (4, [.inr (some 63), .inr (some 64), .inr (some 65), .inr (some 66), .inr (some 67), .inr (some 68), .inr (some 69), .inr (some 70), .inr (some 71), .inr (some 72), .inr (some 73), .inr (some 74), .inr (some 75), .inr (some 76), .inr (some 77), .inr (some 78), .inr (some 79), .inr (some 80), .inr (some 81), .inr (some 82), .inr (some 83), .inr (some 84), .inr (some 85), .inr (some 86)]), (1, zrow), (1, zrow), (1, zrow), (1, zrow), (1, zrow), (1, zrow), (1, zrow), (1, zrow), (1, zrow), (1, zrow), (1, zrow), (1, zrow), (1, zrow), (1, zrow), (1, zrow), (1, zrow), (1, zrow), (1, zrow), (1, zrow), (1, zrow), (1, zrow), (1, zrow), (1, zm22), (1, zm23)]
def hB22 : List MC := hM14 ++ (tb22 ++ gg22)
def lB22 : List (Option MV) := [some (.inr (some 0)), some (.inr (some 31)), some (.inr (some 36)), some (.inr (some 37)), some (.inr (some 62)), some (.inl 21), some (.inl (-1))]
def tb21 : List MC := [(4, [.inr (some 38), .inr (some 39), .inr (some 40), .inr (some 41), .inr (some 42), .inr (some 43), .inr (some 44), .inr (some 45), .inr (some 46), .inr (some 47), .inr (some 48), .inr (some 49), .inr (some 50), .inr (some 51), .inr (some 52), .inr (some 53), .inr (some 54), .inr (some 55), .inr (some 56), .inr (some 57), .inr (some 58), .inr (some 59), .inr (some 60), .inr (some 61)]), (1, zrow), (1, zrow), (1, zrow), (1, zrow), (1, zrow), (1, zrow), (1, zrow), (1, zrow), (1, zrow), (1, zrow), (1, zrow), (1, zrow), (1, zrow), (1, zrow), (1, zrow), (1, zrow), (1, zrow), (1, zrow), (1, zrow), (1, zrow), (1, zrow), (1, zs21), (1, zs22), (1, zs23), (4, [.inr (some 63), .inr (some 64), .inr (some 65), .inr (some 66), .inr (some 67), .inr (some 68), .inr (some 69), .inr (some 70), .inr (some 71), .inr (some 72), .inr (some 73), .inr (some 74), .inr (some 75), .inr (some 76), .inr (some 77), .inr (some 78), .inr (some 79), .inr (some 80), .inr (some 81), .inr (some 82), .inr (some 83), .inr (some 84), .inr (some 85), .inr (some 86)]), (1, zrow), (1, zrow), (1, zrow), (1, zrow), (1, zrow), (1, zrow), (1, zrow), (1, zrow), (1, zrow), (1, zrow), (1, zrow), (1, zrow), (1, zrow), (1, zrow), (1, zrow), (1, zrow), (1, zrow), (1, zrow), (1, zrow), (1, zrow), (1, zrow), (1, zm21), (1, zm22), (1, zm23)]
def hB21 : List MC := hM14 ++ (tb21 ++ gg21)
def lB21 : List (Option MV) := [some (.inr (some 0)), some (.inr (some 31)), some (.inr (some 36)), some (.inr (some 37)), some (.inr (some 62)), some (.inl 20), some (.inl (-1))]
def tb20 : List MC := [(4, [.inr (some 38), .inr (some 39), .inr (some 40), .inr (some 41), .inr (some 42), .inr (some 43), .inr (some 44), .inr (some 45), .inr (some 46), .inr (some 47), .inr (some 48), .inr (some 49), .inr (some 50), .inr (some 51), .inr (some 52), .inr (some 53), .inr (some 54), .inr (some 55), .inr (some 56), .inr (some 57), .inr (some 58), .inr (some 59), .inr (some 60), .inr (some 61)]), (1, zrow), (1, zrow), (1, zrow), (1, zrow), (1, zrow), (1, zrow), (1, zrow), (1, zrow), (1, zrow), (1, zrow), (1, zrow), (1, zrow), (1, zrow), (1, zrow), (1, zrow), (1, zrow), (1, zrow), (1, zrow), (1, zrow), (1, zrow), (1, zs20), (1, zs21), (1, zs22), (1, zs23), (4, [.inr (some 63), .inr (some 64), .inr (some 65), .inr (some 66), .inr (some 67), .inr (some 68), .inr (some 69), .inr (some 70), .inr (some 71), .inr (some 72), .inr (some 73), .inr (some 74), .inr (some 75), .inr (some 76), .inr (some 77), .inr (some 78), .inr (some 79), .inr (some 80), .inr (some 81), .inr (some 82), .inr (some 83), .inr (some 84), .inr (some 85), .inr (some 86)]), (1, zrow), (1, zrow), (1, zrow), (1, zrow), (1, zrow), (1, zrow), (1, zrow), (1, zrow), (1, zrow), (1, zrow), (1, zrow), (1, zrow), (1, zrow), (1, zrow), (1, zrow), (1, zrow), (1, zrow), (1, zrow), (1, zrow), (1, zrow), (1, zm20), (1, zm21), (1, zm22), (1, zm23)]
def hB20 : List MC := hM14 ++ (tb20 ++ gg20)
def lB20 : List (Option MV) := [some (.inr (some 0)), some (.inr (some 31)), some (.inr (some 36)), some (.inr (some 37)), some (.inr (some 62)), some (.inl 19), some (.inl (-1))]
def tb19 : List MC := [(4, [.inr (some 38), .inr (some 39), .inr (some 40), .inr (some 41), .inr (some 42), .inr (some 43), .inr (some 44), .inr (some 45), .inr (some 46), .inr (some 47), .inr (some 48), .inr (some 49), .inr (some 50), .inr (some 51), .inr (some 52), .inr (some 53), .inr (some 54), .inr (some 55), .inr (some 56), .inr (some 57), .inr (some 58), .inr (some 59), .inr (some 60), .inr (some 61)]), (1, zrow), (1, zrow), (1, zrow), (1, zrow), (1, zrow), (1, zrow), (1, zrow), (1, zrow), (1, zrow), (1, zrow), (1, zrow), (1, zrow), (1, zrow), (1, zrow), (1, zrow), (1, zrow), (1, zrow), (1, zrow), (1, zrow), (1, zs19), (1, zs20), (1, zs21), (1, zs22), (1, zs23), (4, [.inr (some 63), .inr (some 64), .inr (some 65), .inr (some 66), .inr (some 67), .inr (some 68), .inr (some 69), .inr (some 70), .inr (some 71), .inr (some 72), .inr (some 73), .inr (some 74), .inr (some 75), .inr (some 76), .inr (some 77), .inr (some 78), .inr (some 79), .inr (some 80), .inr (some 81), .inr (some 82), .inr (some 83), .inr (some 84), .inr (some 85), .inr (some 86)]), (1, zrow), (1, zrow), (1, zrow), (1, zrow), (1, zrow), (1, zrow), (1, zrow), (1, zrow), (1, zrow), (1, zrow), (1, zrow), (1, zrow), (1, zrow), (1, zrow), (1, zrow), (1, zrow), (1, zrow), (1, zrow), (1, zrow), (1, zm19), (1, zm20), (1, zm21), (1, zm22), (1, zm23)]
def hB19 : List MC := hM14 ++ (tb19 ++ gg19)
def lB19 : List (Option MV) := [some (.inr (some 0)), some (.inr (some 31)), some (.inr (some 36)), some (.inr (some 37)), some (.inr (some 62)), some (.inl 18), some (.inl (-1))]
def tb18 : List MC := [(4, [.inr (some 38), .inr (some 39), .inr (some 40), .inr (some 41), .inr (some 42), .inr (some 43), .inr (some 44), .inr (some 45), .inr (some 46), .inr (some 47), .inr (some 48), .inr (some 49), .inr (some 50), .inr (some 51), .inr (some 52), .inr (some 53), .inr (some 54), .inr (some 55), .inr (some 56), .inr (some 57), .inr (some 58), .inr (some 59), .inr (some 60), .inr (some 61)]), (1, zrow), (1, zrow), (1, zrow), (1, zrow), (1, zrow), (1, zrow), (1, zrow), (1, zrow), (1, zrow), (1, zrow), (1, zrow), (1, zrow), (1, zrow), (1, zrow), (1, zrow), (1, zrow), (1, zrow), (1, zrow), (1, zs18), (1, zs19), (1, zs20), (1, zs21), (1, zs22), (1, zs23), (4, [.inr (some 63), .inr (some 64), .inr (some 65), .inr (some 66), .inr (some 67), .inr (some 68), .inr (some 69), .inr (some 70), .inr (some 71), .inr (some 72), .inr (some 73), .inr (some 74), .inr (some 75), .inr (some 76), .inr (some 77), .inr (some 78), .inr (some 79), .inr (some 80), .inr (some 81), .inr (some 82), .inr (some 83), .inr (some 84), .inr (some 85), .inr (some 86)]), (1, zrow), (1, zrow), (1, zrow), (1, zrow), (1, zrow), (1, zrow), (1, zrow), (1, zrow), (1, zrow), (1, zrow), (1, zrow), (1, zrow), (1, zrow), (1, zrow), (1, zrow), (1, zrow), (1, zrow), (1, zrow), (1, zm18), (1, zm19), (1, zm20), (1, zm21), (1, zm22), (1, zm23)]
def hB18 : List MC := hM14 ++ (tb18 ++ gg18)
def lB18 : List (Option MV) := [some (.inr (some 0)), some (.inr (some 31)), some (.inr (some 36)), some (.inr (some 37)), some (.inr (some 62)), some (.inl 17), some (.inl (-1))]
def tb17 : List MC := [(4, [.inr (some 38), .inr (some 39), .inr (some 40), .inr (some 41), .inr (some 42), .inr (some 43), .inr (some 44), .inr (some 45), .inr (some 46), .inr (some 47), .inr (some 48), .inr (some 49), .inr (some 50), .inr (some 51), .inr (some 52), .inr (some 53), .inr (some 54), .inr (some 55), .inr (some 56), .inr (some 57), .inr (some 58), .inr (some 59), .inr (some 60), .inr (some 61)]), (1, zrow), (1, zrow), (1, zrow), (1, zrow), (1, zrow), (1, zrow), (1, zrow), (1, zrow), (1, zrow), (1, zrow), (1, zrow), (1, zrow), (1, zrow), (1, zrow), (1, zrow), (1, zrow), (1, zrow), (1, zs17), (1, zs18), (1, zs19), (1, zs20), (1, zs21), (1, zs22), (1, zs23), (4, [.inr (some 63), .inr (some 64), .inr (some 65), .inr (some 66), .inr (some 67), .inr (some 68), .inr (some 69), .inr (some 70), .inr (some 71), .inr (some 72), .inr (some 73), .inr (some 74), .inr (some 75), .inr (some 76), .inr (some 77), .inr (some 78), .inr (some 79), .inr (some 80), .inr (some 81), .inr (some 82), .inr (some 83), .inr (some 84), .inr (some 85), .inr (some 86)]), (1, zrow), (1, zrow), (1, zrow), (1, zrow), (1, zrow), (1, zrow), (1, zrow), (1, zrow), (1, zrow), (1, zrow), (1, zrow), (1, zrow), (1, zrow), (1, zrow), (1, zrow), (1, zrow), (1, zrow), (1, zm17), (1, zm18), (1, zm19), (1, zm20), (1, zm21), (1, zm22), (1, zm23)]
def hB17 : List MC := hM14 ++ (tb17 ++ gg17)
def lB17 : List (Option MV) := [some (.inr (some 0)), some (.inr (some 31)), some (.inr (some 36)), some (.inr (some 37)), some (.inr (some 62)), some (.inl 16), some (.inl (-1))]
def tb16 : List MC := [(4, [.inr (some 38), .inr (some 39), .inr (some 40), .inr (some 41), .inr (some 42), .inr (some 43), .inr (some 44), .inr (some 45), .inr (some 46), .inr (some 47), .inr (some 48), .inr (some 49), .inr (some 50), .inr (some 51), .inr (some 52), .inr (some 53), .inr (some 54), .inr (some 55), .inr (some 56), .inr (some 57), .inr (some 58), .inr (some 59), .inr (some 60), .inr (some 61)]), (1, zrow), (1, zrow), (1, zrow), (1, zrow), (1, zrow), (1, zrow), (1, zrow), (1, zrow), (1, zrow), (1, zrow), (1, zrow), (1, zrow), (1, zrow), (1, zrow), (1, zrow), (1, zrow), (1, zs16), (1, zs17), (1, zs18), (1, zs19), (1, zs20), (1, zs21), (1, zs22), (1, zs23), (4, [.inr (some 63), .inr (some 64), .inr (some 65), .inr (some 66), .inr (some 67), .inr (some 68), .inr (some 69), .inr (some 70), .inr (some 71), .inr (some 72), .inr (some 73), .inr (some 74), .inr (some 75), .inr (some 76), .inr (some 77), .inr (some 78), .inr (some 79), .inr (some 80), .inr (some 81), .inr (some 82), .inr (some 83), .inr (some 84), .inr (some 85), .inr (some 86)]), (1, zrow), (1, zrow), (1, zrow), (1, zrow), (1, zrow), (1, zrow), (1, zrow), (1, zrow), (1, zrow), (1, zrow), (1, zrow), (1, zrow), (1, zrow), (1, zrow), (1, zrow), (1, zrow), (1, zm16), (1, zm17), (1, zm18), (1, zm19), (1, zm20), (1, zm21), (1, zm22), (1, zm23)]
def hB16 : List MC := hM14 ++ (tb16 ++ gg16)
def lB16 : List (Option MV) := [some (.inr (some 0)), some (.inr (some 31)), some (.inr (some 36)), some (.inr (some 37)), some (.inr (some 62)), some (.inl 15), some (.inl (-1))]
def tb15 : List MC := [(4, [.inr (some 38), .inr (some 39), .inr (some 40), .inr (some 41), .inr (some 42), .inr (some 43), .inr (some 44), .inr (some 45), .inr (some 46), .inr (some 47), .inr (some 48), .inr (some 49), .inr (some 50), .inr (some 51), .inr (some 52), .inr (some 53), .inr (some 54), .inr (some 55), .inr (some 56), .inr (some 57), .inr (some 58), .inr (some 59), .inr (some 60), .inr (some 61)]), (1, zrow), (1, zrow), (1, zrow), (1, zrow), (1, zrow), (1, zrow), (1, zrow), (1, zrow), (1, zrow), (1, zrow), (1, zrow), (1, zrow), (1, zrow), (1, zrow), (1, zrow), (1, zs15), (1, zs16), (1, zs17), (1, zs18), (1, zs19), (1, zs20), (1, zs21), (1, zs22), (1, zs23), (4, [.inr (some 63), .inr (some 64), .inr (some 65), .inr (some 66), .inr (some 67), .inr (some 68), .inr (some 69), .inr (some 70), .inr (some 71), .inr (some 72), .inr (some 73), .inr (some 74), .inr (some 75), .inr (some 76), .inr (some 77), .inr (some 78), .inr (some 79), .inr (some 80), .inr (some 81), .inr (some 82), .inr (some 83), .inr (some 84), .inr (some 85), .inr (some 86)]), (1, zrow), (1, zrow), (1, zrow), (1, zrow), (1, zrow), (1, zrow), (1, zrow), (1, zrow), (1, zrow), (1, zrow), (1, zrow), (1, zrow), (1, zrow), (1, zrow), (1, zrow), (1, zm15), (1, zm16), (1, zm17), (1, zm18), (1, zm19), (1, zm20), (1, zm21), (1, zm22), (1, zm23)]
def hB15 : List MC := hM14 ++ (tb15 ++ gg15)
def lB15 : List (Option MV) := [some (.inr (some 0)), some (.inr (some 31)), some (.inr (some 36)), some (.inr (some 37)), some (.inr (some 62)), some (.inl 14), some (.inl (-1))]
def tb14 : List MC := [(4, [.inr (some 38), .inr (some 39), .inr (some 40), .inr (some 41), .inr (some 42), .inr (some 43), .inr (some 44), .inr (some 45), .inr (some 46), .inr (some 47), .inr (some 48), .inr (some 49), .inr (some 50), .inr (some 51), .inr (some 52), .inr (some 53), .inr (some 54), .inr (some 55), .inr (some 56), .inr (some 57), .inr (some 58), .inr (some 59), .inr (some 60), .inr (some 61)]), (1, zrow), (1, zrow), (1, zrow), (1, zrow), (1, zrow), (1, zrow), (1, zrow), (1, zrow), (1, zrow), (1, zrow), (1, zrow), (1, zrow), (1, zrow), (1, zrow), (1, zs14), (1, zs15), (1, zs16), (1, zs17), (1, zs18), (1, zs19), (1, zs20), (1, zs21), (1, zs22), (1, zs23), (4, [.inr (some 63), .inr (some 64), .inr (some 65), .inr (some 66), .inr (some 67), .inr (some 68), .inr (some 69), .inr (some 70), .inr (some 71), .inr (some 72), .inr (some 73), .inr (some 74), .inr (some 75), .inr (some 76), .inr (some 77), .inr (some 78), .inr (some 79), .inr (some 80), .inr (some 81), .inr (some 82), .inr (some 83), .inr (some 84), .inr (some 85), .inr (some 86)]), (1, zrow), (1, zrow), (1, zrow), (1, zrow), (1, zrow), (1, zrow), (1, zrow), (1, zrow), (1, zrow), (1, zrow), (1, zrow), (1, zrow), (1, zrow), (1, zrow), (1, zm14), (1, zm15), (1, zm16), (1, zm17), (1, zm18), (1, zm19), (1, zm20), (1, zm21), (1, zm22), (1, zm23)]
def hB14 : List MC := hM14 ++ (tb14 ++ gg14)
def lB14 : List (Option MV) := [some (.inr (some 0)), some (.inr (some 31)), some (.inr (some 36)), some (.inr (some 37)), some (.inr (some 62)), some (.inl 13), some (.inl (-1))]
def tb13 : List MC := [(4, [.inr (some 38), .inr (some 39), .inr (some 40), .inr (some 41), .inr (some 42), .inr (some 43), .inr (some 44), .inr (some 45), .inr (some 46), .inr (some 47), .inr (some 48), .inr (some 49), .inr (some 50), .inr (some 51), .inr (some 52), .inr (some 53), .inr (some 54), .inr (some 55), .inr (some 56), .inr (some 57), .inr (some 58), .inr (some 59), .inr (some 60), .inr (some 61)]), (1, zrow), (1, zrow), (1, zrow), (1, zrow), (1, zrow), (1, zrow), (1, zrow), (1, zrow), (1, zrow), (1, zrow), (1, zrow), (1, zrow), (1, zrow), (1, zs13), (1, zs14), (1, zs15), (1, zs16), (1, zs17), (1, zs18), (1, zs19), (1, zs20), (1, zs21), (1, zs22), (1, zs23), (4, [.inr (some 63), .inr (some 64), .inr (some 65), .inr (some 66), .inr (some 67), .inr (some 68), .inr (some 69), .inr (some 70), .inr (some 71), .inr (some 72), .inr (some 73), .inr (some 74), .inr (some 75), .inr (some 76), .inr (some 77), .inr (some 78), .inr (some 79), .inr (some 80), .inr (some 81), .inr (some 82), .inr (some 83), .inr (some 84), .inr (some 85), .inr (some 86)]), (1, zrow), (1, zrow), (1, zrow), (1, zrow), (1, zrow), (1, zrow), (1, zrow), (1, zrow), (1, zrow), (1, zrow), (1, zrow), (1, zrow), (1, zrow), (1, zm13), (1, zm14), (1, zm15), (1, zm16), (1, zm17), (1, zm18), (1, zm19), (1, zm20), (1, zm21), (1, zm22), (1, zm23)]
def hB13 : List MC := hM14 ++ (tb13 ++ gg13)
def lB13 : List (Option MV) := [some (.inr (some 0)), some (.inr (some 31)), some (.inr (some 36)), some (.inr (some 37)), some (.inr (some 62)), some (.inl 12), some (.inl (-1))]
def tb12 : List MC := [(4, [.inr (some 38), .inr (some 39), .inr (some 40), .inr (some 41), .inr (some 42), .inr (some 43), .inr (some 44), .inr (some 45), .inr (some 46), .inr (some 47), .inr (some 48), .inr (some 49), .inr (some 50), .inr (some 51), .inr (some 52), .inr (some 53), .inr (some 54), .inr (some 55), .inr (some 56), .inr (some 57), .inr (some 58), .inr (some 59), .inr (some 60), .inr (some 61)]), (1, zrow), (1, zrow), (1, zrow), (1, zrow), (1, zrow), (1, zrow), (1, zrow), (1, zrow), (1, zrow), (1, zrow), (1, zrow), (1, zrow), (1, zs12), (1, zs13), (1, zs14), (1, zs15), (1, zs16), (1, zs17), (1, zs18), (1, zs19), (1, zs20), (1, zs21), (1, zs22), (1, zs23), (4, [.inr (some 63), .inr (some 64), .inr (some 65), .inr (some 66), .inr (some 67), .inr (some 68), .inr (some 69), .inr (some 70), .inr (some 71), .inr (some 72), .inr (some 73), .inr (some 74), .inr (some 75), .inr (some 76), .inr (some 77), .inr (some 78), .inr (some 79), .inr (some 80), .inr (some 81), .inr (some 82), .inr (some 83), .inr (some 84), .inr (some 85), .inr (some 86)]), (1, zrow), (1, zrow), (1, zrow), (1, zrow), (1, zrow), (1, zrow), (1, zrow), (1, zrow), (1, zrow), (1, zrow), (1, zrow), (1, zrow), (1, zm12), (1, zm13), (1, zm14), (1, zm15), (1, zm16), (1, zm17), (1, zm18), (1, zm19), (1, zm20), (1, zm21), (1, zm22), (1, zm23)]
def hB12 : List MC := hM14 ++ (tb12 ++ gg12)
def lB12 : List (Option MV) := [some (.inr (some 0)), some (.inr (some 31)), some (.inr (some 36)), some (.inr (some 37)), some (.inr (some 62)), some (.inl 11), some (.inl (-1))]
def tb11 : List MC := [(4, [.inr (some 38), .inr (some 39), .inr (some 40), .inr (some 41), .inr (some 42), .inr (some 43), .inr (some 44), .inr (some 45), .inr (some 46), .inr (some 47), .inr (some 48), .inr (some 49), .inr (some 50), .inr (some 51), .inr (some 52), .inr (some 53), .inr (some 54), .inr (some 55), .inr (some 56), .inr (some 57), .inr (some 58), .inr (some 59), .inr (some 60), .inr (some 61)]), (1, zrow), (1, zrow), (1, zrow), (1, zrow), (1, zrow), (1, zrow), (1, zrow), (1, zrow), (1, zrow), (1, zrow), (1, zrow), (1, zs11), (1, zs12), (1, zs13), (1, zs14), (1, zs15), (1, zs16), (1, zs17), (1, zs18), (1, zs19), (1, zs20), (1, zs21), (1, zs22), (1, zs23), (4, [.inr (some 63), .inr (some 64), .inr (some 65), .inr (some 66), .inr (some 67), .inr (some 68), .inr (some 69), .inr (some 70), .inr (some 71), .inr (some 72), .inr (some 73), .inr (some 74), .inr (some 75), .inr (some 76), .inr (some 77), .inr (some 78), .inr (some 79), .inr (some 80), .inr (some 81), .inr (some 82), .inr (some 83), .inr (some 84), .inr (some 85), .inr (some 86)]), (1, zrow), (1, zrow), (1, zrow), (1, zrow), (1, zrow), (1, zrow), (1, zrow), (1, zrow), (1, zrow), (1, zrow), (1, zrow), (1, zm11), (1, zm12), (1, zm13), (1, zm14), (1, zm15), (1, zm16), (1, zm17), (1, zm18), (1, zm19), (1, zm20), (1, zm21), (1, zm22), (1, zm23)]
def hB11 : List MC := hM14 ++ (tb11 ++ gg11)
def lB11 : List (Option MV) := [some (.inr (some 0)), some (.inr (some 31)), some (.inr (some 36)), some (.inr (some 37)), some (.inr (some 62)), some (.inl 10), some (.inl (-1))]
def tb10 : List MC := [(4, [.inr (some 38), .inr (some 39), .inr (some 40), .inr (some 41), .inr (some 42), .inr (some 43), .inr (some 44), .inr (some 45), .inr (some 46), .inr (some 47), .inr (some 48), .inr (some 49), .inr (some 50), .inr (some 51), .inr (some 52), .inr (some 53), .inr (some 54), .inr (some 55), .inr (some 56), .inr (some 57), .inr (some 58), .inr (some 59), .inr (some 60), .inr (some 61)]), (1, zrow), (1, zrow), (1, zrow), (1, zrow), (1, zrow), (1, zrow), (1, zrow), (1, zrow), (1, zrow), (1, zrow), (1, zs10), (1, zs11), (1, zs12), (1, zs13), (1, zs14), (1, zs15), (1, zs16), (1, zs17), (1, zs18), (1, zs19), (1, zs20), (1, zs21), (1, zs22), (1, zs23), (4, [.inr (some 63), .inr (some 64), .inr (some 65), .inr (some 66), .inr (some 67), .inr (some 68), .inr (some 69), .inr (some 70), .inr (some 71), .inr (some 72), .inr (some 73), .inr (some 74), .inr (some 75), .inr (some 76), .inr (some 77), .inr (some 78), .inr (some 79), .inr (some 80), .inr (some 81), .inr (some 82), .inr (some 83), .inr (some 84), .inr (some 85), .inr (some 86)]), (1, zrow), (1, zrow), (1, zrow), (1, zrow), (1, zrow), (1, zrow), (1, zrow), (1, zrow), (1, zrow), (1, zrow), (1, zm10), (1, zm11), (1, zm12), (1, zm13), (1, zm14), (1, zm15), (1, zm16), (1, zm17), (1, zm18), (1, zm19), (1, zm20), (1, zm21), (1, zm22), (1, zm23)]
def hB10 : List MC := hM14 ++ (tb10 ++ gg10)
def lB10 : List (Option MV) := [some (.inr (some 0)), some (.inr (some 31)), some (.inr (some 36)), some (.inr (some 37)), some (.inr (some 62)), some (.inl 9), some (.inl (-1))]
def tb9 : List MC := [(4, [.inr (some 38), .inr (some 39), .inr (some 40), .inr (some 41), .inr (some 42), .inr (some 43), .inr (some 44), .inr (some 45), .inr (some 46), .inr (some 47), .inr (some 48), .inr (some 49), .inr (some 50), .inr (some 51), .inr (some 52), .inr (some 53), .inr (some 54), .inr (some 55), .inr (some 56), .inr (some 57), .inr (some 58), .inr (some 59), .inr (some 60), .inr (some 61)]), (1, zrow), (1, zrow), (1, zrow), (1, zrow), (1, zrow), (1, zrow), (1, zrow), (1, zrow), (1, zrow), (1, zs9), (1, zs10), (1, zs11), (1, zs12), (1, zs13), (1, zs14), (1, zs15), (1, zs16), (1, zs17), (1, zs18), (1, zs19), (1, zs20), (1, zs21), (1, zs22), (1, zs23), (4, [.inr (some 63), .inr (some 64), .inr (some 65), .inr (some 66), .inr (some 67), .inr (some 68), .inr (some 69), .inr (some 70), .inr (some 71), .inr (some 72), .inr (some 73), .inr (some 74), .inr (some 75), .inr (some 76), .inr (some 77), .inr (some 78), .inr (some 79), .inr (some 80), .inr (some 81), .inr (some 82), .inr (some 83), .inr (some 84), .inr (some 85), .inr (some 86)]), (1, zrow), (1, zrow), (1, zrow), (1, zrow), (1, zrow), (1, zrow), (1, zrow), (1, zrow), (1, zrow), (1, zm9), (1, zm10), (1, zm11), (1, zm12), (1, zm13), (1, zm14), (1, zm15), (1, zm16), (1, zm17), (1, zm18), (1, zm19), (1, zm20), (1, zm21), (1, zm22), (1, zm23)]
def hB9 : List MC := hM14 ++ (tb9 ++ gg9)
def lB9 : List (Option MV) := [some (.inr (some 0)), some (.inr (some 31)), some (.inr (some 36)), some (.inr (some 37)), some (.inr (some 62)), some (.inl 8), some (.inl (-1))]
def tb8 : List MC := [(4, [.inr (some 38), .inr (some 39), .inr (some 40), .inr (some 41), .inr (some 42), .inr (some 43), .inr (some 44), .inr (some 45), .inr (some 46), .inr (some 47), .inr (some 48), .inr (some 49), .inr (some 50), .inr (some 51), .inr (some 52), .inr (some 53), .inr (some 54), .inr (some 55), .inr (some 56), .inr (some 57), .inr (some 58), .inr (some 59), .inr (some 60), .inr (some 61)]), (1, zrow), (1, zrow), (1, zrow), (1, zrow), (1, zrow), (1, zrow), (1, zrow), (1, zrow), (1, zs8), (1, zs9), (1, zs10), (1, zs11), (1, zs12), (1, zs13), (1, zs14), (1, zs15), (1, zs16), (1, zs17), (1, zs18), (1, zs19), (1, zs20), (1, zs21), (1, zs22), (1, zs23), (4, [.inr (some 63), .inr (some 64), .inr (some 65), .inr (some 66), .inr (some 67), .inr (some 68), .inr (some 69), .inr (some 70), .inr (some 71), .inr (some 72), .inr (some 73), .inr (some 74), .inr (some 75), .inr (some 76), .inr (some 77), .inr (some 78), .inr (some 79), .inr (some 80), .inr (some 81), .inr (some 82), .inr (some 83), .inr (some 84), .inr (some 85), .inr (some 86)]), (1, zrow), (1, zrow), (1, zrow), (1, zrow), (1, zrow), (1, zrow), (1, zrow), (1, zrow), (1, zm8), (1, zm9), (1, zm10), (1, zm11), (1, zm12), (1, zm13), (1, zm14), (1, zm15), (1, zm16), (1, zm17), (1, zm18), (1, zm19), (1, zm20), (1, zm21), (1, zm22), (1, zm23)]
def hB8 : List MC := hM14 ++ (tb8 ++ gg8)
def lB8 : List (Option MV) := [some (.inr (some 0)), some (.inr (some 31)), some (.inr (some 36)), some (.inr (some 37)), some (.inr (some 62)), some (.inl 7), some (.inl (-1))]
def tb7 : List MC := [(4, [.inr (some 38), .inr (some 39), .inr (some 40), .inr (some 41), .inr (some 42), .inr (some 43), .inr (some 44), .inr (some 45), .inr (some 46), .inr (some 47), .inr (some 48), .inr (some 49), .inr (some 50), .inr (some 51), .inr (some 52), .inr (some 53), .inr (some 54), .inr (some 55), .inr (some 56), .inr (some 57), .inr (some 58), .inr (some 59), .inr (some 60), .inr (some 61)]), (1, zrow), (1, zrow), (1, zrow), (1, zrow), (1, zrow), (1, zrow), (1, zrow), (1, zs7), (1, zs8), (1, zs9), (1, zs10), (1, zs11), (1, zs12), (1, zs13), (1, zs14), (1, zs15), (1, zs16), (1, zs17), (1, zs18), (1, zs19), (1, zs20), (1, zs21), (1, zs22), (1, zs23), (4, [.inr (some 63), .inr (some 64), .inr (some 65), .inr (some 66), .inr (some 67), .inr (some 68), .inr (some 69), .inr (some 70), .inr (some 71), .inr (some 72), .inr (some 73), .inr (some 74), .inr (some 75), .inr (some 76), .inr (some 77), .inr (some 78), .inr (some 79), .inr (some 80), .inr (some 81), .inr (some 82), .inr (some 83), .inr (some 84), .inr (some 85), .inr (some 86)]), (1, zrow), (1, zrow), (1, zrow), (1, zrow), (1, zrow), (1, zrow), (1, zrow), (1, zm7), (1, zm8), (1, zm9), (1, zm10), (1, zm11), (1, zm12), (1, zm13), (1, zm14), (1, zm15), (1, zm16), (1, zm17), (1, zm18), (1, zm19), (1, zm20), (1, zm21), (1, zm22), (1, zm23)]
def hB7 : List MC := hM14 ++ (tb7 ++ gg7)
def lB7 : List (Option MV) := [some (.inr (some 0)), some (.inr (some 31)), some (.inr (some 36)), some (.inr (some 37)), some (.inr (some 62)), some (.inl 6), some (.inl (-1))]
def tb6 : List MC := [(4, [.inr (some 38), .inr (some 39), .inr (some 40), .inr (some 41), .inr (some 42), .inr (some 43), .inr (some 44), .inr (some 45), .inr (some 46), .inr (some 47), .inr (some 48), .inr (some 49), .inr (some 50), .inr (some 51), .inr (some 52), .inr (some 53), .inr (some 54), .inr (some 55), .inr (some 56), .inr (some 57), .inr (some 58), .inr (some 59), .inr (some 60), .inr (some 61)]), (1, zrow), (1, zrow), (1, zrow), (1, zrow), (1, zrow), (1, zrow), (1, zs6), (1, zs7), (1, zs8), (1, zs9), (1, zs10), (1, zs11), (1, zs12), (1, zs13), (1, zs14), (1, zs15), (1, zs16), (1, zs17), (1, zs18), (1, zs19), (1, zs20), (1, zs21), (1, zs22), (1, zs23), (4, [.inr (some 63), .inr (some 64), .inr (some 65), .inr (some 66), .inr (some 67), .inr (some 68), .inr (some 69), .inr (some 70), .inr (some 71), .inr (some 72), .inr (some 73), .inr (some 74), .inr (some 75), .inr (some 76), .inr (some 77), .inr (some 78), .inr (some 79), .inr (some 80), .inr (some 81), .inr (some 82), .inr (some 83), .inr (some 84), .inr (some 85), .inr (some 86)]), (1, zrow), (1, zrow), (1, zrow), (1, zrow), (1, zrow), (1, zrow), (1, zm6), (1, zm7), (1, zm8), (1, zm9), (1, zm10), (1, zm11), (1, zm12), (1, zm13), (1, zm14), (1, zm15), (1, zm16), (1, zm17), (1, zm18), (1, zm19), (1, zm20), (1, zm21), (1, zm22), (1, zm23)]
def hB6 : List MC := hM14 ++ (tb6 ++ gg6)
def lB6 : List (Option MV) := [some (.inr (some 0)), some (.inr (some 31)), some (.inr (some 36)), some (.inr (some 37)), some (.inr (some 62)), some (.inl 5), some (.inl (-1))]
def tb5 : List MC := [(4, [.inr (some 38), .inr (some 39), .inr (some 40), .inr (some 41), .inr (some 42), .inr (some 43), .inr (some 44), .inr (some 45), .inr (some 46), .inr (some 47), .inr (some 48), .inr (some 49), .inr (some 50), .inr (some 51), .inr (some 52), .inr (some 53), .inr (some 54), .inr (some 55), .inr (some 56), .inr (some 57), .inr (some 58), .inr (some 59), .inr (some 60), .inr (some 61)]), (1, zrow), (1, zrow), (1, zrow), (1, zrow), (1, zrow), (1, zs5), (1, zs6), (1, zs7), (1, zs8), (1, zs9), (1, zs10), (1, zs11), (1, zs12), (1, zs13), (1, zs14), (1, zs15), (1, zs16), (1, zs17), (1, zs18), (1, zs19), (1, zs20), (1, zs21), (1, zs22), (1, zs23), (4, [.inr (some 63), .inr (some 64), .inr (some 65), .inr (some 66), .inr (some 67), .inr (some 68), .inr (some 69), .inr (some 70), .inr (some 71), .inr (some 72), .inr (some 73), .inr (some 74), .inr (some 75), .inr (some 76), .inr (some 77), .inr (some 78), .inr (some 79), .inr (some 80), .inr (some 81), .inr (some 82), .inr (some 83), .inr (some 84), .inr (some 85), .inr (some 86)]), (1, zrow), (1, zrow), (1, zrow), (1, zrow), (1, zrow), (1, zm5), (1, zm6), (1, zm7), (1, zm8), (1, zm9), (1, zm10), (1, zm11), (1, zm12), (1, zm13), (1, zm14), (1, zm15), (1, zm16), (1, zm17), (1, zm18), (1, zm19), (1, zm20), (1, zm21), (1, zm22), (1, zm23)]
def hB5 : List MC := hM14 ++ (tb5 ++ gg5)
def lB5 : List (Option MV) := [some (.inr (some 0)), some (.inr (some 31)), some (.inr (some 36)), some (.inr (some 37)), some (.inr (some 62)), some (.inl 4), some (.inl (-1))]
def tb4 : List MC := [(4, [.inr (some 38), .inr (some 39), .inr (some 40), .inr (some 41), .inr (some 42), .inr (some 43), .inr (some 44), .inr (some 45), .inr (some 46), .inr (some 47), .inr (some 48), .inr (some 49), .inr (some 50), .inr (some 51), .inr (some 52), .inr (some 53), .inr (some 54), .inr (some 55), .inr (some 56), .inr (some 57), .inr (some 58), .inr (some 59), .inr (some 60), .inr (some 61)]), (1, zrow), (1, zrow), (1, zrow), (1, zrow), (1, zs4), (1, zs5), (1, zs6), (1, zs7), (1, zs8), (1, zs9), (1, zs10), (1, zs11), (1, zs12), (1, zs13), (1, zs14), (1, zs15), (1, zs16), (1, zs17), (1, zs18), (1, zs19), (1, zs20), (1, zs21), (1, zs22), (1, zs23), (4, [.inr (some 63), .inr (some 64), .inr (some 65), .inr (some 66), .inr (some 67), .inr (some 68), .inr (some 69), .inr (some 70), .inr (some 71), .inr (some 72), .inr (some 73), .inr (some 74), .inr (some 75), .inr (some 76), .inr (some 77), .inr (some 78), .inr (some 79), .inr (some 80), .inr (some 81), .inr (some 82), .inr (some 83), .inr (some 84), .inr (some 85), .inr (some 86)]), (1, zrow), (1, zrow), (1, zrow), (1, zrow), (1, zm4), (1, zm5), (1, zm6), (1, zm7), (1, zm8), (1, zm9), (1, zm10), (1, zm11), (1, zm12), (1, zm13), (1, zm14), (1, zm15), (1, zm16), (1, zm17), (1, zm18), (1, zm19), (1, zm20), (1, zm21), (1, zm22), (1, zm23)]
def hB4 : List MC := hM14 ++ (tb4 ++ gg4)
def lB4 : List (Option MV) := [some (.inr (some 0)), some (.inr (some 31)), some (.inr (some 36)), some (.inr (some 37)), some (.inr (some 62)), some (.inl 3), some (.inl (-1))]
def tb3 : List MC := [(4, [.inr (some 38), .inr (some 39), .inr (some 40), .inr (some 41), .inr (some 42), .inr (some 43), .inr (some 44), .inr (some 45), .inr (some 46), .inr (some 47), .inr (some 48), .inr (some 49), .inr (some 50), .inr (some 51), .inr (some 52), .inr (some 53), .inr (some 54), .inr (some 55), .inr (some 56), .inr (some 57), .inr (some 58), .inr (some 59), .inr (some 60), .inr (some 61)]), (1, zrow), (1, zrow), (1, zrow), (1, zs3), (1, zs4), (1, zs5), (1, zs6), (1, zs7), (1, zs8), (1, zs9), (1, zs10), (1, zs11), (1, zs12), (1, zs13), (1, zs14), (1, zs15), (1, zs16), (1, zs17), (1, zs18), (1, zs19), (1, zs20), (1, zs21), (1, zs22), (1, zs23), (4, [.inr (some 63), .inr (some 64), .inr (some 65), .inr (some 66), .inr (some 67), .inr (some 68), .inr (some 69), .inr (some 70), .inr (some 71), .inr (some 72), .inr (some 73), .inr (some 74), .inr (some 75), .inr (some 76), .inr (some 77), .inr (some 78), .inr (some 79), .inr (some 80), .inr (some 81), .inr (some 82), .inr (some 83), .inr (some 84), .inr (some 85), .inr (some 86)]), (1, zrow), (1, zrow), (1, zrow), (1, zm3), (1, zm4), (1, zm5), (1, zm6), (1, zm7), (1, zm8), (1, zm9), (1, zm10), (1, zm11), (1, zm12), (1, zm13), (1, zm14), (1, zm15), (1, zm16), (1, zm17), (1, zm18), (1, zm19), (1, zm20), (1, zm21), (1, zm22), (1, zm23)]
def hB3 : List MC := hM14 ++ (tb3 ++ gg3)
def lB3 : List (Option MV) := [some (.inr (some 0)), some (.inr (some 31)), some (.inr (some 36)), some (.inr (some 37)), some (.inr (some 62)), some (.inl 2), some (.inl (-1))]
def tb2 : List MC := [(4, [.inr (some 38), .inr (some 39), .inr (some 40), .inr (some 41), .inr (some 42), .inr (some 43), .inr (some 44), .inr (some 45), .inr (some 46), .inr (some 47), .inr (some 48), .inr (some 49), .inr (some 50), .inr (some 51), .inr (some 52), .inr (some 53), .inr (some 54), .inr (some 55), .inr (some 56), .inr (some 57), .inr (some 58), .inr (some 59), .inr (some 60), .inr (some 61)]), (1, zrow), (1, zrow), (1, zs2), (1, zs3), (1, zs4), (1, zs5), (1, zs6), (1, zs7), (1, zs8), (1, zs9), (1, zs10), (1, zs11), (1, zs12), (1, zs13), (1, zs14), (1, zs15), (1, zs16), (1, zs17), (1, zs18), (1, zs19), (1, zs20), (1, zs21), (1, zs22), (1, zs23), (4, [.inr (some 63), .inr (some 64), .inr (some 65), .inr (some 66), .inr (some 67), .inr (some 68), .inr (some 69), .inr (some 70), .inr (some 71), .inr (some 72), .inr (some 73), .inr (some 74), .inr (some 75), .inr (some 76), .inr (some 77), .inr (some 78), .inr (some 79), .inr (some 80), .inr (some 81), .inr (some 82), .inr (some 83), .inr (some 84), .inr (some 85), .inr (some 86)]), (1, zrow), (1, zrow), (1, zm2), (1, zm3), (1, zm4), (1, zm5), (1, zm6), (1, zm7), (1, zm8), (1, zm9), (1, zm10), (1, zm11), (1, zm12), (1, zm13), (1, zm14), (1, zm15), (1, zm16), (1, zm17), (1, zm18), (1, zm19), (1, zm20), (1, zm21), (1, zm22), (1, zm23)]
def hB2 : List MC := hM14 ++ (tb2 ++ gg2)
def lB2 : List (Option MV) := [some (.inr (some 0)), some (.inr (some 31)), some (.inr (some 36)), some (.inr (some 37)), some (.inr (some 62)), some (.inl 1), some (.inl (-1))]
def tb1 : List MC := [(4, [.inr (some 38), .inr (some 39), .inr (some 40), .inr (some 41), .inr (some 42), .inr (some 43), .inr (some 44), .inr (some 45), .inr (some 46), .inr (some 47), .inr (some 48), .inr (some 49), .inr (some 50), .inr (some 51), .inr (some 52), .inr (some 53), .inr (some 54), .inr (some 55), .inr (some 56), .inr (some 57), .inr (some 58), .inr (some 59), .inr (some 60), .inr (some 61)]), (1, zrow), (1, zs1), (1, zs2), (1, zs3), (1, zs4), (1, zs5), (1, zs6), (1, zs7), (1, zs8), (1, zs9), (1, zs10), (1, zs11), (1, zs12), (1, zs13), (1, zs14), (1, zs15), (1, zs16), (1, zs17), (1, zs18), (1, zs19), (1, zs20), (1, zs21), (1, zs22), (1, zs23), (4, [.inr (some 63), .inr (some 64), .inr (some 65), .inr (some 66), .inr (some 67), .inr (some 68), .inr (some 69), .inr (some 70), .inr (some 71), .inr (some 72), .inr (some 73), .inr (some 74), .inr (some 75), .inr (some 76), .inr (some 77), .inr (some 78), .inr (some 79), .inr (some 80), .inr (some 81), .inr (some 82), .inr (some 83), .inr (some 84), .inr (some 85), .inr (some 86)]), (1, zrow), (1, zm1), (1, zm2), (1, zm3), (1, zm4), (1, zm5), (1, zm6), (1, zm7), (1, zm8), (1, zm9), (1, zm10), (1, zm11), (1, zm12), (1, zm13), (1, zm14), (1, zm15), (1, zm16), (1, zm17), (1, zm18), (1, zm19), (1, zm20), (1, zm21), (1, zm22), (1, zm23)]
def hB1 : List MC := hM14 ++ (tb1 ++ gg1)
def lB1 : List (Option MV) := [some (.inr (some 0)), some (.inr (some 31)), some (.inr (some 36)), some (.inr (some 37)), some (.inr (some 62)), some (.inl 0), some (.inl (-1))]
def tb0 : List MC := [(4, [.inr (some 38), .inr (some 39), .inr (some 40), .inr (some 41), .inr (some 42), .inr (some 43), .inr (some 44), .inr (some 45), .inr (some 46), .inr (some 47), .inr (some 48), .inr (some 49), .inr (some 50), .inr (some 51), .inr (some 52), .inr (some 53), .inr (some 54), .inr (some 55), .inr (some 56), .inr (some 57), .inr (some 58), .inr (some 59), .inr (some 60), .inr (some 61)]), (1, zs0), (1, zs1), (1, zs2), (1, zs3), (1, zs4), (1, zs5), (1, zs6), (1, zs7), (1, zs8), (1, zs9), (1, zs10), (1, zs11), (1, zs12), (1, zs13), (1, zs14), (1, zs15), (1, zs16), (1, zs17), (1, zs18), (1, zs19), (1, zs20), (1, zs21), (1, zs22), (1, zs23), (4, [.inr (some 63), .inr (some 64), .inr (some 65), .inr (some 66), .inr (some 67), .inr (some 68), .inr (some 69), .inr (some 70), .inr (some 71), .inr (some 72), .inr (some 73), .inr (some 74), .inr (some 75), .inr (some 76), .inr (some 77), .inr (some 78), .inr (some 79), .inr (some 80), .inr (some 81), .inr (some 82), .inr (some 83), .inr (some 84), .inr (some 85), .inr (some 86)]), (1, zm0), (1, zm1), (1, zm2), (1, zm3), (1, zm4), (1, zm5), (1, zm6), (1, zm7), (1, zm8), (1, zm9), (1, zm10), (1, zm11), (1, zm12), (1, zm13), (1, zm14), (1, zm15), (1, zm16), (1, zm17), (1, zm18), (1, zm19), (1, zm20), (1, zm21), (1, zm22), (1, zm23)]
def hB0 : List MC := hM14 ++ (tb0 ++ gg0)
def lB0 : List (Option MV) := [some (.inr (some 0)), some (.inr (some 31)), some (.inr (some 36)), some (.inr (some 37)), some (.inr (some 62)), some (.inl (-1)), some (.inl (-1))]
end
section
set_option maxRecDepth 1000000 in
theorem pB24 : endsP (gxq qtb 3000 8 qr_105 755 17 lB24 [] hB24) 17 lB23 [] hB23 = true := by decide +kernel
end
