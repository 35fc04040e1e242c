/-! TABLES of the small machine, by program out of the words of tables_1 (tools/gen_tables.py) -/
def mF_0 : u_T := fun k => match k with
  | 0 => ("EquationDesk$Tank", "left", "I", false)
  | _ => ("EquationDesk$Tank", "out", "Z", false)
def mF_1 : u_T := fun k => match k with
  | 0 => ("EquationDesk$Signature", "arities", "[I", true)
  | 1 => ("EquationDesk$Signature", "swaps", "[Z", true)
  | 2 => ("EquationDesk$Signature", "count", "I", false)
  | 3 => ("EquationDesk$Signature", "ends", "[I", false)
  | _ => ("EquationDesk$Signature", "spare", "[I", false)
def mF_2 : u_T := fun k => match k with
  | 0 => ("EquationDesk$PathOrder", "signature", "LEquationDesk$Signature;", true)
  | 1 => ("EquationDesk$PathOrder", "table", "[I", true)
  | 2 => ("EquationDesk$PathOrder", "secondOfS", "[I", true)
  | _ => ("EquationDesk$PathOrder", "secondOfT", "[I", true)
def mF_3 : u_T := fun k => match k with
  | 0 => ("EquationDesk$Matcher", "signature", "LEquationDesk$Signature;", true)
  | 1 => ("EquationDesk$Matcher", "tank", "LEquationDesk$Tank;", true)
  | 2 => ("EquationDesk$Matcher", "goesWith", "[I", true)
  | 3 => ("EquationDesk$Matcher", "choices", "[I", true)
  | 4 => ("EquationDesk$Matcher", "open", "I", false)
  | 5 => ("EquationDesk$Matcher", "found", "[I", false)
  | 6 => ("EquationDesk$Matcher", "count", "I", false)
  | 7 => ("EquationDesk$Matcher", "pattern", "[I", false)
  | 8 => ("EquationDesk$Matcher", "term", "[I", false)
  | 9 => ("EquationDesk$Matcher", "start", "I", false)
  | _ => ("EquationDesk$Matcher", "bound", "I", false)
def mF_4 : u_T := fun k => match k with
  | 0 => ("EquationDesk$Row", "cells", "[I", false)
  | _ => ("EquationDesk$Row", "length", "I", false)
def mF_5 : u_T := fun k => match k with
  | 0 => ("EquationDesk$Unification", "signature", "LEquationDesk$Signature;", true)
  | 1 => ("EquationDesk$Unification", "tank", "LEquationDesk$Tank;", true)
  | 2 => ("EquationDesk$Unification", "nodes", "LEquationDesk$Row;", true)
  | 3 => ("EquationDesk$Unification", "waiting", "LEquationDesk$Row;", true)
  | 4 => ("EquationDesk$Unification", "choices", "LEquationDesk$Row;", true)
  | 5 => ("EquationDesk$Unification", "found", "LEquationDesk$Row;", true)
  | 6 => ("EquationDesk$Unification", "foundAt", "LEquationDesk$Row;", true)
  | 7 => ("EquationDesk$Unification", "boundAt", "[I", true)
  | 8 => ("EquationDesk$Unification", "next", "I", false)
  | 9 => ("EquationDesk$Unification", "variable", "I", false)
  | 10 => ("EquationDesk$Unification", "value", "I", false)
  | 11 => ("EquationDesk$Unification", "ways", "I", false)
  | _ => ("EquationDesk$Unification", "count", "I", false)
def mF_6 : u_T := fun k => match k with
  | 0 => ("EquationDesk$Couples", "first", "[[I", true)
  | 1 => ("EquationDesk$Couples", "second", "[[I", true)
  | _ => ("EquationDesk$Couples", "count", "I", false)
def mF_7 : u_T := fun k => match k with
  | 0 => ("EquationDesk$Reducer", "signature", "LEquationDesk$Signature;", true)
  | 1 => ("EquationDesk$Reducer", "matcher", "LEquationDesk$Matcher;", true)
  | 2 => ("EquationDesk$Reducer", "work", "[I", true)
  | 3 => ("EquationDesk$Reducer", "made", "LEquationDesk$Row;", true)
  | 4 => ("EquationDesk$Reducer", "rules", "LEquationDesk$Couples;", false)
  | 5 => ("EquationDesk$Reducer", "length", "I", false)
  | _ => ("EquationDesk$Reducer", "rewritings", "I", false)
def mF_8 : u_T := fun k => match k with
  | 0 => ("EquationDesk$Renaming", "signature", "LEquationDesk$Signature;", true)
  | 1 => ("EquationDesk$Renaming", "names", "[I", true)
  | 2 => ("EquationDesk$Renaming", "used", "I", false)
  | 3 => ("EquationDesk$Renaming", "first", "[I", false)
  | _ => ("EquationDesk$Renaming", "second", "[I", false)
def mF_9 : u_T := fun k => match k with
  | 0 => ("EquationDesk$Completion", "signature", "LEquationDesk$Signature;", true)
  | 1 => ("EquationDesk$Completion", "order", "LEquationDesk$PathOrder;", true)
  | 2 => ("EquationDesk$Completion", "matcher", "LEquationDesk$Matcher;", true)
  | 3 => ("EquationDesk$Completion", "reducer", "LEquationDesk$Reducer;", true)
  | 4 => ("EquationDesk$Completion", "unification", "LEquationDesk$Unification;", true)
  | 5 => ("EquationDesk$Completion", "renaming", "LEquationDesk$Renaming;", true)
  | 6 => ("EquationDesk$Completion", "overlapped", "LEquationDesk$Row;", true)
  | 7 => ("EquationDesk$Completion", "other", "LEquationDesk$Row;", true)
  | 8 => ("EquationDesk$Completion", "staying", "LEquationDesk$Couples;", true)
  | 9 => ("EquationDesk$Completion", "draftRules", "LEquationDesk$Couples;", false)
  | 10 => ("EquationDesk$Completion", "draftPairs", "LEquationDesk$Couples;", false)
  | 11 => ("EquationDesk$Completion", "rules", "LEquationDesk$Couples;", false)
  | 12 => ("EquationDesk$Completion", "pairs", "LEquationDesk$Couples;", false)
  | _ => ("EquationDesk$Completion", "limited", "Z", false)
def mF_10 : u_T := fun k => match k with
  | 0 => ("EquationDesk", "signature", "LEquationDesk$Signature;", true)
  | 1 => ("EquationDesk", "order", "LEquationDesk$PathOrder;", true)
  | 2 => ("EquationDesk", "matcher", "LEquationDesk$Matcher;", true)
  | 3 => ("EquationDesk", "unification", "LEquationDesk$Unification;", true)
  | 4 => ("EquationDesk", "reducer", "LEquationDesk$Reducer;", true)
  | 5 => ("EquationDesk", "completion", "LEquationDesk$Completion;", true)
  | 6 => ("EquationDesk", "renaming", "LEquationDesk$Renaming;", true)
  | 7 => ("EquationDesk", "built", "LEquationDesk$Row;", true)
  | _ => ("EquationDesk", "places", "[[I", true)
def mF_11 : u_T := fun k => match k with
  | 0 => ("EquationDeskModel", "code", "I", false)
  | 1 => ("EquationDeskModel", "arity", "[I", true)
  | 2 => ("EquationDeskModel", "commutes", "[Z", true)
  | 3 => ("EquationDeskModel", "symbols", "I", false)
  | 4 => ("EquationDeskModel", "places", "[[I", true)
  | 5 => ("EquationDeskModel", "lefts", "[[I", true)
  | 6 => ("EquationDeskModel", "rights", "[[I", true)
  | 7 => ("EquationDeskModel", "rules", "I", false)
  | 8 => ("EquationDeskModel", "firsts", "[[I", true)
  | 9 => ("EquationDeskModel", "seconds", "[[I", true)
  | 10 => ("EquationDeskModel", "waiting", "I", false)
  | 11 => ("EquationDeskModel", "limit", "Z", false)
  | 12 => ("EquationDeskModel", "over", "Z", false)
  | 13 => ("EquationDeskModel", "ways", "I", false)
  | 14 => ("EquationDeskModel", "rewritings", "I", false)
  | 15 => ("EquationDeskModel", "fuel", "I", false)
  | 16 => ("EquationDeskModel", "out", "Z", false)
  | 17 => ("EquationDeskModel", "found", "[[[I", false)
  | 18 => ("EquationDeskModel", "founds", "I", false)
  | 19 => ("EquationDeskModel", "names", "[I", false)
  | 20 => ("EquationDeskModel", "named", "I", false)
  | 21 => ("EquationDeskModel", "renamedFirst", "[I", false)
  | _ => ("EquationDeskModel", "renamedSecond", "[I", false)
/-- the classes with objects: name, fields, how many -/
def mcl : List vw_C := [("EquationDesk$Tank", mF_0, 2), ("EquationDesk$Signature", mF_1, 5), ("EquationDesk$PathOrder", mF_2, 4), ("EquationDesk$Matcher", mF_3, 11), ("EquationDesk$Row", mF_4, 2), ("EquationDesk$Unification", mF_5, 13), ("EquationDesk$Couples", mF_6, 3), ("EquationDesk$Reducer", mF_7, 7), ("EquationDesk$Renaming", mF_8, 5), ("EquationDesk$Completion", mF_9, 14), ("EquationDesk", mF_10, 9), ("EquationDeskModel", mF_11, 23)]
/-- the types of their fields -/
def mty : List (List FieldType) := [[.int, .boolean], [(.array .int), (.array .boolean), .int, (.array .int), (.array .int)], [(.object "EquationDesk$Signature"), (.array .int), (.array .int), (.array .int)], [(.object "EquationDesk$Signature"), (.object "EquationDesk$Tank"), (.array .int), (.array .int), .int, (.array .int), .int, (.array .int), (.array .int), .int, .int], [(.array .int), .int], [(.object "EquationDesk$Signature"), (.object "EquationDesk$Tank"), (.object "EquationDesk$Row"), (.object "EquationDesk$Row"), (.object "EquationDesk$Row"), (.object "EquationDesk$Row"), (.object "EquationDesk$Row"), (.array .int), .int, .int, .int, .int, .int], [(.array (.array .int)), (.array (.array .int)), .int], [(.object "EquationDesk$Signature"), (.object "EquationDesk$Matcher"), (.array .int), (.object "EquationDesk$Row"), (.object "EquationDesk$Couples"), .int, .int], [(.object "EquationDesk$Signature"), (.array .int), .int, (.array .int), (.array .int)], [(.object "EquationDesk$Signature"), (.object "EquationDesk$PathOrder"), (.object "EquationDesk$Matcher"), (.object "EquationDesk$Reducer"), (.object "EquationDesk$Unification"), (.object "EquationDesk$Renaming"), (.object "EquationDesk$Row"), (.object "EquationDesk$Row"), (.object "EquationDesk$Couples"), (.object "EquationDesk$Couples"), (.object "EquationDesk$Couples"), (.object "EquationDesk$Couples"), (.object "EquationDesk$Couples"), .boolean], [(.object "EquationDesk$Signature"), (.object "EquationDesk$PathOrder"), (.object "EquationDesk$Matcher"), (.object "EquationDesk$Unification"), (.object "EquationDesk$Reducer"), (.object "EquationDesk$Completion"), (.object "EquationDesk$Renaming"), (.object "EquationDesk$Row"), (.array (.array .int))], [.int, (.array .int), (.array .boolean), .int, (.array (.array .int)), (.array (.array .int)), (.array (.array .int)), .int, (.array (.array .int)), (.array (.array .int)), .int, .boolean, .boolean, .int, .int, .int, .boolean, (.array (.array (.array .int))), .int, (.array .int), .int, (.array .int), (.array .int)]]
/-- the classes that own code -/
def mown : List String := ["EquationDesk$Tank", "EquationDesk$Signature", "EquationDesk$PathOrder", "EquationDesk$Matcher", "EquationDesk$Row", "EquationDesk$Unification", "EquationDesk$Couples", "EquationDesk$Reducer", "EquationDesk$Renaming", "EquationDesk$Completion", "EquationDesk", "EquationDeskModel", "java/util/Arrays", "java/lang/Math", "EquationDeskLaw"]
/-- the methods: name, code, locals, answer, number of the own class, parameters -/
def mmt : List (MethodName × ByteArray × Nat × Option FieldType × Nat × Nat) := [
  (⟨"EquationDesk", "<init>", "()V"⟩, prog_1_method_1_code, 4, none, 10, 0),
  (⟨"EquationDesk$Tank", "<init>", "()V"⟩, prog_10_method_1_code, 1, none, 0, 0),
  (⟨"EquationDesk$Signature", "<init>", "()V"⟩, prog_9_method_1_code, 1, none, 1, 0),
  (⟨"EquationDesk$PathOrder", "<init>", "(LEquationDesk$Signature;)V"⟩, prog_5_method_1_code, 2, none, 2, 1),
  (⟨"EquationDesk$Matcher", "<init>", "(LEquationDesk$Signature;LEquationDesk$Tank;)V"⟩, prog_4_method_1_code, 3, none, 3, 2),
  (⟨"EquationDesk$Unification", "<init>", "(LEquationDesk$Signature;LEquationDesk$Tank;)V"⟩, prog_11_method_1_code, 3, none, 5, 2),
  (⟨"EquationDesk$Row", "<init>", "(I)V"⟩, prog_8_method_1_code, 2, none, 4, 1),
  (⟨"EquationDesk$Reducer", "<init>", "(LEquationDesk$Signature;LEquationDesk$Matcher;)V"⟩, prog_6_method_1_code, 3, none, 7, 2),
  (⟨"EquationDesk$Couples", "<init>", "(I)V"⟩, prog_3_method_1_code, 4, none, 6, 1),
  (⟨"EquationDesk$Renaming", "<init>", "(LEquationDesk$Signature;)V"⟩, prog_7_method_1_code, 2, none, 8, 1),
  (⟨"EquationDesk$Completion", "<init>", "(LEquationDesk$Signature;LEquationDesk$PathOrder;LEquationDesk$Matcher;LEquationDesk$Reducer;LEquationDesk$Unification;LEquationDesk$Renaming;)V"⟩, prog_2_method_1_code, 7, none, 9, 6),
  (⟨"EquationDesk", "symbol", "(IZ)I"⟩, prog_1_method_2_code, 3, (some .int), 10, 2),
  (⟨"EquationDesk$Signature", "define", "(IZ)I"⟩, prog_9_method_2_code, 3, (some .int), 1, 2),
  (⟨"EquationDesk", "variable", "(II)Z"⟩, prog_1_method_3_code, 3, (some .boolean), 10, 2),
  (⟨"EquationDesk", "isPlace", "(I)Z"⟩, prog_1_method_23_code, 1, (some .boolean), 10, 1),
  (⟨"EquationDesk", "isVariable", "(I)Z"⟩, prog_1_method_24_code, 1, (some .boolean), 10, 1),
  (⟨"EquationDesk", "term", "(IIII)Z"⟩, prog_1_method_4_code, 7, (some .boolean), 10, 4),
  (⟨"EquationDesk$Signature", "isDefined", "(I)Z"⟩, prog_9_method_3_code, 2, (some .boolean), 1, 1),
  (⟨"EquationDesk$Signature", "arityOf", "(I)I"⟩, prog_9_method_4_code, 2, (some .int), 1, 1),
  (⟨"EquationDesk$Row", "add", "(I)V"⟩, prog_8_method_2_code, 2, none, 4, 1),
  (⟨"java/util/Arrays", "copyOf", "([II)[I"⟩, prog_17_method_123_code, 3, (some (.array .int)), 12, 2),
  (⟨"EquationDesk$Row", "addAll", "([III)V"⟩, prog_8_method_3_code, 5, none, 4, 3),
  (⟨"EquationDesk", "putBuilt", "(I)Z"⟩, prog_1_method_21_code, 2, (some .boolean), 10, 1),
  (⟨"EquationDesk$Signature", "sort", "([III)V"⟩, prog_9_method_7_code, 11, none, 1, 3),
  (⟨"EquationDesk$Row", "copy", "()[I"⟩, prog_8_method_4_code, 1, (some (.array .int)), 4, 0),
  (⟨"EquationDesk", "size", "(I)I"⟩, prog_1_method_5_code, 2, (some .int), 10, 1),
  (⟨"EquationDesk", "node", "(II)I"⟩, prog_1_method_6_code, 4, (some .int), 10, 2),
  (⟨"EquationDesk", "same", "(II)Z"⟩, prog_1_method_7_code, 3, (some .boolean), 10, 2),
  (⟨"EquationDesk", "areSame", "([I[I)Z"⟩, prog_1_method_25_code, 2, (some .boolean), 10, 2),
  (⟨"EquationDesk", "haveSameNodes", "([II[III)Z"⟩, prog_1_method_26_code, 6, (some .boolean), 10, 5),
  (⟨"EquationDesk", "greater", "(II)Z"⟩, prog_1_method_8_code, 3, (some .boolean), 10, 2),
  (⟨"EquationDesk$PathOrder", "isAbove", "([I[I)Z"⟩, prog_5_method_2_code, 5, (some .boolean), 2, 2),
  (⟨"EquationDesk$PathOrder", "findSeconds", "([I[I)V"⟩, prog_5_method_3_code, 4, none, 2, 2),
  (⟨"EquationDesk$Signature", "end", "([II)I"⟩, prog_9_method_6_code, 5, (some .int), 1, 2),
  (⟨"EquationDesk$PathOrder", "relation", "(IIII)I"⟩, prog_5_method_4_code, 7, (some .int), 2, 4),
  (⟨"EquationDesk$PathOrder", "known", "(II)I"⟩, prog_5_method_5_code, 3, (some .int), 2, 2),
  (⟨"EquationDesk$PathOrder", "haveSameArguments", "(III)Z"⟩, prog_5_method_6_code, 4, (some .boolean), 2, 3),
  (⟨"EquationDesk$PathOrder", "argumentsDecide", "(III)Z"⟩, prog_5_method_7_code, 8, (some .boolean), 2, 3),
  (⟨"EquationDesk$Signature", "isCommutative", "(I)Z"⟩, prog_9_method_5_code, 2, (some .boolean), 1, 1),
  (⟨"EquationDesk", "matches", "(II)I"⟩, prog_1_method_9_code, 3, (some .int), 10, 2),
  (⟨"EquationDesk$Matcher", "findAll", "([I[II)I"⟩, prog_4_method_2_code, 9, (some .int), 3, 3),
  (⟨"EquationDesk$Matcher", "keep", "()V"⟩, prog_4_method_6_code, 2, none, 3, 0),
  (⟨"EquationDesk$Matcher", "turnCrosswise", "()I"⟩, prog_4_method_7_code, 3, (some .int), 3, 0),
  (⟨"EquationDesk$Tank", "take", "(I)Z"⟩, prog_10_method_2_code, 2, (some .boolean), 0, 1),
  (⟨"EquationDesk$Matcher", "takePair", "(III)Z"⟩, prog_4_method_4_code, 7, (some .boolean), 3, 3),
  (⟨"EquationDesk$Matcher", "firstLike", "(II)I"⟩, prog_4_method_5_code, 5, (some .int), 3, 2),
  (⟨"EquationDesk", "match", "(IIIII)Z"⟩, prog_1_method_10_code, 9, (some .boolean), 10, 5),
  (⟨"EquationDesk$Matcher", "boundTo", "(II)I"⟩, prog_4_method_3_code, 4, (some .int), 3, 2),
  (⟨"java/util/Arrays", "copyOfRange", "([III)[I"⟩, prog_17_method_136_code, 3, (some (.array .int)), 12, 3),
  (⟨"java/util/Arrays", "copyOfRangeInt", "([III)[I"⟩, prog_17_method_137_code, 5, (some (.array .int)), 12, 3),
  (⟨"java/util/Arrays", "checkLength", "(II)V"⟩, prog_17_method_131_code, 2, none, 12, 2),
  (⟨"EquationDesk", "unifiers", "(II)I"⟩, prog_1_method_11_code, 3, (some .int), 10, 2),
  (⟨"EquationDesk$Unification", "findAll", "([II[II)I"⟩, prog_11_method_2_code, 7, (some .int), 5, 4),
  (⟨"EquationDesk$Unification", "begin", "([II[II)V"⟩, prog_11_method_4_code, 6, none, 5, 4),
  (⟨"java/util/Arrays", "fill", "([II)V"⟩, prog_17_method_103_code, 4, none, 12, 2),
  (⟨"EquationDesk$Unification", "pushPair", "(II)V"⟩, prog_11_method_5_code, 3, none, 5, 2),
  (⟨"EquationDesk$Unification", "takePair", "()I"⟩, prog_11_method_6_code, 8, (some .int), 5, 0),
  (⟨"EquationDesk$Unification", "withBindings", "(I)I"⟩, prog_11_method_8_code, 8, (some .int), 5, 1),
  (⟨"EquationDesk$Unification", "isBound", "(I)Z"⟩, prog_11_method_9_code, 2, (some .boolean), 5, 1),
  (⟨"EquationDesk$Unification", "rememberChoice", "(II)V"⟩, prog_11_method_10_code, 3, none, 5, 2),
  (⟨"EquationDesk$Unification", "bind", "()I"⟩, prog_11_method_7_code, 4, (some .int), 5, 0),
  (⟨"EquationDesk$Unification", "keep", "()V"⟩, prog_11_method_12_code, 3, none, 5, 0),
  (⟨"EquationDesk$Unification", "isLike", "(I)Z"⟩, prog_11_method_13_code, 6, (some .boolean), 5, 1),
  (⟨"EquationDesk$Unification", "turnCrosswise", "()Z"⟩, prog_11_method_11_code, 4, (some .boolean), 5, 0),
  (⟨"EquationDesk", "unifier", "(IIII)Z"⟩, prog_1_method_12_code, 6, (some .boolean), 10, 4),
  (⟨"EquationDesk$Unification", "append", "(LEquationDesk$Row;[IIIII)V"⟩, prog_11_method_3_code, 10, none, 5, 6),
  (⟨"EquationDesk", "equation", "(II)Z"⟩, prog_1_method_13_code, 3, (some .boolean), 10, 2),
  (⟨"EquationDesk$Renaming", "rename", "([II[II)Z"⟩, prog_7_method_2_code, 5, (some .boolean), 8, 4),
  (⟨"EquationDesk$Renaming", "renamed", "([II)[I"⟩, prog_7_method_3_code, 6, (some (.array .int)), 8, 2),
  (⟨"EquationDesk$Couples", "add", "([I[I)V"⟩, prog_3_method_2_code, 3, none, 6, 2),
  (⟨"EquationDesk", "complete", "(I)I"⟩, prog_1_method_14_code, 5, (some .int), 10, 1),
  (⟨"EquationDesk$Completion", "canGoOn", "()Z"⟩, prog_2_method_2_code, 1, (some .boolean), 9, 0),
  (⟨"EquationDesk$Completion", "step", "()I"⟩, prog_2_method_3_code, 9, (some .int), 9, 0),
  (⟨"EquationDesk$Completion", "lightest", "()I"⟩, prog_2_method_5_code, 4, (some .int), 9, 0),
  (⟨"EquationDesk$Reducer", "normalForm", "([ILEquationDesk$Couples;)[I"⟩, prog_6_method_2_code, 3, (some (.array .int)), 7, 2),
  (⟨"EquationDesk$Reducer", "reduceAt", "(II)Z"⟩, prog_6_method_3_code, 10, (some .boolean), 7, 2),
  (⟨"EquationDesk$Reducer", "rewrite", "([III)Z"⟩, prog_6_method_4_code, 6, (some .boolean), 7, 3),
  (⟨"EquationDesk$Completion", "limit", "()I"⟩, prog_2_method_4_code, 1, (some .int), 9, 0),
  (⟨"EquationDesk$Completion", "draftPairsWithout", "(I)V"⟩, prog_2_method_6_code, 3, none, 9, 1),
  (⟨"EquationDesk$Completion", "takeDraftPairs", "()V"⟩, prog_2_method_7_code, 2, none, 9, 0),
  (⟨"EquationDesk$Completion", "partRules", "([I)Z"⟩, prog_2_method_9_code, 6, (some .boolean), 9, 1),
  (⟨"EquationDesk$Completion", "reduceRights", "()Z"⟩, prog_2_method_10_code, 4, (some .boolean), 9, 0),
  (⟨"EquationDesk$Completion", "overlap", "(II)Z"⟩, prog_2_method_11_code, 8, (some .boolean), 9, 2),
  (⟨"EquationDesk$Completion", "addCriticalPair", "(IIII)Z"⟩, prog_2_method_12_code, 9, (some .boolean), 9, 4),
  (⟨"EquationDesk$Completion", "takeDraftRules", "()V"⟩, prog_2_method_8_code, 2, none, 9, 0),
  (⟨"EquationDesk", "rules", "()I"⟩, prog_1_method_15_code, 1, (some .int), 10, 0),
  (⟨"EquationDesk", "rule", "(IZI)Z"⟩, prog_1_method_16_code, 4, (some .boolean), 10, 3),
  (⟨"EquationDesk", "putFrom", "(LEquationDesk$Couples;IZI)Z"⟩, prog_1_method_22_code, 5, (some .boolean), 10, 4),
  (⟨"EquationDesk", "waiting", "()I"⟩, prog_1_method_17_code, 1, (some .int), 10, 0),
  (⟨"EquationDesk", "pair", "(IZI)Z"⟩, prog_1_method_18_code, 4, (some .boolean), 10, 3),
  (⟨"EquationDesk", "reduce", "(II)Z"⟩, prog_1_method_19_code, 4, (some .boolean), 10, 2),
  (⟨"EquationDesk", "prove", "(II)I"⟩, prog_1_method_20_code, 5, (some .int), 10, 2),
  (⟨"EquationDeskModel", "<init>", "()V"⟩, prog_13_method_1_code, 2, none, 11, 0),
  (⟨"EquationDeskModel", "symbol", "(IZ)I"⟩, prog_13_method_38_code, 3, (some .int), 11, 2),
  (⟨"EquationDeskModel", "variable", "(II)Z"⟩, prog_13_method_39_code, 3, (some .boolean), 11, 2),
  (⟨"EquationDeskModel", "isPlace", "(I)Z"⟩, prog_13_method_37_code, 1, (some .boolean), 11, 1),
  (⟨"EquationDeskModel", "term", "(IIII)Z"⟩, prog_13_method_40_code, 8, (some .boolean), 11, 4),
  (⟨"EquationDeskModel", "build", "(I[I[I)[I"⟩, prog_13_method_9_code, 10, (some (.array .int)), 11, 3),
  (⟨"EquationDeskModel", "compare", "([I[I)I"⟩, prog_13_method_8_code, 6, (some .int), 11, 2),
  (⟨"EquationDeskModel", "isVariable", "(I)Z"⟩, prog_13_method_3_code, 2, (some .boolean), 11, 1),
  (⟨"EquationDeskModel", "size", "(I)I"⟩, prog_13_method_41_code, 2, (some .int), 11, 1),
  (⟨"EquationDeskModel", "node", "(II)I"⟩, prog_13_method_42_code, 3, (some .int), 11, 2),
  (⟨"EquationDeskModel", "same", "(II)Z"⟩, prog_13_method_43_code, 3, (some .boolean), 11, 2),
  (⟨"EquationDeskModel", "alike", "([I[I)Z"⟩, prog_13_method_7_code, 4, (some .boolean), 11, 2),
  (⟨"EquationDeskModel", "greater", "(II)Z"⟩, prog_13_method_44_code, 3, (some .boolean), 11, 2),
  (⟨"EquationDeskModel", "isGreater", "([I[I)Z"⟩, prog_13_method_13_code, 7, (some .boolean), 11, 2),
  (⟨"EquationDeskModel", "part", "([II)[I"⟩, prog_13_method_6_code, 6, (some (.array .int)), 11, 2),
  (⟨"EquationDeskModel", "end", "([II)I"⟩, prog_13_method_5_code, 5, (some .int), 11, 2),
  (⟨"EquationDeskModel", "arityOf", "(I)I"⟩, prog_13_method_4_code, 2, (some .int), 11, 1),
  (⟨"EquationDeskModel", "moreAt", "([I[III[[Z[[Z)Z"⟩, prog_13_method_14_code, 14, (some .boolean), 11, 6),
  (⟨"EquationDeskModel", "occurs", "(I[I)Z"⟩, prog_13_method_12_code, 5, (some .boolean), 11, 2),
  (⟨"EquationDeskModel", "matches", "(II)I"⟩, prog_13_method_45_code, 3, (some .int), 11, 2),
  (⟨"EquationDeskModel", "findMatches", "([I[I)V"⟩, prog_13_method_19_code, 3, none, 11, 2),
  (⟨"EquationDeskModel", "match", "([I[I[II[[I)V"⟩, prog_13_method_18_code, 14, none, 11, 5),
  (⟨"EquationDeskModel", "keep", "([[I)V"⟩, prog_13_method_15_code, 5, none, 11, 1),
  (⟨"EquationDeskModel", "spends", "(I)Z"⟩, prog_13_method_17_code, 2, (some .boolean), 11, 1),
  (⟨"EquationDeskModel", "copy", "([[II)[[I"⟩, prog_13_method_16_code, 4, (some (.array (.array .int))), 11, 2),
  (⟨"EquationDeskModel", "match", "(IIIII)Z"⟩, prog_13_method_46_code, 6, (some .boolean), 11, 5),
  (⟨"EquationDeskModel", "unifiers", "(II)I"⟩, prog_13_method_47_code, 3, (some .int), 11, 2),
  (⟨"EquationDeskModel", "findUnifiers", "([I[I)V"⟩, prog_13_method_23_code, 4, none, 11, 2),
  (⟨"EquationDeskModel", "unify", "([[II[[I)V"⟩, prog_13_method_20_code, 13, none, 11, 3),
  (⟨"EquationDeskModel", "wayEnds", "()V"⟩, prog_13_method_21_code, 1, none, 11, 0),
  (⟨"EquationDeskModel", "with", "([II[[I)[I"⟩, prog_13_method_10_code, 6, (some (.array .int)), 11, 3),
  (⟨"EquationDeskModel", "bind", "(I[I[[II[[I)V"⟩, prog_13_method_22_code, 9, none, 11, 5),
  (⟨"EquationDeskModel", "unifier", "(IIII)Z"⟩, prog_13_method_48_code, 6, (some .boolean), 11, 4),
  (⟨"EquationDeskModel", "equation", "(II)Z"⟩, prog_13_method_49_code, 3, (some .boolean), 11, 2),
  (⟨"EquationDeskModel", "rename", "([I[I)Z"⟩, prog_13_method_29_code, 5, (some .boolean), 11, 2),
  (⟨"EquationDeskModel", "name", "([I)V"⟩, prog_13_method_28_code, 5, none, 11, 1),
  (⟨"EquationDeskModel", "add", "([I[I)V"⟩, prog_13_method_30_code, 3, none, 11, 2),
  (⟨"EquationDeskModel", "complete", "(I)I"⟩, prog_13_method_50_code, 5, (some .int), 11, 1),
  (⟨"EquationDeskModel", "step", "()I"⟩, prog_13_method_35_code, 14, (some .int), 11, 0),
  (⟨"EquationDeskModel", "choose", "()I"⟩, prog_13_method_33_code, 3, (some .int), 11, 0),
  (⟨"EquationDeskModel", "reducedByAll", "([I)[I"⟩, prog_13_method_27_code, 2, (some (.array .int)), 11, 1),
  (⟨"EquationDeskModel", "reduced", "([II[[I[[II)[I"⟩, prog_13_method_25_code, 11, (some (.array .int)), 11, 5),
  (⟨"EquationDeskModel", "rewritten", "([I[[I[[II)[I"⟩, prog_13_method_26_code, 7, (some (.array .int)), 11, 4),
  (⟨"EquationDeskModel", "firstMatch", "([I[I)[[I"⟩, prog_13_method_24_code, 3, (some (.array (.array .int))), 11, 2),
  (⟨"EquationDeskModel", "remove", "(I)V"⟩, prog_13_method_34_code, 3, none, 11, 1),
  (⟨"EquationDeskModel", "join", "([I[I)Z"⟩, prog_13_method_36_code, 7, (some .boolean), 11, 2),
  (⟨"EquationDeskModel", "criticalPairs", "(II)Z"⟩, prog_13_method_32_code, 11, (some .boolean), 11, 2),
  (⟨"EquationDeskModel", "higher", "([I)[I"⟩, prog_13_method_31_code, 4, (some (.array .int)), 11, 1),
  (⟨"EquationDeskModel", "replaced", "([III[I)[I"⟩, prog_13_method_11_code, 7, (some (.array .int)), 11, 4),
  (⟨"EquationDeskModel", "rules", "()I"⟩, prog_13_method_51_code, 1, (some .int), 11, 0),
  (⟨"EquationDeskModel", "rule", "(IZI)Z"⟩, prog_13_method_52_code, 4, (some .boolean), 11, 3),
  (⟨"EquationDeskModel", "waiting", "()I"⟩, prog_13_method_53_code, 1, (some .int), 11, 0),
  (⟨"EquationDeskModel", "pair", "(IZI)Z"⟩, prog_13_method_54_code, 4, (some .boolean), 11, 3),
  (⟨"EquationDeskModel", "reduce", "(II)Z"⟩, prog_13_method_55_code, 4, (some .boolean), 11, 2),
  (⟨"EquationDeskModel", "prove", "(II)I"⟩, prog_13_method_56_code, 5, (some .int), 11, 2)]
/-- field links: own class, entry, class, field -/
def mlF : List (Nat × Nat × Nat × Nat) := [(0, 10, 0, 0), (0, 16, 0, 1), (1, 9, 1, 0), (1, 15, 1, 1), (1, 25, 1, 2), (1, 19, 1, 3), (1, 22, 1, 4), (2, 21, 2, 0), (2, 9, 2, 1), (2, 15, 2, 2), (2, 18, 2, 3), (3, 27, 3, 0), (3, 31, 3, 1), (3, 9, 3, 2), (3, 15, 3, 3), (3, 42, 3, 4), (3, 18, 3, 5), (3, 45, 3, 6), (3, 21, 3, 7), (3, 24, 3, 8), (3, 35, 3, 9), (3, 39, 3, 10), (4, 7, 4, 0), (5, 73, 4, 0), (7, 107, 4, 0), (9, 167, 4, 0), (10, 193, 4, 0), (4, 13, 4, 1), (5, 89, 4, 1), (7, 96, 4, 1), (10, 102, 4, 1), (9, 160, 4, 1), (5, 36, 5, 0), (5, 40, 5, 1), (5, 14, 5, 2), (5, 20, 5, 3), (5, 23, 5, 4), (5, 26, 5, 5), (5, 29, 5, 6), (5, 32, 5, 7), (5, 49, 5, 8), (5, 116, 5, 9), (5, 119, 5, 10), (5, 63, 5, 11), (5, 66, 5, 12), (6, 9, 6, 0), (9, 78, 6, 0), (7, 79, 6, 0), (10, 205, 6, 0), (6, 15, 6, 1), (9, 88, 6, 1), (7, 89, 6, 1), (10, 203, 6, 1), (6, 18, 6, 2), (9, 70, 6, 2), (7, 76, 6, 2), (10, 152, 6, 2), (7, 31, 7, 0), (7, 35, 7, 1), (7, 9, 7, 2), (7, 20, 7, 3), (7, 27, 7, 4), (7, 39, 7, 5), (7, 43, 7, 6), (8, 21, 8, 0), (8, 9, 8, 1), (8, 31, 8, 2), (8, 15, 8, 3), (9, 115, 8, 3), (10, 161, 8, 3), (8, 18, 8, 4), (9, 122, 8, 4), (10, 164, 8, 4), (9, 42, 9, 0), (9, 46, 9, 1), (9, 50, 9, 2), (9, 54, 9, 3), (9, 58, 9, 4), (9, 62, 9, 5), (9, 14, 9, 6), (9, 20, 9, 7), (9, 26, 9, 8), (9, 30, 9, 9), (9, 33, 9, 10), (9, 36, 9, 11), (10, 182, 9, 11), (9, 39, 9, 12), (10, 148, 9, 12), (9, 66, 9, 13), (10, 178, 9, 13), (10, 13, 10, 0), (10, 24, 10, 1), (10, 33, 10, 2), (10, 40, 10, 3), (10, 49, 10, 4), (10, 65, 10, 5), (10, 56, 10, 6), (10, 74, 10, 7), (10, 80, 10, 8), (11, 47, 11, 0), (11, 7, 11, 1), (11, 13, 11, 2), (11, 207, 11, 3), (11, 18, 11, 4), (11, 22, 11, 5), (11, 25, 11, 6), (11, 154, 11, 7), (11, 28, 11, 8), (11, 31, 11, 9), (11, 170, 11, 10), (11, 213, 11, 11), (11, 118, 11, 12), (11, 132, 11, 13), (11, 151, 11, 14), (11, 35, 11, 15), (11, 99, 11, 16), (11, 40, 11, 17), (11, 96, 11, 18), (11, 44, 11, 19), (11, 157, 11, 20), (11, 164, 11, 21), (11, 167, 11, 22)]
/-- class links of new: own class, entry, class -/
def mlN : List (Nat × Nat × Nat) := [(14, 7, 10), (10, 7, 0), (10, 10, 1), (10, 19, 2), (10, 28, 3), (10, 37, 5), (5, 9, 4), (10, 44, 7), (7, 15, 4), (7, 24, 6), (10, 53, 8), (10, 60, 9), (9, 9, 4), (9, 23, 6), (10, 69, 4), (14, 10, 11)]
/-- class links of anewarray: own class, entry, kind of the array that is made (2: int[][], 3: int[][][]); of multianewarray (4: boolean[][]) -/
def mlA : List (Nat × Nat × Nat) := [(6, 7, 2), (10, 78, 2), (12, 317, 2), (11, 17, 2), (11, 39, 3), (11, 82, 4)]
/-- method links: own class, entry, kind (0 virtual, 1 static, 2 constructor, 3 Object's, 4 arraycopy, 5 static of the nest, 6 constructor of the nest, 7 min, 8 clone of an int[]), method -/
def mlM : List (Nat × Nat × Nat × Nat) := [(14, 9, 2, 0), (10, 1, 3, 0), (10, 9, 6, 1), (0, 3, 3, 0), (10, 12, 6, 2), (1, 3, 3, 0), (10, 21, 2, 3), (2, 3, 3, 0), (10, 30, 2, 4), (3, 3, 3, 0), (10, 39, 2, 5), (5, 3, 3, 0), (5, 11, 2, 6), (4, 1, 3, 0), (10, 46, 2, 7), (7, 3, 3, 0), (7, 17, 2, 6), (7, 26, 2, 8), (6, 1, 3, 0), (10, 55, 2, 9), (8, 3, 3, 0), (10, 62, 2, 10), (9, 3, 3, 0), (9, 11, 2, 6), (9, 25, 2, 8), (10, 71, 2, 6), (14, 13, 0, 11), (10, 84, 0, 12), (14, 18, 0, 13), (10, 88, 1, 14), (10, 92, 1, 15), (14, 23, 0, 16), (10, 95, 0, 17), (10, 98, 0, 18), (10, 106, 0, 19), (4, 17, 1, 20), (12, 316, 8, 0), (12, 304, 7, 0), (12, 150, 4, 0), (10, 109, 0, 21), (4, 23, 4, 0), (10, 113, 0, 22), (10, 196, 0, 23), (1, 29, 4, 0), (10, 199, 0, 24), (14, 28, 0, 25), (14, 33, 0, 26), (14, 38, 0, 27), (10, 116, 1, 28), (10, 207, 1, 29), (14, 42, 0, 30), (10, 120, 0, 31), (2, 25, 0, 32), (2, 33, 0, 18), (2, 39, 0, 33), (2, 29, 0, 34), (2, 43, 0, 35), (2, 47, 0, 36), (2, 51, 0, 37), (2, 54, 0, 38), (14, 46, 0, 39), (10, 123, 0, 40), (3, 49, 0, 41), (3, 83, 1, 20), (3, 52, 0, 42), (3, 56, 0, 33), (3, 62, 0, 43), (3, 68, 0, 44), (3, 72, 0, 45), (3, 76, 0, 18), (3, 80, 0, 38), (14, 50, 0, 46), (10, 127, 0, 47), (10, 131, 0, 33), (10, 135, 1, 48), (12, 351, 1, 49), (12, 343, 1, 50), (14, 55, 0, 51), (10, 141, 0, 52), (5, 44, 0, 53), (5, 92, 1, 54), (5, 76, 0, 19), (5, 79, 0, 33), (5, 85, 0, 21), (5, 98, 0, 55), (5, 53, 0, 56), (5, 102, 0, 57), (5, 131, 0, 58), (5, 134, 0, 23), (5, 106, 0, 43), (5, 112, 5, 29), (5, 122, 0, 38), (5, 125, 0, 59), (5, 128, 0, 18), (5, 57, 0, 60), (5, 60, 0, 61), (5, 143, 0, 62), (5, 69, 0, 63), (5, 137, 4, 0), (14, 59, 0, 64), (10, 144, 0, 65), (14, 63, 0, 66), (10, 157, 0, 67), (8, 25, 1, 54), (8, 35, 0, 68), (8, 39, 1, 20), (8, 42, 0, 23), (10, 167, 0, 69), (14, 67, 0, 70), (10, 170, 0, 71), (10, 174, 0, 72), (9, 74, 0, 73), (9, 82, 0, 74), (7, 46, 4, 0), (7, 52, 0, 75), (7, 62, 0, 18), (7, 68, 0, 33), (7, 72, 0, 23), (7, 83, 0, 40), (7, 92, 0, 76), (7, 97, 0, 47), (7, 101, 0, 19), (7, 104, 0, 21), (7, 56, 1, 20), (9, 91, 0, 77), (9, 94, 0, 78), (9, 124, 0, 69), (9, 97, 5, 28), (9, 101, 0, 79), (9, 104, 0, 31), (9, 109, 0, 67), (9, 118, 0, 80), (9, 139, 0, 33), (9, 145, 0, 40), (9, 128, 0, 81), (9, 132, 0, 82), (9, 151, 0, 52), (9, 156, 0, 83), (9, 163, 0, 65), (9, 170, 0, 23), (9, 136, 0, 84), (14, 71, 0, 85), (14, 76, 0, 86), (10, 185, 0, 87), (14, 81, 0, 88), (14, 85, 0, 89), (14, 89, 0, 90), (10, 189, 0, 74), (14, 93, 0, 91), (14, 12, 2, 92), (11, 1, 3, 0), (14, 17, 0, 93), (14, 22, 0, 94), (11, 210, 1, 95), (14, 27, 0, 96), (11, 74, 0, 97), (11, 62, 0, 98), (11, 50, 0, 99), (14, 32, 0, 100), (14, 37, 0, 101), (14, 41, 0, 102), (11, 84, 1, 103), (14, 45, 0, 104), (11, 197, 0, 105), (11, 66, 0, 106), (11, 58, 0, 107), (11, 54, 0, 108), (11, 88, 0, 109), (11, 92, 0, 110), (14, 49, 0, 111), (11, 135, 0, 112), (11, 114, 0, 113), (11, 103, 0, 114), (11, 107, 0, 115), (11, 110, 1, 116), (14, 54, 0, 117), (14, 58, 0, 118), (11, 177, 0, 119), (11, 124, 0, 120), (11, 121, 0, 121), (11, 70, 0, 122), (11, 128, 0, 123), (14, 62, 0, 124), (14, 66, 0, 125), (11, 180, 0, 126), (11, 160, 0, 127), (11, 183, 0, 128), (14, 70, 0, 129), (11, 216, 0, 130), (11, 186, 0, 131), (11, 190, 0, 132), (11, 139, 0, 133), (11, 143, 0, 134), (11, 147, 0, 135), (11, 193, 0, 136), (11, 200, 0, 137), (11, 203, 0, 138), (11, 173, 0, 139), (11, 78, 0, 140), (14, 75, 0, 141), (14, 80, 0, 142), (14, 84, 0, 143), (14, 88, 0, 144), (14, 92, 0, 145), (14, 96, 0, 146)]
/-- constants: own class, entry, value -/
def mlC : List (Nat × Nat × Int32) := [(0, 9, 120000), (3, 48, 1000000), (5, 48, 1000000), (11, 34, 120000)]
