/-! ===== THE TABLES: classes, methods, links, by program (wip/whole/print_tables.py) ===== -/
def wl : List Cond := lw_tbl.filter goodWord
theorem wl_t (i : Nat) {w : Cond} (h : tables_1[i]? = some w) (hg : goodWord w = true) : w ∈ wl := List.mem_filter.mpr ⟨List.mem_append_right _ (List.mem_of_getElem? h), hg⟩
theorem wl_s (i : Nat) {w : Cond} (h : (k2_sels lw_privs)[i]? = some w) (hg : goodWord w = true) : w ∈ wl := List.mem_filter.mpr ⟨List.mem_append_left _ (List.mem_of_getElem? h), hg⟩
def T_0 : u_T := fun k => match k with
  | 0 => ("TierPods$AllPairs", "shape", "LTierPods$Shape;", true)
  | 1 => ("TierPods$AllPairs", "journey", "LTierPods$Journey;", true)
  | 2 => ("TierPods$AllPairs", "timesUp", "[I", true)
  | 3 => ("TierPods$AllPairs", "timesDown", "[I", true)
  | _ => ("TierPods$AllPairs", "arrivals", "I", false)
def Y_0 : Nat → FieldType := fun k => match k with
  | 0 => .object "TierPods$Shape"
  | 1 => .object "TierPods$Journey"
  | 2 => .array .int
  | 3 => .array .int
  | _ => .int
def T_1 : u_T := fun k => match k with
  | 0 => ("TierPods$Journey", "shape", "LTierPods$Shape;", true)
  | 1 => ("TierPods$Journey", "visited", "[I", true)
  | 2 => ("TierPods$Journey", "goneOver", "[I", true)
  | 3 => ("TierPods$Journey", "visits", "I", false)
  | _ => ("TierPods$Journey", "arrived", "Z", false)
def Y_1 : Nat → FieldType := fun k => match k with
  | 0 => .object "TierPods$Shape"
  | 1 => .array .int
  | 2 => .array .int
  | 3 => .int
  | _ => .boolean
def T_2 : u_T := fun k => match k with
  | 0 => ("TierPods$Script", "letters", "[C", true)
  | 1 => ("TierPods$Script", "length", "I", false)
  | 2 => ("TierPods$Script", "k", "I", false)
  | _ => ("TierPods$Script", "at", "I", false)
def Y_2 : Nat → FieldType := fun k => match k with
  | 0 => .array .char
  | 1 => .int
  | 2 => .int
  | _ => .int
def T_3 : u_T := fun k => match k with
  | 0 => ("TierPods$Shape", "pods", "I", false)
  | 1 => ("TierPods$Shape", "half", "I", false)
  | 2 => ("TierPods$Shape", "edges", "I", false)
  | 3 => ("TierPods$Shape", "hosts", "I", false)
  | 4 => ("TierPods$Shape", "switches", "I", false)
  | 5 => ("TierPods$Shape", "links", "I", false)
  | 6 => ("TierPods$Shape", "tierOf", "[I", true)
  | 7 => ("TierPods$Shape", "podOf", "[I", true)
  | 8 => ("TierPods$Shape", "placeOf", "[I", true)
  | 9 => ("TierPods$Shape", "memberOf", "[I", true)
  | 10 => ("TierPods$Shape", "lowerOf", "[I", true)
  | 11 => ("TierPods$Shape", "upperOf", "[I", true)
  | 12 => ("TierPods$Shape", "edgeOf", "[I", true)
  | _ => ("TierPods$Shape", "digitOf", "[I", true)
def Y_3 : Nat → FieldType := fun k => match k with
  | 0 => .int
  | 1 => .int
  | 2 => .int
  | 3 => .int
  | 4 => .int
  | 5 => .int
  | 6 => .array .int
  | 7 => .array .int
  | 8 => .array .int
  | 9 => .array .int
  | 10 => .array .int
  | 11 => .array .int
  | 12 => .array .int
  | _ => .array .int
def T_4 : u_T := fun k => match k with
  | 0 => ("TierPods$Sharing", "shape", "LTierPods$Shape;", true)
  | 1 => ("TierPods$Sharing", "journey", "LTierPods$Journey;", true)
  | 2 => ("TierPods$Sharing", "steps", "[I", true)
  | 3 => ("TierPods$Sharing", "stepCounts", "[I", true)
  | _ => ("TierPods$Sharing", "users", "[I", true)
def Y_4 : Nat → FieldType := fun k => match k with
  | 0 => .object "TierPods$Shape"
  | 1 => .object "TierPods$Journey"
  | 2 => .array .int
  | 3 => .array .int
  | _ => .array .int
def T_5 : u_T := fun k => match k with
  | 0 => ("TierPods$State", "ages", "[I", true)
  | 1 => ("TierPods$State", "from", "[I", true)
  | 2 => ("TierPods$State", "to", "[I", true)
  | 3 => ("TierPods$State", "sizes", "[I", true)
  | 4 => ("TierPods$State", "shifts", "[I", true)
  | 5 => ("TierPods$State", "flows", "I", false)
  | 6 => ("TierPods$State", "marks", "[I", false)
  | 7 => ("TierPods$State", "links", "I", false)
  | _ => ("TierPods$State", "switches", "I", false)
def Y_5 : Nat → FieldType := fun k => match k with
  | 0 => .array .int
  | 1 => .array .int
  | 2 => .array .int
  | 3 => .array .int
  | 4 => .array .int
  | 5 => .int
  | 6 => .array .int
  | 7 => .int
  | _ => .int
def T_6 : u_T := fun k => match k with
  | 0 => ("TierPods$Telling", "shape", "LTierPods$Shape;", true)
  | _ => ("TierPods$Telling", "ahead", "[I", true)
def Y_6 : Nat → FieldType := fun k => match k with
  | 0 => .object "TierPods$Shape"
  | _ => .array .int
def T_7 : u_T := fun k => match k with
  | 0 => ("TierPods$Truth", "shape", "LTierPods$Shape;", true)
  | 1 => ("TierPods$Truth", "fewest", "I", false)
  | _ => ("TierPods$Truth", "most", "I", false)
def Y_7 : Nat → FieldType := fun k => match k with
  | 0 => .object "TierPods$Shape"
  | 1 => .int
  | _ => .int
def T_8 : u_T := fun k => match k with
  | 0 => ("TierPods", "script", "LTierPods$Script;", true)
  | 1 => ("TierPods", "shape", "LTierPods$Shape;", true)
  | 2 => ("TierPods", "journey", "LTierPods$Journey;", true)
  | 3 => ("TierPods", "telling", "LTierPods$Telling;", true)
  | 4 => ("TierPods", "truth", "LTierPods$Truth;", true)
  | 5 => ("TierPods", "allPairs", "LTierPods$AllPairs;", true)
  | 6 => ("TierPods", "sharing", "LTierPods$Sharing;", true)
  | 7 => ("TierPods", "now", "LTierPods$State;", false)
  | 8 => ("TierPods", "last", "LTierPods$State;", false)
  | 9 => ("TierPods", "beforeLast", "LTierPods$State;", false)
  | 10 => ("TierPods", "spare", "LTierPods$State;", false)
  | _ => ("TierPods", "undoable", "I", false)
def Y_8 : Nat → FieldType := fun k => match k with
  | 0 => .object "TierPods$Script"
  | 1 => .object "TierPods$Shape"
  | 2 => .object "TierPods$Journey"
  | 3 => .object "TierPods$Telling"
  | 4 => .object "TierPods$Truth"
  | 5 => .object "TierPods$AllPairs"
  | 6 => .object "TierPods$Sharing"
  | 7 => .object "TierPods$State"
  | 8 => .object "TierPods$State"
  | 9 => .object "TierPods$State"
  | 10 => .object "TierPods$State"
  | _ => .int
def T_9 : u_T := fun k => match k with
  | 0 => ("TierPodsModel", "length", "I", false)
  | 1 => ("TierPodsModel", "text", "[I", true)
  | 2 => ("TierPodsModel", "pods", "I", false)
  | 3 => ("TierPodsModel", "half", "I", false)
  | 4 => ("TierPodsModel", "ages", "[I", true)
  | 5 => ("TierPodsModel", "marks", "[I", true)
  | 6 => ("TierPodsModel", "marksThen", "[I", true)
  | 7 => ("TierPodsModel", "flows", "I", false)
  | 8 => ("TierPodsModel", "flowRow", "[I", true)
  | 9 => ("TierPodsModel", "done", "I", false)
  | 10 => ("TierPodsModel", "oldAges", "[I", true)
  | 11 => ("TierPodsModel", "oldMarks", "[I", true)
  | 12 => ("TierPodsModel", "oldFlows", "[I", true)
  | 13 => ("TierPodsModel", "oldMany", "[I", true)
  | 14 => ("TierPodsModel", "toldPods", "I", false)
  | 15 => ("TierPodsModel", "toldFlows", "I", false)
  | 16 => ("TierPodsModel", "toldRow", "[I", true)
  | 17 => ("TierPodsModel", "toldCuts", "[I", true)
  | 18 => ("TierPodsModel", "hops", "I", false)
  | 19 => ("TierPodsModel", "hopRow", "[I", true)
  | 20 => ("TierPodsModel", "linkRow", "[I", true)
  | 21 => ("TierPodsModel", "hasArrived", "Z", false)
  | 22 => ("TierPodsModel", "ups", "[I", true)
  | 23 => ("TierPodsModel", "downs", "[I", true)
  | 24 => ("TierPodsModel", "outs", "[I", true)
  | 25 => ("TierPodsModel", "ins", "[I", true)
  | 26 => ("TierPodsModel", "shares", "[I", true)
  | 27 => ("TierPodsModel", "firstFlows", "[I", true)
  | 28 => ("TierPodsModel", "ends", "I", false)
  | _ => ("TierPodsModel", "shiftsThen", "[I", true)
def Y_9 : Nat → FieldType := fun k => match k with
  | 0 => .int
  | 1 => .array .int
  | 2 => .int
  | 3 => .int
  | 4 => .array .int
  | 5 => .array .int
  | 6 => .array .int
  | 7 => .int
  | 8 => .array .int
  | 9 => .int
  | 10 => .array .int
  | 11 => .array .int
  | 12 => .array .int
  | 13 => .array .int
  | 14 => .int
  | 15 => .int
  | 16 => .array .int
  | 17 => .array .int
  | 18 => .int
  | 19 => .array .int
  | 20 => .array .int
  | 21 => .boolean
  | 22 => .array .int
  | 23 => .array .int
  | 24 => .array .int
  | 25 => .array .int
  | 26 => .array .int
  | 27 => .array .int
  | 28 => .int
  | _ => .array .int
def cN (o : Nat) : String := (["TierPods$AllPairs", "TierPods$Journey", "TierPods$Script", "TierPods$Shape", "TierPods$Sharing", "TierPods$State", "TierPods$Telling", "TierPods$Truth", "TierPods", "TierPodsModel", "TierPodsLaw", "java/util/Arrays"] : List String).getD o ""
def cT (o : Nat) : u_T := ([T_0, T_1, T_2, T_3, T_4, T_5, T_6, T_7, T_8, T_9] : List u_T).getD o T_0
def cY (o : Nat) : Nat → FieldType := ([Y_0, Y_1, Y_2, Y_3, Y_4, Y_5, Y_6, Y_7, Y_8, Y_9] : List (Nat → FieldType)).getD o Y_0
def nF (o : Nat) : Nat := ([5, 5, 4, 14, 5, 9, 2, 3, 12, 30] : List Nat).getD o 0
/-- a field: 0 int, 1 boolean, 2 a reference, 3 a final reference -/
def fK (o k : Nat) : Nat := (([[3, 3, 3, 3, 0], [3, 3, 3, 0, 1], [3, 0, 0, 0], [0, 0, 0, 0, 0, 0, 3, 3, 3, 3, 3, 3, 3, 3], [3, 3, 3, 3, 3], [3, 3, 3, 3, 3, 0, 2, 0, 0], [3, 3], [3, 0, 0], [3, 3, 3, 3, 3, 3, 3, 2, 2, 2, 2, 0], [0, 3, 0, 0, 3, 3, 3, 0, 3, 0, 3, 3, 3, 3, 0, 0, 3, 3, 0, 3, 3, 1, 3, 3, 3, 3, 3, 3, 0, 3]] : List (List Nat)).getD o []).getD k 0
def classes : List vw_C := [("TierPods$AllPairs", T_0, 5), ("TierPods$Journey", T_1, 5), ("TierPods$Script", T_2, 4), ("TierPods$Shape", T_3, 14), ("TierPods$Sharing", T_4, 5), ("TierPods$State", T_5, 9), ("TierPods$Telling", T_6, 2), ("TierPods$Truth", T_7, 3), ("TierPods", T_8, 12), ("TierPodsModel", T_9, 30)]
def mNs : List (String × String) := [("<init>", "(LTierPods$Shape;LTierPods$Journey;)V"), ("survey", "(LTierPods$State;)V"), ("addTimes", "()V"), ("mostTimes", "(LTierPods$State;[I)I"), ("leastTimes", "(LTierPods$State;[I)I"), ("<init>", "(LTierPods$Shape;)V"), ("travel", "(LTierPods$State;III)V"), ("wentUp", "(I)Z"), ("nextLink", "(LTierPods$State;III)I"), ("upFromEdge", "(LTierPods$State;III)I"), ("upFromMiddle", "(LTierPods$State;III)I"), ("<init>", "()V"), ("append", "(C)Z"), ("read", "(LTierPods$State;)I"), ("readItem", "(LTierPods$State;)Z"), ("readK", "()Z"), ("readFlow", "(LTierPods$State;)Z"), ("readHost", "()I"), ("readCut", "(LTierPods$State;)Z"), ("linksFor", "(I)I"), ("readNumber", "(I)I"), ("readFigure", "()I"), ("take", "(C)Z"), ("<init>", "()V"), ("build", "(I)V"), ("numberSwitches", "()V"), ("addSwitch", "(IIII)V"), ("numberHosts", "()V"), ("numberLinks", "()V"), ("middle", "(II)I"), ("core", "(II)I"), ("upLink", "(II)I"), ("byHalf", "(I)I"), ("moduloHalf", "(I)I"), ("otherEnd", "(II)I"), ("<init>", "(LTierPods$Shape;LTierPods$Journey;)V"), ("survey", "(LTierPods$State;)V"), ("route", "(LTierPods$State;II)V"), ("addStep", "(II)V"), ("removeSteps", "(I)V"), ("comesThrough", "(I)Z"), ("shareOf", "(I)I"), ("leastShare", "(I)I"), ("sizesOver", "(LTierPods$State;I)I"), ("improve", "(LTierPods$State;I)Z"), ("<init>", "()V"), ("fit", "(II)V"), ("clear", "()V"), ("copy", "(LTierPods$State;)V"), ("isWhole", "(I)Z"), ("marksOf", "(I)I"), ("markOf", "(II)I"), ("knowsWhole", "(II)Z"), ("turn", "(III)V"), ("tellAll", "()V"), ("lateMarks", "(I)I"), ("addFlow", "(III)Z"), ("removeFlow", "(I)V"), ("<init>", "(LTierPods$Shape;)V"), ("tell", "(LTierPods$State;I)I"), ("tellOnce", "(LTierPods$State;I)I"), ("<init>", "(LTierPods$Shape;)V"), ("waysOf", "(LTierPods$State;III)I"), ("waysOverMiddle", "(LTierPods$State;IIII)I"), ("isOpen", "(LTierPods$State;II)Z"), ("pairsOf", "(II)I"), ("joinedPairs", "(LTierPods$State;I)I"), ("surveyWays", "(LTierPods$State;)V"), ("<init>", "()V"), ("write", "(I)I"), ("wipe", "()I"), ("fault", "()I"), ("lay", "()I"), ("host", "(III)I"), ("node", "(II)I"), ("link", "(II)I"), ("cut", "(II)I"), ("fail", "(I)I"), ("heal", "(I)I"), ("tick", "(I)I"), ("mark", "(II)I"), ("late", "()I"), ("undo", "()I"), ("onward", "(III)I"), ("way", "(IIII)I"), ("arrives", "(III)I"), ("ways", "(II)I"), ("pairs", "(I)I"), ("parts", "(I)I"), ("spread", "(I)I"), ("flow", "(III)I"), ("drop", "(I)I"), ("shift", "(II)I"), ("told", "(II)I"), ("load", "(III)I"), ("least", "()I"), ("would", "(II)I"), ("plan", "()I"), ("count", "(I)I"), ("isSwitch", "(I)Z"), ("isLink", "(I)Z"), ("isHost", "(I)Z"), ("areTwoHosts", "(II)Z"), ("isShift", "(I)Z"), ("isFlow", "(I)Z"), ("hostAt", "(IIII)I"), ("layScript", "()Z"), ("keepForUndo", "()V"), ("countChange", "()V"), ("turn", "(I)V"), ("isEnd", "(II)Z"), ("linksOf", "(IZ)I"), ("turnLinksOf", "(IZ)I"), ("cutLinks", "()I"), ("<init>", "()V"), ("begins", "(I)V"), ("knows", "(I)V"), ("isIn", "(III)Z"), ("letterAt", "(I)I"), ("figure", "(I)I"), ("number", "(II)I"), ("readsHost", "(I)I"), ("readsFlow", "(I)I"), ("readsItem", "(II)I"), ("reads", "()I"), ("write", "(I)I"), ("wipe", "()I"), ("fault", "()I"), ("lay", "()I"), ("hosts", "()I"), ("edges", "()I"), ("switches", "()I"), ("links", "()I"), ("isHost", "(I)Z"), ("isSwitch", "(I)Z"), ("isLink", "(I)Z"), ("isShift", "(I)Z"), ("tier", "(I)I"), ("low", "(III)I"), ("high", "(III)I"), ("lowerOf", "(I)I"), ("upperOf", "(I)I"), ("isWhole", "(I)Z"), ("isEnd", "(II)Z"), ("host", "(III)I"), ("node", "(II)I"), ("link", "(II)I"), ("keeps", "()V"), ("undo", "()I"), ("turns", "(I)V"), ("cut", "(II)I"), ("turnsAll", "(II)I"), ("fail", "(I)I"), ("heal", "(I)I"), ("spreads", "()I"), ("tick", "(I)I"), ("mark", "(II)I"), ("late", "()I"), ("isKnown", "(II)Z"), ("fromEdge", "(III)I"), ("fromMiddle", "(III)I"), ("goes", "(III)I"), ("onward", "(III)I"), ("sends", "(III)V"), ("areTwo", "(II)Z"), ("way", "(IIII)I"), ("arrives", "(III)I"), ("waysOf", "(II)I"), ("ways", "(II)I"), ("pairs", "(I)I"), ("parts", "(I)I"), ("counts", "()V"), ("adds", "(I)V"), ("spread", "(I)I"), ("isFlow", "(I)Z"), ("flow", "(III)I"), ("drop", "(I)I"), ("shift", "(II)I"), ("sendsFlow", "(I)V"), ("measures", "()V"), ("leastShare", "()I"), ("told", "(II)I"), ("load", "(III)I"), ("least", "()I"), ("would", "(II)I"), ("best", "(I)V"), ("plan", "()I"), ("count", "(I)I"), ("law", "([I)Z"), ("fill", "([II)V")]
/-- 0 an instance method, 1 a static one, 2 a constructor -/
def mK (y : Nat) : Nat := ([2, 0, 0, 0, 0, 2, 0, 0, 0, 0, 0, 2, 0, 0, 0, 0, 0, 0, 0, 1, 0, 0, 0, 2, 0, 0, 0, 0, 0, 0, 0, 0, 0, 0, 0, 2, 0, 0, 0, 0, 0, 0, 0, 0, 0, 2, 0, 0, 0, 0, 0, 0, 0, 0, 0, 0, 0, 0, 2, 0, 0, 2, 0, 0, 0, 0, 0, 0, 2, 0, 0, 0, 0, 0, 0, 0, 0, 0, 0, 0, 0, 0, 0, 0, 0, 0, 0, 0, 0, 0, 0, 0, 0, 0, 0, 0, 0, 0, 0, 0, 0, 0, 0, 0, 0, 1, 0, 0, 0, 0, 0, 0, 0, 0, 2, 0, 0, 1, 0, 0, 0, 0, 0, 0, 0, 0, 0, 0, 0, 0, 0, 0, 0, 0, 0, 0, 0, 0, 0, 0, 0, 0, 0, 0, 0, 0, 0, 0, 0, 0, 0, 0, 0, 0, 0, 0, 0, 0, 0, 0, 0, 0, 0, 0, 0, 0, 0, 0, 0, 0, 0, 0, 0, 0, 0, 0, 0, 0, 0, 0, 0, 0, 0, 0, 0, 0, 0, 0, 1, 1] : List Nat).getD y 0
def mO (y : Nat) : Nat := ([0, 0, 0, 0, 0, 1, 1, 1, 1, 1, 1, 2, 2, 2, 2, 2, 2, 2, 2, 2, 2, 2, 2, 3, 3, 3, 3, 3, 3, 3, 3, 3, 3, 3, 3, 4, 4, 4, 4, 4, 4, 4, 4, 4, 4, 5, 5, 5, 5, 5, 5, 5, 5, 5, 5, 5, 5, 5, 6, 6, 6, 7, 7, 7, 7, 7, 7, 7, 8, 8, 8, 8, 8, 8, 8, 8, 8, 8, 8, 8, 8, 8, 8, 8, 8, 8, 8, 8, 8, 8, 8, 8, 8, 8, 8, 8, 8, 8, 8, 8, 8, 8, 8, 8, 8, 8, 8, 8, 8, 8, 8, 8, 8, 8, 9, 9, 9, 9, 9, 9, 9, 9, 9, 9, 9, 9, 9, 9, 9, 9, 9, 9, 9, 9, 9, 9, 9, 9, 9, 9, 9, 9, 9, 9, 9, 9, 9, 9, 9, 9, 9, 9, 9, 9, 9, 9, 9, 9, 9, 9, 9, 9, 9, 9, 9, 9, 9, 9, 9, 9, 9, 9, 9, 9, 9, 9, 9, 9, 9, 9, 9, 9, 9, 9, 9, 9, 9, 9, 10, 11] : List Nat).getD y 0
def mL (y : Nat) : Nat := ([3, 4, 3, 5, 5, 2, 8, 2, 9, 13, 12, 1, 2, 4, 2, 1, 5, 3, 3, 1, 5, 1, 2, 1, 2, 3, 5, 3, 3, 3, 3, 3, 2, 2, 3, 3, 3, 8, 3, 3, 2, 4, 4, 6, 10, 1, 3, 1, 2, 2, 2, 3, 3, 4, 3, 4, 4, 3, 2, 6, 7, 2, 7, 8, 4, 3, 6, 5, 2, 2, 2, 1, 1, 4, 3, 3, 3, 2, 2, 3, 3, 3, 2, 4, 5, 4, 3, 2, 2, 3, 4, 2, 4, 3, 5, 1, 3, 4, 2, 2, 2, 2, 3, 2, 2, 5, 2, 1, 2, 2, 3, 5, 5, 3, 2, 3, 3, 3, 2, 3, 5, 8, 5, 4, 3, 2, 2, 1, 2, 1, 1, 1, 1, 2, 2, 2, 2, 2, 4, 4, 2, 3, 2, 3, 4, 7, 3, 2, 2, 2, 3, 5, 2, 2, 5, 6, 3, 4, 3, 12, 10, 7, 4, 7, 3, 5, 4, 9, 3, 9, 4, 2, 3, 6, 2, 4, 3, 4, 2, 5, 3, 3, 5, 1, 4, 8, 4, 4, 4, 4] : List Nat).getD y 0
/-- how many values it takes, with the object -/
def mA (y : Nat) : Nat := ([3, 2, 1, 3, 3, 2, 5, 2, 5, 5, 5, 1, 2, 2, 2, 1, 2, 1, 2, 1, 2, 1, 2, 1, 2, 1, 5, 1, 1, 3, 3, 3, 2, 2, 3, 3, 2, 4, 3, 2, 2, 2, 2, 3, 3, 1, 3, 1, 2, 2, 2, 3, 3, 4, 1, 2, 4, 2, 2, 3, 3, 2, 5, 6, 4, 3, 3, 2, 1, 2, 1, 1, 1, 4, 3, 3, 3, 2, 2, 2, 3, 1, 1, 4, 5, 4, 3, 2, 2, 2, 4, 2, 3, 3, 4, 1, 3, 1, 2, 2, 2, 2, 3, 2, 2, 4, 1, 1, 1, 2, 3, 3, 3, 1, 1, 2, 2, 3, 2, 2, 3, 2, 2, 3, 1, 2, 1, 1, 1, 1, 1, 1, 1, 2, 2, 2, 2, 2, 4, 4, 2, 2, 2, 3, 4, 3, 3, 1, 1, 2, 3, 3, 2, 2, 1, 2, 3, 1, 3, 4, 4, 4, 4, 4, 3, 5, 4, 3, 3, 2, 2, 1, 2, 2, 2, 4, 2, 3, 2, 1, 1, 3, 4, 1, 3, 2, 1, 2, 1, 2] : List Nat).getD y 0
/-- its answer: 0 none, 1 an int, 2 a boolean -/
def mR (y : Nat) : Nat := ([0, 0, 0, 1, 1, 0, 0, 2, 1, 1, 1, 0, 2, 1, 2, 2, 2, 1, 2, 1, 1, 1, 2, 0, 0, 0, 0, 0, 0, 1, 1, 1, 1, 1, 1, 0, 0, 0, 0, 0, 2, 1, 1, 1, 2, 0, 0, 0, 0, 2, 1, 1, 2, 0, 0, 1, 2, 0, 0, 1, 1, 0, 1, 1, 2, 1, 1, 0, 0, 1, 1, 1, 1, 1, 1, 1, 1, 1, 1, 1, 1, 1, 1, 1, 1, 1, 1, 1, 1, 1, 1, 1, 1, 1, 1, 1, 1, 1, 1, 2, 2, 2, 2, 2, 2, 1, 2, 0, 0, 0, 2, 1, 1, 1, 0, 0, 0, 2, 1, 1, 1, 1, 1, 1, 1, 1, 1, 1, 1, 1, 1, 1, 1, 2, 2, 2, 2, 1, 1, 1, 1, 1, 2, 2, 1, 1, 1, 0, 1, 0, 1, 1, 1, 1, 1, 1, 1, 1, 2, 1, 1, 1, 1, 0, 2, 1, 1, 1, 1, 1, 1, 0, 0, 1, 2, 1, 1, 1, 0, 0, 1, 1, 1, 1, 1, 0, 1, 1, 2, 0] : List Nat).getD y 0
def mN (y : Nat) : MethodName := ⟨cN (mO y), (mNs.getD y ("", "")).1, (mNs.getD y ("", "")).2⟩
def mBs : List ByteArray := [prog_2_method_1_code, prog_2_method_2_code, prog_2_method_3_code, prog_2_method_4_code, prog_2_method_5_code, prog_3_method_1_code, prog_3_method_2_code, prog_3_method_3_code, prog_3_method_4_code, prog_3_method_5_code, prog_3_method_6_code, prog_4_method_1_code, prog_4_method_2_code, prog_4_method_3_code, prog_4_method_4_code, prog_4_method_5_code, prog_4_method_6_code, prog_4_method_7_code, prog_4_method_8_code, prog_4_method_9_code, prog_4_method_10_code, prog_4_method_11_code, prog_4_method_12_code, prog_5_method_1_code, prog_5_method_2_code, prog_5_method_3_code, prog_5_method_4_code, prog_5_method_5_code, prog_5_method_6_code, prog_5_method_7_code, prog_5_method_8_code, prog_5_method_9_code, prog_5_method_10_code, prog_5_method_11_code, prog_5_method_12_code, prog_6_method_1_code, prog_6_method_2_code, prog_6_method_3_code, prog_6_method_4_code, prog_6_method_5_code, prog_6_method_6_code, prog_6_method_7_code, prog_6_method_8_code, prog_6_method_9_code, prog_6_method_10_code, prog_7_method_1_code, prog_7_method_2_code, prog_7_method_3_code, prog_7_method_4_code, prog_7_method_5_code, prog_7_method_6_code, prog_7_method_7_code, prog_7_method_8_code, prog_7_method_9_code, prog_7_method_10_code, prog_7_method_11_code, prog_7_method_12_code, prog_7_method_13_code, prog_8_method_1_code, prog_8_method_2_code, prog_8_method_3_code, prog_9_method_1_code, prog_9_method_2_code, prog_9_method_3_code, prog_9_method_4_code, prog_9_method_5_code, prog_9_method_6_code, prog_9_method_7_code, prog_1_method_1_code, prog_1_method_2_code, prog_1_method_3_code, prog_1_method_4_code, prog_1_method_5_code, prog_1_method_6_code, prog_1_method_7_code, prog_1_method_8_code, prog_1_method_9_code, prog_1_method_10_code, prog_1_method_11_code, prog_1_method_12_code, prog_1_method_13_code, prog_1_method_14_code, prog_1_method_15_code, prog_1_method_16_code, prog_1_method_17_code, prog_1_method_18_code, prog_1_method_19_code, prog_1_method_20_code, prog_1_method_21_code, prog_1_method_22_code, prog_1_method_23_code, prog_1_method_24_code, prog_1_method_25_code, prog_1_method_26_code, prog_1_method_27_code, prog_1_method_28_code, prog_1_method_29_code, prog_1_method_30_code, prog_1_method_31_code, prog_1_method_32_code, prog_1_method_33_code, prog_1_method_34_code, prog_1_method_35_code, prog_1_method_36_code, prog_1_method_37_code, prog_1_method_38_code, prog_1_method_39_code, prog_1_method_40_code, prog_1_method_41_code, prog_1_method_42_code, prog_1_method_43_code, prog_1_method_44_code, prog_1_method_45_code, prog_1_method_46_code, prog_11_method_1_code, prog_11_method_2_code, prog_11_method_3_code, prog_11_method_4_code, prog_11_method_5_code, prog_11_method_6_code, prog_11_method_7_code, prog_11_method_8_code, prog_11_method_9_code, prog_11_method_10_code, prog_11_method_11_code, prog_11_method_12_code, prog_11_method_13_code, prog_11_method_14_code, prog_11_method_15_code, prog_11_method_16_code, prog_11_method_17_code, prog_11_method_18_code, prog_11_method_19_code, prog_11_method_20_code, prog_11_method_21_code, prog_11_method_22_code, prog_11_method_23_code, prog_11_method_24_code, prog_11_method_25_code, prog_11_method_26_code, prog_11_method_27_code, prog_11_method_28_code, prog_11_method_29_code, prog_11_method_30_code, prog_11_method_31_code, prog_11_method_32_code, prog_11_method_33_code, prog_11_method_34_code, prog_11_method_35_code, prog_11_method_36_code, prog_11_method_37_code, prog_11_method_38_code, prog_11_method_39_code, prog_11_method_40_code, prog_11_method_41_code, prog_11_method_42_code, prog_11_method_43_code, prog_11_method_44_code, prog_11_method_45_code, prog_11_method_46_code, prog_11_method_47_code, prog_11_method_48_code, prog_11_method_49_code, prog_11_method_50_code, prog_11_method_51_code, prog_11_method_52_code, prog_11_method_53_code, prog_11_method_54_code, prog_11_method_55_code, prog_11_method_56_code, prog_11_method_57_code, prog_11_method_58_code, prog_11_method_59_code, prog_11_method_60_code, prog_11_method_61_code, prog_11_method_62_code, prog_11_method_63_code, prog_11_method_64_code, prog_11_method_65_code, prog_11_method_66_code, prog_11_method_67_code, prog_11_method_68_code, prog_11_method_69_code, prog_11_method_70_code, prog_11_method_71_code, prog_11_method_72_code, prog_11_method_73_code, prog_11_method_74_code, code, prog_17_method_103_code]
def mB (y : Nat) : ByteArray := mBs.getD y code
def mT (y : Nat) : Option FieldType := if mR y = 0 then none else if mR y = 1 then some .int else some .boolean
/-- the words of a method: its code, and all the words of the tables that stay -/
def mW (y : Nat) : List Cond := Cond.code (mN y) (mB y) (mL y) (mT y) :: wl
set_option maxRecDepth 20000 in
theorem lay_0 : ∀ w ∈ u_ws (cN 0) (cT 0) (nF 0), w ∈ wl := by
  show ∀ w ∈ u_ws "TierPods$AllPairs" T_0 5, w ∈ wl
  intro w hw
  obtain ⟨k, hk, rfl⟩ := List.mem_map.mp hw
  have hk := List.mem_range.mp hk
  match k, hk with
  | 0, _ => exact wl_t 208 rfl rfl
  | 1, _ => exact wl_t 210 rfl rfl
  | 2, _ => exact wl_t 212 rfl rfl
  | 3, _ => exact wl_t 214 rfl rfl
  | 4, _ => exact wl_t 216 rfl rfl
  | k + 5, h => exact absurd h (by omega)
theorem nm_0 : ∀ a, a < nF 0 → ∀ b, b < nF 0 → a ≠ b → (cT 0 a).2.1 ≠ (cT 0 b).2.1 := by decide +kernel
theorem ty_0 : ∀ k, k < nF 0 → parseFieldDescriptor (cT 0 k).2.2.1 = some (cY 0 k) := by decide +kernel
set_option maxRecDepth 20000 in
theorem ik_0 : Cond.instantiable (cN 0) (nF 0) ∈ wl ∧ Cond.initialized (cN 0) ∈ wl := ⟨wl_t 195 rfl rfl, wl_t 7 rfl rfl⟩
theorem fk_0 : ∀ k, k < nF 0 → (fK 0 k = 0 → cY 0 k = .int ∧ (cT 0 k).2.2.2 = false) ∧ (fK 0 k = 1 → cY 0 k = .boolean ∧ (cT 0 k).2.2.2 = false) ∧ (fK 0 k = 2 → (cT 0 k).2.2.2 = false) ∧ (fK 0 k = 3 → (cT 0 k).2.2.2 = true ∧ (cT 0 k).1 = cN 0) ∧ (fK 0 k = 2 ∨ fK 0 k = 3 → (cY 0 k).isReference = true) ∧ fK 0 k ≤ 3 := by decide +kernel
set_option maxRecDepth 20000 in
theorem lay_1 : ∀ w ∈ u_ws (cN 1) (cT 1) (nF 1), w ∈ wl := by
  show ∀ w ∈ u_ws "TierPods$Journey" T_1 5, w ∈ wl
  intro w hw
  obtain ⟨k, hk, rfl⟩ := List.mem_map.mp hw
  have hk := List.mem_range.mp hk
  match k, hk with
  | 0, _ => exact wl_t 152 rfl rfl
  | 1, _ => exact wl_t 154 rfl rfl
  | 2, _ => exact wl_t 156 rfl rfl
  | 3, _ => exact wl_t 158 rfl rfl
  | 4, _ => exact wl_t 160 rfl rfl
  | k + 5, h => exact absurd h (by omega)
theorem nm_1 : ∀ a, a < nF 1 → ∀ b, b < nF 1 → a ≠ b → (cT 1 a).2.1 ≠ (cT 1 b).2.1 := by decide +kernel
theorem ty_1 : ∀ k, k < nF 1 → parseFieldDescriptor (cT 1 k).2.2.1 = some (cY 1 k) := by decide +kernel
set_option maxRecDepth 20000 in
theorem ik_1 : Cond.instantiable (cN 1) (nF 1) ∈ wl ∧ Cond.initialized (cN 1) ∈ wl := ⟨wl_t 133 rfl rfl, wl_t 4 rfl rfl⟩
theorem fk_1 : ∀ k, k < nF 1 → (fK 1 k = 0 → cY 1 k = .int ∧ (cT 1 k).2.2.2 = false) ∧ (fK 1 k = 1 → cY 1 k = .boolean ∧ (cT 1 k).2.2.2 = false) ∧ (fK 1 k = 2 → (cT 1 k).2.2.2 = false) ∧ (fK 1 k = 3 → (cT 1 k).2.2.2 = true ∧ (cT 1 k).1 = cN 1) ∧ (fK 1 k = 2 ∨ fK 1 k = 3 → (cY 1 k).isReference = true) ∧ fK 1 k ≤ 3 := by decide +kernel
set_option maxRecDepth 20000 in
theorem lay_2 : ∀ w ∈ u_ws (cN 2) (cT 2) (nF 2), w ∈ wl := by
  show ∀ w ∈ u_ws "TierPods$Script" T_2 4, w ∈ wl
  intro w hw
  obtain ⟨k, hk, rfl⟩ := List.mem_map.mp hw
  have hk := List.mem_range.mp hk
  match k, hk with
  | 0, _ => exact wl_t 38 rfl rfl
  | 1, _ => exact wl_t 40 rfl rfl
  | 2, _ => exact wl_t 42 rfl rfl
  | 3, _ => exact wl_t 44 rfl rfl
  | k + 4, h => exact absurd h (by omega)
theorem nm_2 : ∀ a, a < nF 2 → ∀ b, b < nF 2 → a ≠ b → (cT 2 a).2.1 ≠ (cT 2 b).2.1 := by decide +kernel
theorem ty_2 : ∀ k, k < nF 2 → parseFieldDescriptor (cT 2 k).2.2.1 = some (cY 2 k) := by decide +kernel
set_option maxRecDepth 20000 in
theorem ik_2 : Cond.instantiable (cN 2) (nF 2) ∈ wl ∧ Cond.initialized (cN 2) ∈ wl := ⟨wl_t 27 rfl rfl, wl_t 2 rfl rfl⟩
theorem fk_2 : ∀ k, k < nF 2 → (fK 2 k = 0 → cY 2 k = .int ∧ (cT 2 k).2.2.2 = false) ∧ (fK 2 k = 1 → cY 2 k = .boolean ∧ (cT 2 k).2.2.2 = false) ∧ (fK 2 k = 2 → (cT 2 k).2.2.2 = false) ∧ (fK 2 k = 3 → (cT 2 k).2.2.2 = true ∧ (cT 2 k).1 = cN 2) ∧ (fK 2 k = 2 ∨ fK 2 k = 3 → (cY 2 k).isReference = true) ∧ fK 2 k ≤ 3 := by decide +kernel
set_option maxRecDepth 20000 in
theorem lay_3 : ∀ w ∈ u_ws (cN 3) (cT 3) (nF 3), w ∈ wl := by
  show ∀ w ∈ u_ws "TierPods$Shape" T_3 14, w ∈ wl
  intro w hw
  obtain ⟨k, hk, rfl⟩ := List.mem_map.mp hw
  have hk := List.mem_range.mp hk
  match k, hk with
  | 0, _ => exact wl_t 102 rfl rfl
  | 1, _ => exact wl_t 104 rfl rfl
  | 2, _ => exact wl_t 106 rfl rfl
  | 3, _ => exact wl_t 108 rfl rfl
  | 4, _ => exact wl_t 110 rfl rfl
  | 5, _ => exact wl_t 112 rfl rfl
  | 6, _ => exact wl_t 114 rfl rfl
  | 7, _ => exact wl_t 116 rfl rfl
  | 8, _ => exact wl_t 118 rfl rfl
  | 9, _ => exact wl_t 120 rfl rfl
  | 10, _ => exact wl_t 122 rfl rfl
  | 11, _ => exact wl_t 124 rfl rfl
  | 12, _ => exact wl_t 126 rfl rfl
  | 13, _ => exact wl_t 128 rfl rfl
  | k + 14, h => exact absurd h (by omega)
theorem nm_3 : ∀ a, a < nF 3 → ∀ b, b < nF 3 → a ≠ b → (cT 3 a).2.1 ≠ (cT 3 b).2.1 := by decide +kernel
theorem ty_3 : ∀ k, k < nF 3 → parseFieldDescriptor (cT 3 k).2.2.1 = some (cY 3 k) := by decide +kernel
set_option maxRecDepth 20000 in
theorem ik_3 : Cond.instantiable (cN 3) (nF 3) ∈ wl ∧ Cond.initialized (cN 3) ∈ wl := ⟨wl_t 49 rfl rfl, wl_t 3 rfl rfl⟩
theorem fk_3 : ∀ k, k < nF 3 → (fK 3 k = 0 → cY 3 k = .int ∧ (cT 3 k).2.2.2 = false) ∧ (fK 3 k = 1 → cY 3 k = .boolean ∧ (cT 3 k).2.2.2 = false) ∧ (fK 3 k = 2 → (cT 3 k).2.2.2 = false) ∧ (fK 3 k = 3 → (cT 3 k).2.2.2 = true ∧ (cT 3 k).1 = cN 3) ∧ (fK 3 k = 2 ∨ fK 3 k = 3 → (cY 3 k).isReference = true) ∧ fK 3 k ≤ 3 := by decide +kernel
set_option maxRecDepth 20000 in
theorem lay_4 : ∀ w ∈ u_ws (cN 4) (cT 4) (nF 4), w ∈ wl := by
  show ∀ w ∈ u_ws "TierPods$Sharing" T_4 5, w ∈ wl
  intro w hw
  obtain ⟨k, hk, rfl⟩ := List.mem_map.mp hw
  have hk := List.mem_range.mp hk
  match k, hk with
  | 0, _ => exact wl_t 231 rfl rfl
  | 1, _ => exact wl_t 233 rfl rfl
  | 2, _ => exact wl_t 235 rfl rfl
  | 3, _ => exact wl_t 237 rfl rfl
  | 4, _ => exact wl_t 239 rfl rfl
  | k + 5, h => exact absurd h (by omega)
theorem nm_4 : ∀ a, a < nF 4 → ∀ b, b < nF 4 → a ≠ b → (cT 4 a).2.1 ≠ (cT 4 b).2.1 := by decide +kernel
theorem ty_4 : ∀ k, k < nF 4 → parseFieldDescriptor (cT 4 k).2.2.1 = some (cY 4 k) := by decide +kernel
set_option maxRecDepth 20000 in
theorem ik_4 : Cond.instantiable (cN 4) (nF 4) ∈ wl ∧ Cond.initialized (cN 4) ∈ wl := ⟨wl_t 220 rfl rfl, wl_t 8 rfl rfl⟩
theorem fk_4 : ∀ k, k < nF 4 → (fK 4 k = 0 → cY 4 k = .int ∧ (cT 4 k).2.2.2 = false) ∧ (fK 4 k = 1 → cY 4 k = .boolean ∧ (cT 4 k).2.2.2 = false) ∧ (fK 4 k = 2 → (cT 4 k).2.2.2 = false) ∧ (fK 4 k = 3 → (cT 4 k).2.2.2 = true ∧ (cT 4 k).1 = cN 4) ∧ (fK 4 k = 2 ∨ fK 4 k = 3 → (cY 4 k).isReference = true) ∧ fK 4 k ≤ 3 := by decide +kernel
set_option maxRecDepth 20000 in
theorem lay_5 : ∀ w ∈ u_ws (cN 5) (cT 5) (nF 5), w ∈ wl := by
  show ∀ w ∈ u_ws "TierPods$State" T_5 9, w ∈ wl
  intro w hw
  obtain ⟨k, hk, rfl⟩ := List.mem_map.mp hw
  have hk := List.mem_range.mp hk
  match k, hk with
  | 0, _ => exact wl_t 270 rfl rfl
  | 1, _ => exact wl_t 272 rfl rfl
  | 2, _ => exact wl_t 274 rfl rfl
  | 3, _ => exact wl_t 276 rfl rfl
  | 4, _ => exact wl_t 278 rfl rfl
  | 5, _ => exact wl_t 280 rfl rfl
  | 6, _ => exact wl_t 282 rfl rfl
  | 7, _ => exact wl_t 284 rfl rfl
  | 8, _ => exact wl_t 286 rfl rfl
  | k + 9, h => exact absurd h (by omega)
theorem nm_5 : ∀ a, a < nF 5 → ∀ b, b < nF 5 → a ≠ b → (cT 5 a).2.1 ≠ (cT 5 b).2.1 := by decide +kernel
theorem ty_5 : ∀ k, k < nF 5 → parseFieldDescriptor (cT 5 k).2.2.1 = some (cY 5 k) := by decide +kernel
set_option maxRecDepth 20000 in
theorem ik_5 : Cond.instantiable (cN 5) (nF 5) ∈ wl ∧ Cond.initialized (cN 5) ∈ wl := ⟨wl_t 243 rfl rfl, wl_t 9 rfl rfl⟩
theorem fk_5 : ∀ k, k < nF 5 → (fK 5 k = 0 → cY 5 k = .int ∧ (cT 5 k).2.2.2 = false) ∧ (fK 5 k = 1 → cY 5 k = .boolean ∧ (cT 5 k).2.2.2 = false) ∧ (fK 5 k = 2 → (cT 5 k).2.2.2 = false) ∧ (fK 5 k = 3 → (cT 5 k).2.2.2 = true ∧ (cT 5 k).1 = cN 5) ∧ (fK 5 k = 2 ∨ fK 5 k = 3 → (cY 5 k).isReference = true) ∧ fK 5 k ≤ 3 := by decide +kernel
set_option maxRecDepth 20000 in
theorem lay_6 : ∀ w ∈ u_ws (cN 6) (cT 6) (nF 6), w ∈ wl := by
  show ∀ w ∈ u_ws "TierPods$Telling" T_6 2, w ∈ wl
  intro w hw
  obtain ⟨k, hk, rfl⟩ := List.mem_map.mp hw
  have hk := List.mem_range.mp hk
  match k, hk with
  | 0, _ => exact wl_t 171 rfl rfl
  | 1, _ => exact wl_t 173 rfl rfl
  | k + 2, h => exact absurd h (by omega)
theorem nm_6 : ∀ a, a < nF 6 → ∀ b, b < nF 6 → a ≠ b → (cT 6 a).2.1 ≠ (cT 6 b).2.1 := by decide +kernel
theorem ty_6 : ∀ k, k < nF 6 → parseFieldDescriptor (cT 6 k).2.2.1 = some (cY 6 k) := by decide +kernel
set_option maxRecDepth 20000 in
theorem ik_6 : Cond.instantiable (cN 6) (nF 6) ∈ wl ∧ Cond.initialized (cN 6) ∈ wl := ⟨wl_t 164 rfl rfl, wl_t 5 rfl rfl⟩
theorem fk_6 : ∀ k, k < nF 6 → (fK 6 k = 0 → cY 6 k = .int ∧ (cT 6 k).2.2.2 = false) ∧ (fK 6 k = 1 → cY 6 k = .boolean ∧ (cT 6 k).2.2.2 = false) ∧ (fK 6 k = 2 → (cT 6 k).2.2.2 = false) ∧ (fK 6 k = 3 → (cT 6 k).2.2.2 = true ∧ (cT 6 k).1 = cN 6) ∧ (fK 6 k = 2 ∨ fK 6 k = 3 → (cY 6 k).isReference = true) ∧ fK 6 k ≤ 3 := by decide +kernel
set_option maxRecDepth 20000 in
theorem lay_7 : ∀ w ∈ u_ws (cN 7) (cT 7) (nF 7), w ∈ wl := by
  show ∀ w ∈ u_ws "TierPods$Truth" T_7 3, w ∈ wl
  intro w hw
  obtain ⟨k, hk, rfl⟩ := List.mem_map.mp hw
  have hk := List.mem_range.mp hk
  match k, hk with
  | 0, _ => exact wl_t 187 rfl rfl
  | 1, _ => exact wl_t 189 rfl rfl
  | 2, _ => exact wl_t 191 rfl rfl
  | k + 3, h => exact absurd h (by omega)
theorem nm_7 : ∀ a, a < nF 7 → ∀ b, b < nF 7 → a ≠ b → (cT 7 a).2.1 ≠ (cT 7 b).2.1 := by decide +kernel
theorem ty_7 : ∀ k, k < nF 7 → parseFieldDescriptor (cT 7 k).2.2.1 = some (cY 7 k) := by decide +kernel
set_option maxRecDepth 20000 in
theorem ik_7 : Cond.instantiable (cN 7) (nF 7) ∈ wl ∧ Cond.initialized (cN 7) ∈ wl := ⟨wl_t 177 rfl rfl, wl_t 6 rfl rfl⟩
theorem fk_7 : ∀ k, k < nF 7 → (fK 7 k = 0 → cY 7 k = .int ∧ (cT 7 k).2.2.2 = false) ∧ (fK 7 k = 1 → cY 7 k = .boolean ∧ (cT 7 k).2.2.2 = false) ∧ (fK 7 k = 2 → (cT 7 k).2.2.2 = false) ∧ (fK 7 k = 3 → (cT 7 k).2.2.2 = true ∧ (cT 7 k).1 = cN 7) ∧ (fK 7 k = 2 ∨ fK 7 k = 3 → (cY 7 k).isReference = true) ∧ fK 7 k ≤ 3 := by decide +kernel
set_option maxRecDepth 20000 in
theorem lay_8 : ∀ w ∈ u_ws (cN 8) (cT 8) (nF 8), w ∈ wl := by
  show ∀ w ∈ u_ws "TierPods" T_8 12, w ∈ wl
  intro w hw
  obtain ⟨k, hk, rfl⟩ := List.mem_map.mp hw
  have hk := List.mem_range.mp hk
  match k, hk with
  | 0, _ => exact wl_t 451 rfl rfl
  | 1, _ => exact wl_t 453 rfl rfl
  | 2, _ => exact wl_t 455 rfl rfl
  | 3, _ => exact wl_t 457 rfl rfl
  | 4, _ => exact wl_t 459 rfl rfl
  | 5, _ => exact wl_t 461 rfl rfl
  | 6, _ => exact wl_t 463 rfl rfl
  | 7, _ => exact wl_t 465 rfl rfl
  | 8, _ => exact wl_t 467 rfl rfl
  | 9, _ => exact wl_t 469 rfl rfl
  | 10, _ => exact wl_t 471 rfl rfl
  | 11, _ => exact wl_t 473 rfl rfl
  | k + 12, h => exact absurd h (by omega)
theorem nm_8 : ∀ a, a < nF 8 → ∀ b, b < nF 8 → a ≠ b → (cT 8 a).2.1 ≠ (cT 8 b).2.1 := by decide +kernel
theorem ty_8 : ∀ k, k < nF 8 → parseFieldDescriptor (cT 8 k).2.2.1 = some (cY 8 k) := by decide +kernel
set_option maxRecDepth 20000 in
theorem ik_8 : Cond.instantiable (cN 8) (nF 8) ∈ wl ∧ Cond.initialized (cN 8) ∈ wl := ⟨wl_t 19 rfl rfl, wl_t 1 rfl rfl⟩
theorem fk_8 : ∀ k, k < nF 8 → (fK 8 k = 0 → cY 8 k = .int ∧ (cT 8 k).2.2.2 = false) ∧ (fK 8 k = 1 → cY 8 k = .boolean ∧ (cT 8 k).2.2.2 = false) ∧ (fK 8 k = 2 → (cT 8 k).2.2.2 = false) ∧ (fK 8 k = 3 → (cT 8 k).2.2.2 = true ∧ (cT 8 k).1 = cN 8) ∧ (fK 8 k = 2 ∨ fK 8 k = 3 → (cY 8 k).isReference = true) ∧ fK 8 k ≤ 3 := by decide +kernel
set_option maxRecDepth 20000 in
theorem lay_9 : ∀ w ∈ u_ws (cN 9) (cT 9) (nF 9), w ∈ wl := by
  show ∀ w ∈ u_ws "TierPodsModel" T_9 30, w ∈ wl
  intro w hw
  obtain ⟨k, hk, rfl⟩ := List.mem_map.mp hw
  have hk := List.mem_range.mp hk
  match k, hk with
  | 0, _ => exact wl_t 877 rfl rfl
  | 1, _ => exact wl_t 879 rfl rfl
  | 2, _ => exact wl_t 881 rfl rfl
  | 3, _ => exact wl_t 883 rfl rfl
  | 4, _ => exact wl_t 885 rfl rfl
  | 5, _ => exact wl_t 887 rfl rfl
  | 6, _ => exact wl_t 889 rfl rfl
  | 7, _ => exact wl_t 891 rfl rfl
  | 8, _ => exact wl_t 893 rfl rfl
  | 9, _ => exact wl_t 895 rfl rfl
  | 10, _ => exact wl_t 897 rfl rfl
  | 11, _ => exact wl_t 899 rfl rfl
  | 12, _ => exact wl_t 901 rfl rfl
  | 13, _ => exact wl_t 903 rfl rfl
  | 14, _ => exact wl_t 905 rfl rfl
  | 15, _ => exact wl_t 907 rfl rfl
  | 16, _ => exact wl_t 909 rfl rfl
  | 17, _ => exact wl_t 911 rfl rfl
  | 18, _ => exact wl_t 913 rfl rfl
  | 19, _ => exact wl_t 915 rfl rfl
  | 20, _ => exact wl_t 917 rfl rfl
  | 21, _ => exact wl_t 919 rfl rfl
  | 22, _ => exact wl_t 921 rfl rfl
  | 23, _ => exact wl_t 923 rfl rfl
  | 24, _ => exact wl_t 925 rfl rfl
  | 25, _ => exact wl_t 927 rfl rfl
  | 26, _ => exact wl_t 929 rfl rfl
  | 27, _ => exact wl_t 931 rfl rfl
  | 28, _ => exact wl_t 933 rfl rfl
  | 29, _ => exact wl_t 935 rfl rfl
  | k + 30, h => exact absurd h (by omega)
theorem nm_9 : ∀ a, a < nF 9 → ∀ b, b < nF 9 → a ≠ b → (cT 9 a).2.1 ≠ (cT 9 b).2.1 := by decide +kernel
theorem ty_9 : ∀ k, k < nF 9 → parseFieldDescriptor (cT 9 k).2.2.1 = some (cY 9 k) := by decide +kernel
set_option maxRecDepth 20000 in
theorem ik_9 : Cond.instantiable (cN 9) (nF 9) ∈ wl ∧ Cond.initialized (cN 9) ∈ wl := ⟨wl_t 834 rfl rfl, wl_t 15 rfl rfl⟩
theorem fk_9 : ∀ k, k < nF 9 → (fK 9 k = 0 → cY 9 k = .int ∧ (cT 9 k).2.2.2 = false) ∧ (fK 9 k = 1 → cY 9 k = .boolean ∧ (cT 9 k).2.2.2 = false) ∧ (fK 9 k = 2 → (cT 9 k).2.2.2 = false) ∧ (fK 9 k = 3 → (cT 9 k).2.2.2 = true ∧ (cT 9 k).1 = cN 9) ∧ (fK 9 k = 2 ∨ fK 9 k = 3 → (cY 9 k).isReference = true) ∧ fK 9 k ≤ 3 := by decide +kernel
/-- what the tables say of a class -/
def OKC (o : Nat) : Prop := classes[o]? = some (cN o, cT o, nF o) ∧ (∀ w ∈ u_ws (cN o) (cT o) (nF o), w ∈ wl) ∧ (∀ a, a < nF o → ∀ b, b < nF o → a ≠ b → (cT o a).2.1 ≠ (cT o b).2.1) ∧ (∀ k, k < nF o → parseFieldDescriptor (cT o k).2.2.1 = some (cY o k)) ∧ (Cond.instantiable (cN o) (nF o) ∈ wl ∧ Cond.initialized (cN o) ∈ wl) ∧ (∀ k, k < nF o → (fK o k = 0 → cY o k = .int ∧ (cT o k).2.2.2 = false) ∧ (fK o k = 1 → cY o k = .boolean ∧ (cT o k).2.2.2 = false) ∧ (fK o k = 2 → (cT o k).2.2.2 = false) ∧ (fK o k = 3 → (cT o k).2.2.2 = true ∧ (cT o k).1 = cN o) ∧ (fK o k = 2 ∨ fK o k = 3 → (cY o k).isReference = true) ∧ fK o k ≤ 3)
set_option maxRecDepth 20000 in
theorem okc : ∀ o, o < 10 → OKC o := by
  intro o ho
  match o, ho with
  | 0, _ => exact ⟨rfl, lay_0, nm_0, ty_0, ik_0, fk_0⟩
  | 1, _ => exact ⟨rfl, lay_1, nm_1, ty_1, ik_1, fk_1⟩
  | 2, _ => exact ⟨rfl, lay_2, nm_2, ty_2, ik_2, fk_2⟩
  | 3, _ => exact ⟨rfl, lay_3, nm_3, ty_3, ik_3, fk_3⟩
  | 4, _ => exact ⟨rfl, lay_4, nm_4, ty_4, ik_4, fk_4⟩
  | 5, _ => exact ⟨rfl, lay_5, nm_5, ty_5, ik_5, fk_5⟩
  | 6, _ => exact ⟨rfl, lay_6, nm_6, ty_6, ik_6, fk_6⟩
  | 7, _ => exact ⟨rfl, lay_7, nm_7, ty_7, ik_7, fk_7⟩
  | 8, _ => exact ⟨rfl, lay_8, nm_8, ty_8, ik_8, fk_8⟩
  | 9, _ => exact ⟨rfl, lay_9, nm_9, ty_9, ik_9, fk_9⟩
  | o + 10, h => exact absurd h (by omega)
