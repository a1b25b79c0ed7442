def gNs (w : Cond) : Bool := match w with
  | .fieldLinkNest _ _ _ _ _ _ => true
  | .methodLinkNest _ _ _ _ => true
  | _ => false
def gOk (w : Cond) : Bool := goodWord w || gNs w
def wU : List Cond := lw_tbl.filter gOk
theorem wu_i {w : Cond} (i : Nat) (h : lw_tbl[i]? = some w) (h2 : gOk w = true) : w ∈ wU := List.mem_filter.mpr ⟨List.mem_of_getElem? h, h2⟩
theorem wu_1 {w : Cond} (i : Nat) (h : tables_1_1[i]? = some w) (h2 : gOk w = true) : w ∈ wU := List.mem_filter.mpr ⟨List.mem_append_right _ (by have := List.mem_of_getElem? h; simp only [tables_1, List.mem_append]; simp [this]), h2⟩
theorem wu_2 {w : Cond} (i : Nat) (h : tables_1_2[i]? = some w) (h2 : gOk w = true) : w ∈ wU := List.mem_filter.mpr ⟨List.mem_append_right _ (by have := List.mem_of_getElem? h; simp only [tables_1, List.mem_append]; simp [this]), h2⟩
theorem wu_3 {w : Cond} (i : Nat) (h : tables_1_3[i]? = some w) (h2 : gOk w = true) : w ∈ wU := List.mem_filter.mpr ⟨List.mem_append_right _ (by have := List.mem_of_getElem? h; simp only [tables_1, List.mem_append]; simp [this]), h2⟩
theorem wu_4 {w : Cond} (i : Nat) (h : tables_1_4[i]? = some w) (h2 : gOk w = true) : w ∈ wU := List.mem_filter.mpr ⟨List.mem_append_right _ (by have := List.mem_of_getElem? h; simp only [tables_1, List.mem_append]; simp [this]), h2⟩
theorem wu_5 {w : Cond} (i : Nat) (h : tables_1_5[i]? = some w) (h2 : gOk w = true) : w ∈ wU := List.mem_filter.mpr ⟨List.mem_append_right _ (by have := List.mem_of_getElem? h; simp only [tables_1, List.mem_append]; simp [this]), h2⟩
theorem wu_6 {w : Cond} (i : Nat) (h : tables_1_6[i]? = some w) (h2 : gOk w = true) : w ∈ wU := List.mem_filter.mpr ⟨List.mem_append_right _ (by have := List.mem_of_getElem? h; simp only [tables_1, List.mem_append]; simp [this]), h2⟩
theorem wu_7 {w : Cond} (i : Nat) (h : tables_1_7[i]? = some w) (h2 : gOk w = true) : w ∈ wU := List.mem_filter.mpr ⟨List.mem_append_right _ (by have := List.mem_of_getElem? h; simp only [tables_1, List.mem_append]; simp [this]), h2⟩
set_option maxRecDepth 20000 in
theorem us_0 : Cond.selects "EnvelopePlanner$Reader" ⟨"EnvelopePlanner$Reader", "readCommand", "()Z"⟩ ⟨"EnvelopePlanner$Reader", "readCommand", "()Z"⟩ ∈ wU := wu_i 0 rfl rfl
set_option maxRecDepth 20000 in
theorem us_1 : Cond.selects "EnvelopePlanner$Reader" ⟨"EnvelopePlanner$Reader", "next", "()I"⟩ ⟨"EnvelopePlanner$Reader", "next", "()I"⟩ ∈ wU := wu_i 1 rfl rfl
set_option maxRecDepth 20000 in
theorem us_2 : Cond.selects "EnvelopePlanner$Reader" ⟨"EnvelopePlanner$Reader", "keep", "(IIII)Z"⟩ ⟨"EnvelopePlanner$Reader", "keep", "(IIII)Z"⟩ ∈ wU := wu_i 2 rfl rfl
set_option maxRecDepth 20000 in
theorem us_3 : Cond.selects "EnvelopePlanner$Reader" ⟨"EnvelopePlanner$Reader", "readNumber", "()Z"⟩ ⟨"EnvelopePlanner$Reader", "readNumber", "()Z"⟩ ∈ wU := wu_i 3 rfl rfl
set_option maxRecDepth 20000 in
theorem us_4 : Cond.selects "EnvelopePlanner$Reader" ⟨"EnvelopePlanner$Reader", "isDigit", "(I)Z"⟩ ⟨"EnvelopePlanner$Reader", "isDigit", "(I)Z"⟩ ∈ wU := wu_i 4 rfl rfl
set_option maxRecDepth 20000 in
theorem us_5 : Cond.selects "EnvelopePlanner$Reader" ⟨"EnvelopePlanner$Reader", "readSpending", "()Z"⟩ ⟨"EnvelopePlanner$Reader", "readSpending", "()Z"⟩ ∈ wU := wu_i 5 rfl rfl
set_option maxRecDepth 20000 in
theorem us_6 : Cond.selects "EnvelopePlanner$Reader" ⟨"EnvelopePlanner$Reader", "acceptDigit", "()Z"⟩ ⟨"EnvelopePlanner$Reader", "acceptDigit", "()Z"⟩ ∈ wU := wu_i 6 rfl rfl
set_option maxRecDepth 20000 in
theorem us_7 : Cond.selects "EnvelopePlanner$Reader" ⟨"EnvelopePlanner$Reader", "accept", "(C)Z"⟩ ⟨"EnvelopePlanner$Reader", "accept", "(C)Z"⟩ ∈ wU := wu_i 7 rfl rfl
set_option maxRecDepth 20000 in
theorem us_8 : Cond.selects "EnvelopePlanner$Reader" ⟨"EnvelopePlanner$Reader", "readMove", "()Z"⟩ ⟨"EnvelopePlanner$Reader", "readMove", "()Z"⟩ ∈ wU := wu_i 8 rfl rfl
set_option maxRecDepth 20000 in
theorem us_9 : Cond.selects "EnvelopePlanner$Reader" ⟨"EnvelopePlanner$Reader", "acceptPlace", "()Z"⟩ ⟨"EnvelopePlanner$Reader", "acceptPlace", "()Z"⟩ ∈ wU := wu_i 9 rfl rfl
set_option maxRecDepth 20000 in
theorem us_10 : Cond.selects "EnvelopePlanner" ⟨"EnvelopePlanner", "tryStep", "(IIIII)I"⟩ ⟨"EnvelopePlanner", "tryStep", "(IIIII)I"⟩ ∈ wU := wu_i 10 rfl rfl
set_option maxRecDepth 20000 in
theorem us_11 : Cond.selects "EnvelopePlanner$Plan" ⟨"EnvelopePlanner$Plan", "namesParts", "(III)Z"⟩ ⟨"EnvelopePlanner$Plan", "namesParts", "(III)Z"⟩ ∈ wU := wu_i 11 rfl rfl
set_option maxRecDepth 20000 in
theorem us_12 : Cond.selects "EnvelopePlanner$Plan" ⟨"EnvelopePlanner$Plan", "isInRange", "(IIIII)Z"⟩ ⟨"EnvelopePlanner$Plan", "isInRange", "(IIIII)Z"⟩ ∈ wU := wu_i 12 rfl rfl
set_option maxRecDepth 20000 in
theorem us_13 : Cond.selects "EnvelopePlanner$Plan" ⟨"EnvelopePlanner$Plan", "isRuleNumber", "(II)Z"⟩ ⟨"EnvelopePlanner$Plan", "isRuleNumber", "(II)Z"⟩ ∈ wU := wu_i 13 rfl rfl
set_option maxRecDepth 20000 in
theorem us_14 : Cond.selects "EnvelopePlanner$Plan" ⟨"EnvelopePlanner$Plan", "hasRoom", "(I)Z"⟩ ⟨"EnvelopePlanner$Plan", "hasRoom", "(I)Z"⟩ ∈ wU := wu_i 14 rfl rfl
set_option maxRecDepth 20000 in
theorem us_15 : Cond.selects "EnvelopePlanner$Plan" ⟨"EnvelopePlanner$Plan", "hasMoney", "(IIII)Z"⟩ ⟨"EnvelopePlanner$Plan", "hasMoney", "(IIII)Z"⟩ ∈ wU := wu_i 15 rfl rfl
set_option maxRecDepth 20000 in
theorem us_16 : Cond.selects "EnvelopePlanner$Plan" ⟨"EnvelopePlanner$Plan", "shareOut", "(IIJ)J"⟩ ⟨"EnvelopePlanner$Plan", "shareOut", "(IIJ)J"⟩ ∈ wU := wu_i 16 rfl rfl
set_option maxRecDepth 20000 in
theorem us_17 : Cond.selects "EnvelopePlanner$Plan" ⟨"EnvelopePlanner$Plan", "portionFor", "(IJJ)J"⟩ ⟨"EnvelopePlanner$Plan", "portionFor", "(IJJ)J"⟩ ∈ wU := wu_i 17 rfl rfl
set_option maxRecDepth 20000 in
theorem us_18 : Cond.selects "EnvelopePlanner$Plan" ⟨"EnvelopePlanner$Plan", "passOn", "(I)Z"⟩ ⟨"EnvelopePlanner$Plan", "passOn", "(I)Z"⟩ ∈ wU := wu_i 18 rfl rfl
set_option maxRecDepth 20000 in
theorem us_19 : Cond.selects "EnvelopePlanner$Plan" ⟨"EnvelopePlanner$Plan", "rollOver", "()V"⟩ ⟨"EnvelopePlanner$Plan", "rollOver", "()V"⟩ ∈ wU := wu_i 19 rfl rfl
set_option maxRecDepth 20000 in
theorem us_20 : Cond.selects "EnvelopePlanner$Plan" ⟨"EnvelopePlanner$Plan", "moveMoney", "(IIII)I"⟩ ⟨"EnvelopePlanner$Plan", "moveMoney", "(IIII)I"⟩ ∈ wU := wu_i 20 rfl rfl
set_option maxRecDepth 20000 in
theorem us_21 : Cond.selects "EnvelopePlanner$Plan" ⟨"EnvelopePlanner$Plan", "carry", "(III)J"⟩ ⟨"EnvelopePlanner$Plan", "carry", "(III)J"⟩ ∈ wU := wu_i 21 rfl rfl
set_option maxRecDepth 20000 in
theorem us_22 : Cond.selects "EnvelopePlanner" ⟨"EnvelopePlanner", "answerTo", "(I)I"⟩ ⟨"EnvelopePlanner", "answerTo", "(I)I"⟩ ∈ wU := wu_i 22 rfl rfl
set_option maxRecDepth 20000 in
theorem us_23 : Cond.selects "java/lang/Throwable" ⟨"java/lang/Throwable", "fillInStackTrace", "(I)Ljava/lang/Throwable;"⟩ ⟨"java/lang/Throwable", "fillInStackTrace", "(I)Ljava/lang/Throwable;"⟩ ∈ wU := wu_i 23 rfl rfl
set_option maxRecDepth 20000 in
theorem us_24 : Cond.selects "EnvelopePlanner" ⟨"EnvelopePlanner", "canSpare", "(III)Z"⟩ ⟨"EnvelopePlanner", "canSpare", "(III)Z"⟩ ∈ wU := wu_i 24 rfl rfl
set_option maxRecDepth 20000 in
theorem us_25 : Cond.selects "EnvelopePlanner" ⟨"EnvelopePlanner", "replayUntilRefused", "(LEnvelopePlanner$Branch;II)I"⟩ ⟨"EnvelopePlanner", "replayUntilRefused", "(LEnvelopePlanner$Branch;II)I"⟩ ∈ wU := wu_i 25 rfl rfl
set_option maxRecDepth 20000 in
theorem us_26 : Cond.selects "EnvelopePlanner" ⟨"EnvelopePlanner", "refusalOnTrial", "(LEnvelopePlanner$Branch;II)I"⟩ ⟨"EnvelopePlanner", "refusalOnTrial", "(LEnvelopePlanner$Branch;II)I"⟩ ∈ wU := wu_i 26 rfl rfl
set_option maxRecDepth 20000 in
theorem us_27 : Cond.selects "EnvelopePlannerModel" ⟨"EnvelopePlannerModel", "step", "(IIIII)I"⟩ ⟨"EnvelopePlannerModel", "step", "(IIIII)I"⟩ ∈ wU := wu_i 27 rfl rfl
set_option maxRecDepth 20000 in
theorem us_28 : Cond.selects "EnvelopePlannerModel" ⟨"EnvelopePlannerModel", "does", "(IIIIIZ)I"⟩ ⟨"EnvelopePlannerModel", "does", "(IIIIIZ)I"⟩ ∈ wU := wu_i 28 rfl rfl
set_option maxRecDepth 20000 in
theorem us_29 : Cond.selects "EnvelopePlannerModel" ⟨"EnvelopePlannerModel", "refuses", "(ZI)Z"⟩ ⟨"EnvelopePlannerModel", "refuses", "(ZI)Z"⟩ ∈ wU := wu_i 29 rfl rfl
set_option maxRecDepth 20000 in
theorem us_30 : Cond.selects "EnvelopePlannerModel" ⟨"EnvelopePlannerModel", "n", "(I)I"⟩ ⟨"EnvelopePlannerModel", "n", "(I)I"⟩ ∈ wU := wu_i 30 rfl rfl
set_option maxRecDepth 20000 in
theorem us_31 : Cond.selects "EnvelopePlannerModel" ⟨"EnvelopePlannerModel", "row", "(IIIIIII)I"⟩ ⟨"EnvelopePlannerModel", "row", "(IIIIIII)I"⟩ ∈ wU := wu_i 31 rfl rfl
set_option maxRecDepth 20000 in
theorem us_32 : Cond.selects "EnvelopePlannerModel" ⟨"EnvelopePlannerModel", "puts", "(IJ)V"⟩ ⟨"EnvelopePlannerModel", "puts", "(IJ)V"⟩ ∈ wU := wu_i 32 rfl rfl
set_option maxRecDepth 20000 in
theorem us_33 : Cond.selects "EnvelopePlannerModel" ⟨"EnvelopePlannerModel", "adds", "(IJ)V"⟩ ⟨"EnvelopePlannerModel", "adds", "(IJ)V"⟩ ∈ wU := wu_i 33 rfl rfl
set_option maxRecDepth 20000 in
theorem us_34 : Cond.selects "EnvelopePlannerModel" ⟨"EnvelopePlannerModel", "isEnvelope", "(I)Z"⟩ ⟨"EnvelopePlannerModel", "isEnvelope", "(I)Z"⟩ ∈ wU := wu_i 34 rfl rfl
set_option maxRecDepth 20000 in
theorem us_35 : Cond.selects "EnvelopePlannerModel" ⟨"EnvelopePlannerModel", "swaps", "(II)I"⟩ ⟨"EnvelopePlannerModel", "swaps", "(II)I"⟩ ∈ wU := wu_i 35 rfl rfl
set_option maxRecDepth 20000 in
theorem us_36 : Cond.selects "EnvelopePlannerModel" ⟨"EnvelopePlannerModel", "removes", "(IIII)I"⟩ ⟨"EnvelopePlannerModel", "removes", "(IIII)I"⟩ ∈ wU := wu_i 36 rfl rfl
set_option maxRecDepth 20000 in
theorem us_37 : Cond.selects "EnvelopePlannerModel" ⟨"EnvelopePlannerModel", "p", "(I)J"⟩ ⟨"EnvelopePlannerModel", "p", "(I)J"⟩ ∈ wU := wu_i 37 rfl rfl
set_option maxRecDepth 20000 in
theorem us_38 : Cond.selects "EnvelopePlannerModel" ⟨"EnvelopePlannerModel", "item", "(IIIIZ)I"⟩ ⟨"EnvelopePlannerModel", "item", "(IIIIZ)I"⟩ ∈ wU := wu_i 38 rfl rfl
set_option maxRecDepth 20000 in
theorem us_39 : Cond.selects "EnvelopePlannerModel" ⟨"EnvelopePlannerModel", "receives", "(J)J"⟩ ⟨"EnvelopePlannerModel", "receives", "(J)J"⟩ ∈ wU := wu_i 39 rfl rfl
set_option maxRecDepth 20000 in
theorem us_40 : Cond.selects "EnvelopePlannerModel" ⟨"EnvelopePlannerModel", "shares", "(IIJ)J"⟩ ⟨"EnvelopePlannerModel", "shares", "(IIJ)J"⟩ ∈ wU := wu_i 40 rfl rfl
set_option maxRecDepth 20000 in
theorem us_41 : Cond.selects "EnvelopePlannerModel" ⟨"EnvelopePlannerModel", "put", "(IJ)J"⟩ ⟨"EnvelopePlannerModel", "put", "(IJ)J"⟩ ∈ wU := wu_i 41 rfl rfl
set_option maxRecDepth 20000 in
theorem us_42 : Cond.selects "EnvelopePlannerModel" ⟨"EnvelopePlannerModel", "roomIn", "(I)J"⟩ ⟨"EnvelopePlannerModel", "roomIn", "(I)J"⟩ ∈ wU := wu_i 42 rfl rfl
set_option maxRecDepth 20000 in
theorem us_43 : Cond.selects "EnvelopePlannerModel" ⟨"EnvelopePlannerModel", "settled", "(J)I"⟩ ⟨"EnvelopePlannerModel", "settled", "(J)I"⟩ ∈ wU := wu_i 43 rfl rfl
set_option maxRecDepth 20000 in
theorem us_44 : Cond.selects "EnvelopePlannerModel" ⟨"EnvelopePlannerModel", "settles", "()V"⟩ ⟨"EnvelopePlannerModel", "settles", "()V"⟩ ∈ wU := wu_i 44 rfl rfl
set_option maxRecDepth 20000 in
theorem us_45 : Cond.selects "EnvelopePlannerModel" ⟨"EnvelopePlannerModel", "maySpend", "(IJ)Z"⟩ ⟨"EnvelopePlannerModel", "maySpend", "(IJ)Z"⟩ ∈ wU := wu_i 45 rfl rfl
set_option maxRecDepth 20000 in
theorem us_46 : Cond.selects "EnvelopePlannerModel" ⟨"EnvelopePlannerModel", "spends", "(IJ)J"⟩ ⟨"EnvelopePlannerModel", "spends", "(IJ)J"⟩ ∈ wU := wu_i 46 rfl rfl
set_option maxRecDepth 20000 in
theorem us_47 : Cond.selects "EnvelopePlannerModel" ⟨"EnvelopePlannerModel", "isPlace", "(I)Z"⟩ ⟨"EnvelopePlannerModel", "isPlace", "(I)Z"⟩ ∈ wU := wu_i 47 rfl rfl
set_option maxRecDepth 20000 in
theorem us_48 : Cond.selects "EnvelopePlannerModel" ⟨"EnvelopePlannerModel", "moneyIn", "(I)J"⟩ ⟨"EnvelopePlannerModel", "moneyIn", "(I)J"⟩ ∈ wU := wu_i 48 rfl rfl
set_option maxRecDepth 20000 in
theorem us_49 : Cond.selects "EnvelopePlannerModel" ⟨"EnvelopePlannerModel", "moves", "(III)I"⟩ ⟨"EnvelopePlannerModel", "moves", "(III)I"⟩ ∈ wU := wu_i 49 rfl rfl
set_option maxRecDepth 20000 in
theorem us_50 : Cond.selects "EnvelopePlannerModel" ⟨"EnvelopePlannerModel", "day", "()V"⟩ ⟨"EnvelopePlannerModel", "day", "()V"⟩ ∈ wU := wu_i 50 rfl rfl
set_option maxRecDepth 20000 in
theorem us_51 : Cond.selects "EnvelopePlannerModel" ⟨"EnvelopePlannerModel", "carriesOut", "(I)V"⟩ ⟨"EnvelopePlannerModel", "carriesOut", "(I)V"⟩ ∈ wU := wu_i 51 rfl rfl
set_option maxRecDepth 20000 in
theorem us_52 : Cond.selects "EnvelopePlannerModel" ⟨"EnvelopePlannerModel", "laysStep", "(IIIIII)V"⟩ ⟨"EnvelopePlannerModel", "laysStep", "(IIIIII)V"⟩ ∈ wU := wu_i 52 rfl rfl
set_option maxRecDepth 20000 in
theorem us_53 : Cond.selects "EnvelopePlannerModel" ⟨"EnvelopePlannerModel", "told", "(IIII)I"⟩ ⟨"EnvelopePlannerModel", "told", "(IIII)I"⟩ ∈ wU := wu_i 53 rfl rfl
set_option maxRecDepth 20000 in
theorem us_54 : Cond.selects "EnvelopePlannerModel" ⟨"EnvelopePlannerModel", "begins", "()V"⟩ ⟨"EnvelopePlannerModel", "begins", "()V"⟩ ∈ wU := wu_i 54 rfl rfl
set_option maxRecDepth 20000 in
theorem us_55 : Cond.selects "EnvelopePlannerModel" ⟨"EnvelopePlannerModel", "fails", "(I)I"⟩ ⟨"EnvelopePlannerModel", "fails", "(I)I"⟩ ∈ wU := wu_i 55 rfl rfl
set_option maxRecDepth 20000 in
theorem us_56 : Cond.selects "EnvelopePlannerModel" ⟨"EnvelopePlannerModel", "copies", "(II)V"⟩ ⟨"EnvelopePlannerModel", "copies", "(II)V"⟩ ∈ wU := wu_i 56 rfl rfl
set_option maxRecDepth 20000 in
theorem us_57 : Cond.selects "EnvelopePlannerModel" ⟨"EnvelopePlannerModel", "totalOf", "(I)J"⟩ ⟨"EnvelopePlannerModel", "totalOf", "(I)J"⟩ ∈ wU := wu_i 57 rfl rfl
set_option maxRecDepth 20000 in
theorem us_58 : Cond.selects "EnvelopePlannerModel" ⟨"EnvelopePlannerModel", "balances", "()J"⟩ ⟨"EnvelopePlannerModel", "balances", "()J"⟩ ∈ wU := wu_i 58 rfl rfl
set_option maxRecDepth 20000 in
theorem us_59 : Cond.selects "EnvelopePlannerModel" ⟨"EnvelopePlannerModel", "thinks", "()V"⟩ ⟨"EnvelopePlannerModel", "thinks", "()V"⟩ ∈ wU := wu_i 59 rfl rfl
set_option maxRecDepth 20000 in
theorem us_60 : Cond.selects "EnvelopePlannerModel" ⟨"EnvelopePlannerModel", "isSpared", "(III)Z"⟩ ⟨"EnvelopePlannerModel", "isSpared", "(III)Z"⟩ ∈ wU := wu_i 60 rfl rfl
set_option maxRecDepth 20000 in
theorem us_61 : Cond.selects "EnvelopePlannerModel" ⟨"EnvelopePlannerModel", "isBranch", "(I)Z"⟩ ⟨"EnvelopePlannerModel", "isBranch", "(I)Z"⟩ ∈ wU := wu_i 61 rfl rfl
set_option maxRecDepth 20000 in
theorem us_62 : Cond.selects "EnvelopePlannerModel" ⟨"EnvelopePlannerModel", "isHeld", "(I)Z"⟩ ⟨"EnvelopePlannerModel", "isHeld", "(I)Z"⟩ ∈ wU := wu_i 62 rfl rfl
set_option maxRecDepth 20000 in
theorem us_63 : Cond.selects "EnvelopePlannerModel" ⟨"EnvelopePlannerModel", "children", "(I)I"⟩ ⟨"EnvelopePlannerModel", "children", "(I)I"⟩ ∈ wU := wu_i 63 rfl rfl
set_option maxRecDepth 20000 in
theorem us_64 : Cond.selects "EnvelopePlannerModel" ⟨"EnvelopePlannerModel", "replays", "(IIZ)I"⟩ ⟨"EnvelopePlannerModel", "replays", "(IIZ)I"⟩ ∈ wU := wu_i 64 rfl rfl
set_option maxRecDepth 20000 in
theorem us_65 : Cond.selects "EnvelopePlannerModel" ⟨"EnvelopePlannerModel", "moneyOf", "(II)J"⟩ ⟨"EnvelopePlannerModel", "moneyOf", "(II)J"⟩ ∈ wU := wu_i 65 rfl rfl
set_option maxRecDepth 20000 in
theorem us_66 : Cond.selects "EnvelopePlannerModel" ⟨"EnvelopePlannerModel", "isRemade", "(I)Z"⟩ ⟨"EnvelopePlannerModel", "isRemade", "(I)Z"⟩ ∈ wU := wu_i 66 rfl rfl
set_option maxRecDepth 20000 in
theorem us_67 : Cond.selects "EnvelopePlannerModel" ⟨"EnvelopePlannerModel", "isFaulty", "()Z"⟩ ⟨"EnvelopePlannerModel", "isFaulty", "()Z"⟩ ∈ wU := wu_i 67 rfl rfl
set_option maxRecDepth 20000 in
theorem us_68 : Cond.selects "EnvelopePlannerModel" ⟨"EnvelopePlannerModel", "command", "()V"⟩ ⟨"EnvelopePlannerModel", "command", "()V"⟩ ∈ wU := wu_i 68 rfl rfl
set_option maxRecDepth 20000 in
theorem us_69 : Cond.selects "EnvelopePlannerModel" ⟨"EnvelopePlannerModel", "sign", "()I"⟩ ⟨"EnvelopePlannerModel", "sign", "()I"⟩ ∈ wU := wu_i 69 rfl rfl
set_option maxRecDepth 20000 in
theorem us_70 : Cond.selects "EnvelopePlannerModel" ⟨"EnvelopePlannerModel", "number", "(I)I"⟩ ⟨"EnvelopePlannerModel", "number", "(I)I"⟩ ∈ wU := wu_i 70 rfl rfl
set_option maxRecDepth 20000 in
theorem us_71 : Cond.selects "EnvelopePlannerModel" ⟨"EnvelopePlannerModel", "place", "()I"⟩ ⟨"EnvelopePlannerModel", "place", "()I"⟩ ∈ wU := wu_i 71 rfl rfl
set_option maxRecDepth 20000 in
theorem us_72 : Cond.selects "EnvelopePlannerModel" ⟨"EnvelopePlannerModel", "takes", "(I)V"⟩ ⟨"EnvelopePlannerModel", "takes", "(I)V"⟩ ∈ wU := wu_i 72 rfl rfl
set_option maxRecDepth 20000 in
theorem us_73 : Cond.selects "EnvelopePlannerModel" ⟨"EnvelopePlannerModel", "branches", "()I"⟩ ⟨"EnvelopePlannerModel", "branches", "()I"⟩ ∈ wU := wu_i 73 rfl rfl
set_option maxRecDepth 20000 in
theorem u_0 : (Jvm.Cond.initialized "EnvelopePlannerLaw") ∈ wU := wu_1 0 rfl rfl
set_option maxRecDepth 20000 in
theorem u_1 : (Jvm.Cond.initialized "EnvelopePlanner") ∈ wU := wu_1 1 rfl rfl
set_option maxRecDepth 20000 in
theorem u_2 : (Jvm.Cond.initialized "EnvelopePlanner$Branches") ∈ wU := wu_1 2 rfl rfl
set_option maxRecDepth 20000 in
theorem u_3 : (Jvm.Cond.initialized "EnvelopePlanner$Branch") ∈ wU := wu_1 3 rfl rfl
set_option maxRecDepth 20000 in
theorem u_4 : (Jvm.Cond.initialized "EnvelopePlanner$Plan") ∈ wU := wu_1 4 rfl rfl
set_option maxRecDepth 20000 in
theorem u_5 : (Jvm.Cond.initialized "EnvelopePlanner$Envelopes") ∈ wU := wu_1 5 rfl rfl
set_option maxRecDepth 20000 in
theorem u_6 : (Jvm.Cond.initialized "EnvelopePlanner$Rules") ∈ wU := wu_1 6 rfl rfl
set_option maxRecDepth 20000 in
theorem u_7 : (Jvm.Cond.initialized "EnvelopePlanner$Links") ∈ wU := wu_1 7 rfl rfl
set_option maxRecDepth 20000 in
theorem u_8 : (Jvm.Cond.initialized "EnvelopePlanner$Items") ∈ wU := wu_1 8 rfl rfl
set_option maxRecDepth 20000 in
theorem u_9 : (Jvm.Cond.initialized "EnvelopePlanner$Reader") ∈ wU := wu_1 9 rfl rfl
set_option maxRecDepth 20000 in
theorem u_10 : (Jvm.Cond.initialized "EnvelopePlannerModel") ∈ wU := wu_1 10 rfl rfl
set_option maxRecDepth 20000 in
theorem u_11 : (Jvm.Cond.initialized "java/lang/Throwable") ∈ wU := wu_1 11 rfl rfl
set_option maxRecDepth 20000 in
theorem u_12 : (Jvm.Cond.initialized "java/lang/Exception") ∈ wU := wu_1 12 rfl rfl
set_option maxRecDepth 20000 in
theorem u_13 : (Jvm.Cond.initialized "java/lang/RuntimeException") ∈ wU := wu_1 13 rfl rfl
set_option maxRecDepth 20000 in
theorem u_14 : (Jvm.Cond.initialized "java/lang/IndexOutOfBoundsException") ∈ wU := wu_1 14 rfl rfl
set_option maxRecDepth 20000 in
theorem u_15 : (Jvm.Cond.initialized "java/lang/IllegalArgumentException") ∈ wU := wu_1 15 rfl rfl
set_option maxRecDepth 20000 in
theorem u_16 : (Jvm.Cond.initialized "java/lang/IllegalStateException") ∈ wU := wu_1 16 rfl rfl
set_option maxRecDepth 20000 in
theorem u_17 : (Jvm.Cond.initialized "java/lang/Math") ∈ wU := wu_1 17 rfl rfl
set_option maxRecDepth 20000 in
theorem u_18 : (Jvm.Cond.initialized "java/lang/ArrayIndexOutOfBoundsException") ∈ wU := wu_1 18 rfl rfl
set_option maxRecDepth 20000 in
theorem u_19 : (Jvm.Cond.initialized "java/lang/String") ∈ wU := wu_1 19 rfl rfl
set_option maxRecDepth 20000 in
theorem u_20 : (Jvm.Cond.initialized "java/lang/System") ∈ wU := wu_1 20 rfl rfl
set_option maxRecDepth 20000 in
theorem u_21 : (Jvm.Cond.initialized "java/lang/ArithmeticException") ∈ wU := wu_1 21 rfl rfl
set_option maxRecDepth 20000 in
theorem u_22 : (Jvm.Cond.initialized "java/util/NoSuchElementException") ∈ wU := wu_1 22 rfl rfl
set_option maxRecDepth 20000 in
theorem u_23 : (Jvm.Cond.initialized "java/lang/UnsupportedOperationException") ∈ wU := wu_1 23 rfl rfl
set_option maxRecDepth 20000 in
theorem u_24 : (Jvm.Cond.classLink "EnvelopePlannerLaw" (8 : Nat) "EnvelopePlanner") ∈ wU := wu_1 24 rfl rfl
set_option maxRecDepth 20000 in
theorem u_25 : (Jvm.Cond.instantiable "EnvelopePlanner" (9 : Nat)) ∈ wU := wu_1 25 rfl rfl
set_option maxRecDepth 20000 in
theorem u_26 : (Jvm.Cond.methodLink "EnvelopePlannerLaw" (137 : Nat) ({ cls := "EnvelopePlanner", name := "<init>", desc := "()V" } : Jvm.MethodName)) ∈ wU := wu_1 26 rfl rfl
set_option maxRecDepth 20000 in
theorem u_27 : (Jvm.Cond.instanceMethod ({ cls := "EnvelopePlanner", name := "<init>", desc := "()V" } : Jvm.MethodName)) ∈ wU := wu_1 27 rfl rfl
set_option maxRecDepth 20000 in
theorem u_28 : (Jvm.Cond.code ({ cls := "EnvelopePlanner", name := "<init>", desc := "()V" } : Jvm.MethodName) prog_1_method_1_code (1 : Nat) (Option.none : Option Jvm.ClassFile.FieldType)) ∈ wU := wu_1 28 rfl rfl
set_option maxRecDepth 20000 in
theorem u_29 : (Jvm.Cond.methodLink "EnvelopePlanner" (1 : Nat) ({ cls := "java/lang/Object", name := "<init>", desc := "()V" } : Jvm.MethodName)) ∈ wU := wu_1 29 rfl rfl
set_option maxRecDepth 20000 in
theorem u_30 : (Jvm.Cond.instanceMethod ({ cls := "java/lang/Object", name := "<init>", desc := "()V" } : Jvm.MethodName)) ∈ wU := wu_1 30 rfl rfl
set_option maxRecDepth 20000 in
theorem u_31 : (Jvm.Cond.code ({ cls := "java/lang/Object", name := "<init>", desc := "()V" } : Jvm.MethodName) object_method_1_code (1 : Nat) (Option.none : Option Jvm.ClassFile.FieldType)) ∈ wU := wu_1 31 rfl rfl
set_option maxRecDepth 20000 in
theorem u_32 : (Jvm.Cond.classLink "EnvelopePlanner" (7 : Nat) "EnvelopePlanner$Branches") ∈ wU := wu_1 32 rfl rfl
set_option maxRecDepth 20000 in
theorem u_33 : (Jvm.Cond.instantiable "EnvelopePlanner$Branches" (3 : Nat)) ∈ wU := wu_1 33 rfl rfl
set_option maxRecDepth 20000 in
theorem u_34 : (Jvm.Cond.methodLink "EnvelopePlanner" (9 : Nat) ({ cls := "EnvelopePlanner$Branches", name := "<init>", desc := "()V" } : Jvm.MethodName)) ∈ wU := wu_1 34 rfl rfl
set_option maxRecDepth 20000 in
theorem u_35 : (Jvm.Cond.instanceMethod ({ cls := "EnvelopePlanner$Branches", name := "<init>", desc := "()V" } : Jvm.MethodName)) ∈ wU := wu_1 35 rfl rfl
set_option maxRecDepth 20000 in
theorem u_36 : (Jvm.Cond.code ({ cls := "EnvelopePlanner$Branches", name := "<init>", desc := "()V" } : Jvm.MethodName) prog_3_method_1_code (2 : Nat) (Option.none : Option Jvm.ClassFile.FieldType)) ∈ wU := wu_1 36 rfl rfl
set_option maxRecDepth 20000 in
theorem u_37 : (Jvm.Cond.methodLink "EnvelopePlanner$Branches" (3 : Nat) ({ cls := "java/lang/Object", name := "<init>", desc := "()V" } : Jvm.MethodName)) ∈ wU := wu_1 37 rfl rfl
set_option maxRecDepth 20000 in
theorem u_38 : (Jvm.Cond.classLink "EnvelopePlanner$Branches" (9 : Nat) "EnvelopePlanner$Branch") ∈ wU := wu_1 38 rfl rfl
set_option maxRecDepth 20000 in
theorem u_39 : (Jvm.Cond.instantiable "EnvelopePlanner$Branch" (6 : Nat)) ∈ wU := wu_1 39 rfl rfl
set_option maxRecDepth 20000 in
theorem u_40 : (Jvm.Cond.methodLinkNest "EnvelopePlanner$Branches" (11 : Nat) ({ cls := "EnvelopePlanner$Branch", name := "<init>", desc := "()V" } : Jvm.MethodName) "EnvelopePlanner") ∈ wU := wu_1 40 rfl rfl
set_option maxRecDepth 20000 in
theorem u_41 : (Jvm.Cond.instanceMethod ({ cls := "EnvelopePlanner$Branch", name := "<init>", desc := "()V" } : Jvm.MethodName)) ∈ wU := wu_1 41 rfl rfl
set_option maxRecDepth 20000 in
theorem u_42 : (Jvm.Cond.code ({ cls := "EnvelopePlanner$Branch", name := "<init>", desc := "()V" } : Jvm.MethodName) prog_2_method_1_code (1 : Nat) (Option.none : Option Jvm.ClassFile.FieldType)) ∈ wU := wu_1 42 rfl rfl
set_option maxRecDepth 20000 in
theorem u_43 : (Jvm.Cond.methodLink "EnvelopePlanner$Branch" (3 : Nat) ({ cls := "java/lang/Object", name := "<init>", desc := "()V" } : Jvm.MethodName)) ∈ wU := wu_1 43 rfl rfl
set_option maxRecDepth 20000 in
theorem u_44 : (Jvm.Cond.classLink "EnvelopePlanner$Branch" (9 : Nat) "EnvelopePlanner$Plan") ∈ wU := wu_1 44 rfl rfl
set_option maxRecDepth 20000 in
theorem u_45 : (Jvm.Cond.instantiable "EnvelopePlanner$Plan" (11 : Nat)) ∈ wU := wu_1 45 rfl rfl
set_option maxRecDepth 20000 in
theorem u_46 : (Jvm.Cond.methodLinkNest "EnvelopePlanner$Branch" (11 : Nat) ({ cls := "EnvelopePlanner$Plan", name := "<init>", desc := "()V" } : Jvm.MethodName) "EnvelopePlanner") ∈ wU := wu_1 46 rfl rfl
set_option maxRecDepth 20000 in
theorem u_47 : (Jvm.Cond.instanceMethod ({ cls := "EnvelopePlanner$Plan", name := "<init>", desc := "()V" } : Jvm.MethodName)) ∈ wU := wu_1 47 rfl rfl
set_option maxRecDepth 20000 in
theorem u_48 : (Jvm.Cond.code ({ cls := "EnvelopePlanner$Plan", name := "<init>", desc := "()V" } : Jvm.MethodName) prog_7_method_1_code (1 : Nat) (Option.none : Option Jvm.ClassFile.FieldType)) ∈ wU := wu_1 48 rfl rfl
set_option maxRecDepth 20000 in
theorem u_49 : (Jvm.Cond.methodLink "EnvelopePlanner$Plan" (3 : Nat) ({ cls := "java/lang/Object", name := "<init>", desc := "()V" } : Jvm.MethodName)) ∈ wU := wu_1 49 rfl rfl
set_option maxRecDepth 20000 in
theorem u_50 : (Jvm.Cond.classLink "EnvelopePlanner$Plan" (9 : Nat) "EnvelopePlanner$Envelopes") ∈ wU := wu_1 50 rfl rfl
set_option maxRecDepth 20000 in
theorem u_51 : (Jvm.Cond.instantiable "EnvelopePlanner$Envelopes" (5 : Nat)) ∈ wU := wu_1 51 rfl rfl
set_option maxRecDepth 20000 in
theorem u_52 : (Jvm.Cond.methodLinkNest "EnvelopePlanner$Plan" (11 : Nat) ({ cls := "EnvelopePlanner$Envelopes", name := "<init>", desc := "()V" } : Jvm.MethodName) "EnvelopePlanner") ∈ wU := wu_1 52 rfl rfl
set_option maxRecDepth 20000 in
theorem u_53 : (Jvm.Cond.instanceMethod ({ cls := "EnvelopePlanner$Envelopes", name := "<init>", desc := "()V" } : Jvm.MethodName)) ∈ wU := wu_1 53 rfl rfl
set_option maxRecDepth 20000 in
theorem u_54 : (Jvm.Cond.code ({ cls := "EnvelopePlanner$Envelopes", name := "<init>", desc := "()V" } : Jvm.MethodName) prog_4_method_1_code (1 : Nat) (Option.none : Option Jvm.ClassFile.FieldType)) ∈ wU := wu_1 54 rfl rfl
set_option maxRecDepth 20000 in
theorem u_55 : (Jvm.Cond.methodLink "EnvelopePlanner$Envelopes" (3 : Nat) ({ cls := "java/lang/Object", name := "<init>", desc := "()V" } : Jvm.MethodName)) ∈ wU := wu_1 55 rfl rfl
set_option maxRecDepth 20000 in
theorem u_56 : (Jvm.Cond.fieldLink "EnvelopePlanner$Envelopes" (9 : Nat) "EnvelopePlanner$Envelopes" "balance" "[J") ∈ wU := wu_1 56 rfl rfl
set_option maxRecDepth 20000 in
theorem u_57 : (Jvm.Cond.fieldLink "EnvelopePlanner$Envelopes" (15 : Nat) "EnvelopePlanner$Envelopes" "cap" "[I") ∈ wU := wu_1 57 rfl rfl
set_option maxRecDepth 20000 in
theorem u_58 : (Jvm.Cond.fieldLink "EnvelopePlanner$Envelopes" (19 : Nat) "EnvelopePlanner$Envelopes" "rollover" "[I") ∈ wU := wu_1 58 rfl rfl
set_option maxRecDepth 20000 in
theorem u_59 : (Jvm.Cond.fieldLink "EnvelopePlanner$Envelopes" (22 : Nat) "EnvelopePlanner$Envelopes" "spent" "[J") ∈ wU := wu_1 59 rfl rfl
set_option maxRecDepth 20000 in
theorem u_60 : (Jvm.Cond.fieldLink "EnvelopePlanner$Envelopes" (25 : Nat) "EnvelopePlanner$Envelopes" "count" "I") ∈ wU := wu_1 60 rfl rfl
set_option maxRecDepth 20000 in
theorem u_61 : (Jvm.Cond.fieldLinkNest "EnvelopePlanner$Plan" (87 : Nat) "EnvelopePlanner$Envelopes" "count" "I" "EnvelopePlanner") ∈ wU := wu_1 61 rfl rfl
set_option maxRecDepth 20000 in
theorem u_73 : (Jvm.Cond.arrayClass Jvm.ClassFile.FieldType.long) ∈ wU := wu_1 73 rfl rfl
set_option maxRecDepth 20000 in
theorem u_74 : (Jvm.Cond.arrayClass Jvm.ClassFile.FieldType.int) ∈ wU := wu_1 74 rfl rfl
set_option maxRecDepth 20000 in
theorem u_75 : (Jvm.Cond.classLink "EnvelopePlanner$Plan" (18 : Nat) "EnvelopePlanner$Rules") ∈ wU := wu_1 75 rfl rfl
set_option maxRecDepth 20000 in
theorem u_76 : (Jvm.Cond.instantiable "EnvelopePlanner$Rules" (4 : Nat)) ∈ wU := wu_1 76 rfl rfl
set_option maxRecDepth 20000 in
theorem u_77 : (Jvm.Cond.methodLinkNest "EnvelopePlanner$Plan" (20 : Nat) ({ cls := "EnvelopePlanner$Rules", name := "<init>", desc := "()V" } : Jvm.MethodName) "EnvelopePlanner") ∈ wU := wu_1 77 rfl rfl
set_option maxRecDepth 20000 in
theorem u_78 : (Jvm.Cond.instanceMethod ({ cls := "EnvelopePlanner$Rules", name := "<init>", desc := "()V" } : Jvm.MethodName)) ∈ wU := wu_1 78 rfl rfl
set_option maxRecDepth 20000 in
theorem u_79 : (Jvm.Cond.code ({ cls := "EnvelopePlanner$Rules", name := "<init>", desc := "()V" } : Jvm.MethodName) prog_9_method_1_code (1 : Nat) (Option.none : Option Jvm.ClassFile.FieldType)) ∈ wU := wu_1 79 rfl rfl
set_option maxRecDepth 20000 in
theorem u_80 : (Jvm.Cond.methodLink "EnvelopePlanner$Rules" (3 : Nat) ({ cls := "java/lang/Object", name := "<init>", desc := "()V" } : Jvm.MethodName)) ∈ wU := wu_1 80 rfl rfl
set_option maxRecDepth 20000 in
theorem u_81 : (Jvm.Cond.fieldLink "EnvelopePlanner$Rules" (9 : Nat) "EnvelopePlanner$Rules" "kind" "[I") ∈ wU := wu_1 81 rfl rfl
set_option maxRecDepth 20000 in
theorem u_82 : (Jvm.Cond.fieldLinkNest "EnvelopePlanner$Plan" (174 : Nat) "EnvelopePlanner$Rules" "kind" "[I" "EnvelopePlanner") ∈ wU := wu_1 82 rfl rfl
set_option maxRecDepth 20000 in
theorem u_83 : (Jvm.Cond.fieldLink "EnvelopePlanner$Rules" (15 : Nat) "EnvelopePlanner$Rules" "target" "[I") ∈ wU := wu_1 83 rfl rfl
set_option maxRecDepth 20000 in
theorem u_84 : (Jvm.Cond.fieldLinkNest "EnvelopePlanner$Plan" (185 : Nat) "EnvelopePlanner$Rules" "target" "[I" "EnvelopePlanner") ∈ wU := wu_1 84 rfl rfl
set_option maxRecDepth 20000 in
theorem u_85 : (Jvm.Cond.fieldLink "EnvelopePlanner$Rules" (18 : Nat) "EnvelopePlanner$Rules" "number" "[I") ∈ wU := wu_1 85 rfl rfl
set_option maxRecDepth 20000 in
theorem u_86 : (Jvm.Cond.fieldLinkNest "EnvelopePlanner$Plan" (196 : Nat) "EnvelopePlanner$Rules" "number" "[I" "EnvelopePlanner") ∈ wU := wu_1 86 rfl rfl
set_option maxRecDepth 20000 in
theorem u_87 : (Jvm.Cond.fieldLink "EnvelopePlanner$Rules" (21 : Nat) "EnvelopePlanner$Rules" "count" "I") ∈ wU := wu_1 87 rfl rfl
set_option maxRecDepth 20000 in
theorem u_88 : (Jvm.Cond.fieldLinkNest "EnvelopePlanner$Plan" (90 : Nat) "EnvelopePlanner$Rules" "count" "I" "EnvelopePlanner") ∈ wU := wu_1 88 rfl rfl
set_option maxRecDepth 20000 in
theorem u_98 : (Jvm.Cond.classLink "EnvelopePlanner$Plan" (25 : Nat) "EnvelopePlanner$Links") ∈ wU := wu_1 98 rfl rfl
set_option maxRecDepth 20000 in
theorem u_99 : (Jvm.Cond.instantiable "EnvelopePlanner$Links" (6 : Nat)) ∈ wU := wu_1 99 rfl rfl
set_option maxRecDepth 20000 in
theorem u_100 : (Jvm.Cond.methodLinkNest "EnvelopePlanner$Plan" (27 : Nat) ({ cls := "EnvelopePlanner$Links", name := "<init>", desc := "()V" } : Jvm.MethodName) "EnvelopePlanner") ∈ wU := wu_1 100 rfl rfl
set_option maxRecDepth 20000 in
theorem u_101 : (Jvm.Cond.instanceMethod ({ cls := "EnvelopePlanner$Links", name := "<init>", desc := "()V" } : Jvm.MethodName)) ∈ wU := wu_1 101 rfl rfl
set_option maxRecDepth 20000 in
theorem u_102 : (Jvm.Cond.code ({ cls := "EnvelopePlanner$Links", name := "<init>", desc := "()V" } : Jvm.MethodName) prog_6_method_1_code (1 : Nat) (Option.none : Option Jvm.ClassFile.FieldType)) ∈ wU := wu_1 102 rfl rfl
set_option maxRecDepth 20000 in
theorem u_103 : (Jvm.Cond.methodLink "EnvelopePlanner$Links" (3 : Nat) ({ cls := "java/lang/Object", name := "<init>", desc := "()V" } : Jvm.MethodName)) ∈ wU := wu_1 103 rfl rfl
set_option maxRecDepth 20000 in
theorem u_104 : (Jvm.Cond.fieldLink "EnvelopePlanner$Links" (9 : Nat) "EnvelopePlanner$Links" "source" "[I") ∈ wU := wu_1 104 rfl rfl
set_option maxRecDepth 20000 in
theorem u_105 : (Jvm.Cond.fieldLinkNest "EnvelopePlanner$Plan" (214 : Nat) "EnvelopePlanner$Links" "source" "[I" "EnvelopePlanner") ∈ wU := wu_1 105 rfl rfl
set_option maxRecDepth 20000 in
theorem u_106 : (Jvm.Cond.fieldLink "EnvelopePlanner$Links" (15 : Nat) "EnvelopePlanner$Links" "target" "[I") ∈ wU := wu_1 106 rfl rfl
set_option maxRecDepth 20000 in
theorem u_107 : (Jvm.Cond.fieldLinkNest "EnvelopePlanner$Plan" (220 : Nat) "EnvelopePlanner$Links" "target" "[I" "EnvelopePlanner") ∈ wU := wu_1 107 rfl rfl
set_option maxRecDepth 20000 in
theorem u_108 : (Jvm.Cond.fieldLink "EnvelopePlanner$Links" (18 : Nat) "EnvelopePlanner$Links" "threshold" "[I") ∈ wU := wu_1 108 rfl rfl
set_option maxRecDepth 20000 in
theorem u_109 : (Jvm.Cond.fieldLinkNest "EnvelopePlanner$Plan" (217 : Nat) "EnvelopePlanner$Links" "threshold" "[I" "EnvelopePlanner") ∈ wU := wu_1 109 rfl rfl
set_option maxRecDepth 20000 in
theorem u_110 : (Jvm.Cond.fieldLink "EnvelopePlanner$Links" (21 : Nat) "EnvelopePlanner$Links" "percentage" "[I") ∈ wU := wu_1 110 rfl rfl
set_option maxRecDepth 20000 in
theorem u_111 : (Jvm.Cond.fieldLinkNest "EnvelopePlanner$Plan" (221 : Nat) "EnvelopePlanner$Links" "percentage" "[I" "EnvelopePlanner") ∈ wU := wu_1 111 rfl rfl
set_option maxRecDepth 20000 in
theorem u_112 : (Jvm.Cond.fieldLink "EnvelopePlanner$Links" (24 : Nat) "EnvelopePlanner$Links" "passed" "[J") ∈ wU := wu_1 112 rfl rfl
set_option maxRecDepth 20000 in
theorem u_113 : (Jvm.Cond.fieldLinkNest "EnvelopePlanner$Plan" (224 : Nat) "EnvelopePlanner$Links" "passed" "[J" "EnvelopePlanner") ∈ wU := wu_1 113 rfl rfl
set_option maxRecDepth 20000 in
theorem u_114 : (Jvm.Cond.fieldLink "EnvelopePlanner$Links" (28 : Nat) "EnvelopePlanner$Links" "count" "I") ∈ wU := wu_1 114 rfl rfl
set_option maxRecDepth 20000 in
theorem u_115 : (Jvm.Cond.fieldLinkNest "EnvelopePlanner$Plan" (91 : Nat) "EnvelopePlanner$Links" "count" "I" "EnvelopePlanner") ∈ wU := wu_1 115 rfl rfl
set_option maxRecDepth 20000 in
theorem u_129 : (Jvm.Cond.classLink "EnvelopePlanner$Plan" (32 : Nat) "EnvelopePlanner$Items") ∈ wU := wu_1 129 rfl rfl
set_option maxRecDepth 20000 in
theorem u_130 : (Jvm.Cond.instantiable "EnvelopePlanner$Items" (7 : Nat)) ∈ wU := wu_1 130 rfl rfl
set_option maxRecDepth 20000 in
theorem u_131 : (Jvm.Cond.methodLinkNest "EnvelopePlanner$Plan" (34 : Nat) ({ cls := "EnvelopePlanner$Items", name := "<init>", desc := "()V" } : Jvm.MethodName) "EnvelopePlanner") ∈ wU := wu_1 131 rfl rfl
set_option maxRecDepth 20000 in
theorem u_132 : (Jvm.Cond.instanceMethod ({ cls := "EnvelopePlanner$Items", name := "<init>", desc := "()V" } : Jvm.MethodName)) ∈ wU := wu_1 132 rfl rfl
set_option maxRecDepth 20000 in
theorem u_133 : (Jvm.Cond.code ({ cls := "EnvelopePlanner$Items", name := "<init>", desc := "()V" } : Jvm.MethodName) prog_5_method_1_code (1 : Nat) (Option.none : Option Jvm.ClassFile.FieldType)) ∈ wU := wu_1 133 rfl rfl
set_option maxRecDepth 20000 in
theorem u_134 : (Jvm.Cond.methodLink "EnvelopePlanner$Items" (3 : Nat) ({ cls := "java/lang/Object", name := "<init>", desc := "()V" } : Jvm.MethodName)) ∈ wU := wu_1 134 rfl rfl
set_option maxRecDepth 20000 in
theorem u_135 : (Jvm.Cond.fieldLink "EnvelopePlanner$Items" (9 : Nat) "EnvelopePlanner$Items" "kind" "[I") ∈ wU := wu_1 135 rfl rfl
set_option maxRecDepth 20000 in
theorem u_136 : (Jvm.Cond.fieldLinkNest "EnvelopePlanner$Plan" (233 : Nat) "EnvelopePlanner$Items" "kind" "[I" "EnvelopePlanner") ∈ wU := wu_1 136 rfl rfl
set_option maxRecDepth 20000 in
theorem u_137 : (Jvm.Cond.fieldLink "EnvelopePlanner$Items" (15 : Nat) "EnvelopePlanner$Items" "target" "[I") ∈ wU := wu_1 137 rfl rfl
set_option maxRecDepth 20000 in
theorem u_138 : (Jvm.Cond.fieldLinkNest "EnvelopePlanner$Plan" (237 : Nat) "EnvelopePlanner$Items" "target" "[I" "EnvelopePlanner") ∈ wU := wu_1 138 rfl rfl
set_option maxRecDepth 20000 in
theorem u_139 : (Jvm.Cond.fieldLink "EnvelopePlanner$Items" (18 : Nat) "EnvelopePlanner$Items" "amount" "[I") ∈ wU := wu_1 139 rfl rfl
set_option maxRecDepth 20000 in
theorem u_140 : (Jvm.Cond.fieldLinkNest "EnvelopePlanner$Plan" (234 : Nat) "EnvelopePlanner$Items" "amount" "[I" "EnvelopePlanner") ∈ wU := wu_1 140 rfl rfl
set_option maxRecDepth 20000 in
theorem u_141 : (Jvm.Cond.fieldLink "EnvelopePlanner$Items" (21 : Nat) "EnvelopePlanner$Items" "period" "[I") ∈ wU := wu_1 141 rfl rfl
set_option maxRecDepth 20000 in
theorem u_142 : (Jvm.Cond.fieldLinkNest "EnvelopePlanner$Plan" (230 : Nat) "EnvelopePlanner$Items" "period" "[I" "EnvelopePlanner") ∈ wU := wu_1 142 rfl rfl
set_option maxRecDepth 20000 in
theorem u_143 : (Jvm.Cond.fieldLink "EnvelopePlanner$Items" (24 : Nat) "EnvelopePlanner$Items" "due" "[I") ∈ wU := wu_1 143 rfl rfl
set_option maxRecDepth 20000 in
theorem u_144 : (Jvm.Cond.fieldLinkNest "EnvelopePlanner$Plan" (227 : Nat) "EnvelopePlanner$Items" "due" "[I" "EnvelopePlanner") ∈ wU := wu_1 144 rfl rfl
set_option maxRecDepth 20000 in
theorem u_145 : (Jvm.Cond.fieldLink "EnvelopePlanner$Items" (27 : Nat) "EnvelopePlanner$Items" "missed" "[I") ∈ wU := wu_1 145 rfl rfl
set_option maxRecDepth 20000 in
theorem u_146 : (Jvm.Cond.fieldLinkNest "EnvelopePlanner$Plan" (238 : Nat) "EnvelopePlanner$Items" "missed" "[I" "EnvelopePlanner") ∈ wU := wu_1 146 rfl rfl
set_option maxRecDepth 20000 in
theorem u_147 : (Jvm.Cond.fieldLink "EnvelopePlanner$Items" (30 : Nat) "EnvelopePlanner$Items" "count" "I") ∈ wU := wu_1 147 rfl rfl
set_option maxRecDepth 20000 in
theorem u_148 : (Jvm.Cond.fieldLinkNest "EnvelopePlanner$Plan" (92 : Nat) "EnvelopePlanner$Items" "count" "I" "EnvelopePlanner") ∈ wU := wu_1 148 rfl rfl
set_option maxRecDepth 20000 in
theorem u_164 : (Jvm.Cond.fieldLink "EnvelopePlanner$Plan" (12 : Nat) "EnvelopePlanner$Plan" "envelopes" "LEnvelopePlanner$Envelopes;") ∈ wU := wu_1 164 rfl rfl
set_option maxRecDepth 20000 in
theorem u_165 : (Jvm.Cond.fieldLinkNest "EnvelopePlanner" (90 : Nat) "EnvelopePlanner$Plan" "envelopes" "LEnvelopePlanner$Envelopes;" "EnvelopePlanner") ∈ wU := wu_1 165 rfl rfl
set_option maxRecDepth 20000 in
theorem u_166 : (Jvm.Cond.fieldLink "EnvelopePlanner$Plan" (21 : Nat) "EnvelopePlanner$Plan" "rules" "LEnvelopePlanner$Rules;") ∈ wU := wu_1 166 rfl rfl
set_option maxRecDepth 20000 in
theorem u_167 : (Jvm.Cond.fieldLinkNest "EnvelopePlanner" (115 : Nat) "EnvelopePlanner$Plan" "rules" "LEnvelopePlanner$Rules;" "EnvelopePlanner") ∈ wU := wu_1 167 rfl rfl
set_option maxRecDepth 20000 in
theorem u_168 : (Jvm.Cond.fieldLink "EnvelopePlanner$Plan" (28 : Nat) "EnvelopePlanner$Plan" "links" "LEnvelopePlanner$Links;") ∈ wU := wu_1 168 rfl rfl
set_option maxRecDepth 20000 in
theorem u_169 : (Jvm.Cond.fieldLinkNest "EnvelopePlanner" (140 : Nat) "EnvelopePlanner$Plan" "links" "LEnvelopePlanner$Links;" "EnvelopePlanner") ∈ wU := wu_1 169 rfl rfl
set_option maxRecDepth 20000 in
theorem u_170 : (Jvm.Cond.fieldLink "EnvelopePlanner$Plan" (35 : Nat) "EnvelopePlanner$Plan" "items" "LEnvelopePlanner$Items;") ∈ wU := wu_1 170 rfl rfl
set_option maxRecDepth 20000 in
theorem u_171 : (Jvm.Cond.fieldLinkNest "EnvelopePlanner" (148 : Nat) "EnvelopePlanner$Plan" "items" "LEnvelopePlanner$Items;" "EnvelopePlanner") ∈ wU := wu_1 171 rfl rfl
set_option maxRecDepth 20000 in
theorem u_172 : (Jvm.Cond.fieldLink "EnvelopePlanner$Plan" (52 : Nat) "EnvelopePlanner$Plan" "pool" "J") ∈ wU := wu_1 172 rfl rfl
set_option maxRecDepth 20000 in
theorem u_173 : (Jvm.Cond.fieldLinkNest "EnvelopePlanner" (173 : Nat) "EnvelopePlanner$Plan" "pool" "J" "EnvelopePlanner") ∈ wU := wu_1 173 rfl rfl
set_option maxRecDepth 20000 in
theorem u_174 : (Jvm.Cond.fieldLink "EnvelopePlanner$Plan" (56 : Nat) "EnvelopePlanner$Plan" "day" "I") ∈ wU := wu_1 174 rfl rfl
set_option maxRecDepth 20000 in
theorem u_175 : (Jvm.Cond.fieldLinkNest "EnvelopePlanner" (266 : Nat) "EnvelopePlanner$Plan" "day" "I" "EnvelopePlanner") ∈ wU := wu_1 175 rfl rfl
set_option maxRecDepth 20000 in
theorem u_176 : (Jvm.Cond.fieldLink "EnvelopePlanner$Plan" (60 : Nat) "EnvelopePlanner$Plan" "received" "J") ∈ wU := wu_1 176 rfl rfl
set_option maxRecDepth 20000 in
theorem u_177 : (Jvm.Cond.fieldLinkNest "EnvelopePlanner" (158 : Nat) "EnvelopePlanner$Plan" "received" "J" "EnvelopePlanner") ∈ wU := wu_1 177 rfl rfl
set_option maxRecDepth 20000 in
theorem u_178 : (Jvm.Cond.fieldLink "EnvelopePlanner$Plan" (63 : Nat) "EnvelopePlanner$Plan" "spent" "J") ∈ wU := wu_1 178 rfl rfl
set_option maxRecDepth 20000 in
theorem u_179 : (Jvm.Cond.fieldLinkNest "EnvelopePlanner" (167 : Nat) "EnvelopePlanner$Plan" "spent" "J" "EnvelopePlanner") ∈ wU := wu_1 179 rfl rfl
set_option maxRecDepth 20000 in
theorem u_180 : (Jvm.Cond.fieldLink "EnvelopePlanner$Plan" (66 : Nat) "EnvelopePlanner$Plan" "missed" "I") ∈ wU := wu_1 180 rfl rfl
set_option maxRecDepth 20000 in
theorem u_181 : (Jvm.Cond.fieldLink "EnvelopePlanner$Plan" (69 : Nat) "EnvelopePlanner$Plan" "passed" "J") ∈ wU := wu_1 181 rfl rfl
set_option maxRecDepth 20000 in
theorem u_182 : (Jvm.Cond.fieldLink "EnvelopePlanner$Plan" (72 : Nat) "EnvelopePlanner$Plan" "released" "J") ∈ wU := wu_1 182 rfl rfl
set_option maxRecDepth 20000 in
theorem u_206 : (Jvm.Cond.fieldLink "EnvelopePlanner$Branch" (12 : Nat) "EnvelopePlanner$Branch" "start" "LEnvelopePlanner$Plan;") ∈ wU := wu_1 206 rfl rfl
set_option maxRecDepth 20000 in
theorem u_207 : (Jvm.Cond.fieldLinkNest "EnvelopePlanner" (274 : Nat) "EnvelopePlanner$Branch" "start" "LEnvelopePlanner$Plan;" "EnvelopePlanner") ∈ wU := wu_1 207 rfl rfl
set_option maxRecDepth 20000 in
theorem u_208 : (Jvm.Cond.fieldLink "EnvelopePlanner$Branch" (18 : Nat) "EnvelopePlanner$Branch" "plan" "LEnvelopePlanner$Plan;") ∈ wU := wu_1 208 rfl rfl
set_option maxRecDepth 20000 in
theorem u_209 : (Jvm.Cond.fieldLinkNest "EnvelopePlanner$Branches" (45 : Nat) "EnvelopePlanner$Branch" "plan" "LEnvelopePlanner$Plan;" "EnvelopePlanner") ∈ wU := wu_1 209 rfl rfl
set_option maxRecDepth 20000 in
theorem u_210 : (Jvm.Cond.fieldLinkNest "EnvelopePlanner" (45 : Nat) "EnvelopePlanner$Branch" "plan" "LEnvelopePlanner$Plan;" "EnvelopePlanner") ∈ wU := wu_1 210 rfl rfl
set_option maxRecDepth 20000 in
theorem u_211 : (Jvm.Cond.fieldLink "EnvelopePlanner$Branch" (21 : Nat) "EnvelopePlanner$Branch" "parts" "[I") ∈ wU := wu_1 211 rfl rfl
set_option maxRecDepth 20000 in
theorem u_212 : (Jvm.Cond.fieldLink "EnvelopePlanner$Branch" (29 : Nat) "EnvelopePlanner$Branch" "stepCount" "I") ∈ wU := wu_1 212 rfl rfl
set_option maxRecDepth 20000 in
theorem u_213 : (Jvm.Cond.fieldLinkNest "EnvelopePlanner" (50 : Nat) "EnvelopePlanner$Branch" "stepCount" "I" "EnvelopePlanner") ∈ wU := wu_1 213 rfl rfl
set_option maxRecDepth 20000 in
theorem u_214 : (Jvm.Cond.fieldLink "EnvelopePlanner$Branch" (25 : Nat) "EnvelopePlanner$Branch" "parent" "I") ∈ wU := wu_1 214 rfl rfl
set_option maxRecDepth 20000 in
theorem u_215 : (Jvm.Cond.fieldLinkNest "EnvelopePlanner$Branches" (34 : Nat) "EnvelopePlanner$Branch" "parent" "I" "EnvelopePlanner") ∈ wU := wu_1 215 rfl rfl
set_option maxRecDepth 20000 in
theorem u_216 : (Jvm.Cond.fieldLinkNest "EnvelopePlanner" (230 : Nat) "EnvelopePlanner$Branch" "parent" "I" "EnvelopePlanner") ∈ wU := wu_1 216 rfl rfl
set_option maxRecDepth 20000 in
theorem u_217 : (Jvm.Cond.fieldLinkNest "EnvelopePlanner$Branches" (22 : Nat) "EnvelopePlanner$Branch" "exists" "Z" "EnvelopePlanner") ∈ wU := wu_1 217 rfl rfl
set_option maxRecDepth 20000 in
theorem u_218 : (Jvm.Cond.fieldLink "EnvelopePlanner$Branch" (44 : Nat) "EnvelopePlanner$Branch" "exists" "Z") ∈ wU := wu_1 218 rfl rfl
set_option maxRecDepth 20000 in
theorem u_219 : (Jvm.Cond.fieldLinkNest "EnvelopePlanner" (226 : Nat) "EnvelopePlanner$Branch" "exists" "Z" "EnvelopePlanner") ∈ wU := wu_1 219 rfl rfl
set_option maxRecDepth 20000 in
theorem u_234 : (Jvm.Cond.fieldLink "EnvelopePlanner$Branches" (12 : Nat) "EnvelopePlanner$Branches" "root" "LEnvelopePlanner$Branch;") ∈ wU := wu_1 234 rfl rfl
set_option maxRecDepth 20000 in
theorem u_235 : (Jvm.Cond.fieldLink "EnvelopePlanner$Branches" (18 : Nat) "EnvelopePlanner$Branches" "list" "[LEnvelopePlanner$Branch;") ∈ wU := wu_1 235 rfl rfl
set_option maxRecDepth 20000 in
theorem u_236 : (Jvm.Cond.fieldLink "EnvelopePlanner$Branches" (26 : Nat) "EnvelopePlanner$Branches" "present" "I") ∈ wU := wu_1 236 rfl rfl
set_option maxRecDepth 20000 in
theorem u_237 : (Jvm.Cond.fieldLinkNest "EnvelopePlanner" (218 : Nat) "EnvelopePlanner$Branches" "present" "I" "EnvelopePlanner") ∈ wU := wu_1 237 rfl rfl
set_option maxRecDepth 20000 in
theorem u_245 : (Jvm.Cond.classLink "EnvelopePlanner" (19 : Nat) "EnvelopePlanner$Plan") ∈ wU := wu_2 5 rfl rfl
set_option maxRecDepth 20000 in
theorem u_246 : (Jvm.Cond.methodLinkNest "EnvelopePlanner" (21 : Nat) ({ cls := "EnvelopePlanner$Plan", name := "<init>", desc := "()V" } : Jvm.MethodName) "EnvelopePlanner") ∈ wU := wu_2 6 rfl rfl
set_option maxRecDepth 20000 in
theorem u_247 : (Jvm.Cond.classLink "EnvelopePlanner" (26 : Nat) "EnvelopePlanner$Reader") ∈ wU := wu_2 7 rfl rfl
set_option maxRecDepth 20000 in
theorem u_248 : (Jvm.Cond.instantiable "EnvelopePlanner$Reader" (6 : Nat)) ∈ wU := wu_2 8 rfl rfl
set_option maxRecDepth 20000 in
theorem u_249 : (Jvm.Cond.methodLinkNest "EnvelopePlanner" (28 : Nat) ({ cls := "EnvelopePlanner$Reader", name := "<init>", desc := "()V" } : Jvm.MethodName) "EnvelopePlanner") ∈ wU := wu_2 9 rfl rfl
set_option maxRecDepth 20000 in
theorem u_250 : (Jvm.Cond.instanceMethod ({ cls := "EnvelopePlanner$Reader", name := "<init>", desc := "()V" } : Jvm.MethodName)) ∈ wU := wu_2 10 rfl rfl
set_option maxRecDepth 20000 in
theorem u_251 : (Jvm.Cond.code ({ cls := "EnvelopePlanner$Reader", name := "<init>", desc := "()V" } : Jvm.MethodName) prog_8_method_1_code (1 : Nat) (Option.none : Option Jvm.ClassFile.FieldType)) ∈ wU := wu_2 11 rfl rfl
set_option maxRecDepth 20000 in
theorem u_252 : (Jvm.Cond.methodLink "EnvelopePlanner$Reader" (3 : Nat) ({ cls := "java/lang/Object", name := "<init>", desc := "()V" } : Jvm.MethodName)) ∈ wU := wu_2 12 rfl rfl
set_option maxRecDepth 20000 in
theorem u_253 : (Jvm.Cond.fieldLink "EnvelopePlanner$Reader" (9 : Nat) "EnvelopePlanner$Reader" "text" "[C") ∈ wU := wu_2 13 rfl rfl
set_option maxRecDepth 20000 in
theorem u_254 : (Jvm.Cond.fieldLink "EnvelopePlanner$Reader" (15 : Nat) "EnvelopePlanner$Reader" "commands" "[I") ∈ wU := wu_2 14 rfl rfl
set_option maxRecDepth 20000 in
theorem u_255 : (Jvm.Cond.fieldLink "EnvelopePlanner$Reader" (19 : Nat) "EnvelopePlanner$Reader" "length" "I") ∈ wU := wu_2 15 rfl rfl
set_option maxRecDepth 20000 in
theorem u_256 : (Jvm.Cond.fieldLinkNest "EnvelopePlanner" (288 : Nat) "EnvelopePlanner$Reader" "length" "I" "EnvelopePlanner") ∈ wU := wu_2 16 rfl rfl
set_option maxRecDepth 20000 in
theorem u_257 : (Jvm.Cond.fieldLink "EnvelopePlanner$Reader" (26 : Nat) "EnvelopePlanner$Reader" "commandCount" "I") ∈ wU := wu_2 17 rfl rfl
set_option maxRecDepth 20000 in
theorem u_258 : (Jvm.Cond.fieldLinkNest "EnvelopePlanner" (294 : Nat) "EnvelopePlanner$Reader" "commandCount" "I" "EnvelopePlanner") ∈ wU := wu_2 18 rfl rfl
set_option maxRecDepth 20000 in
theorem u_259 : (Jvm.Cond.fieldLink "EnvelopePlanner$Reader" (23 : Nat) "EnvelopePlanner$Reader" "at" "I") ∈ wU := wu_2 19 rfl rfl
set_option maxRecDepth 20000 in
theorem u_260 : (Jvm.Cond.fieldLink "EnvelopePlanner$Reader" (48 : Nat) "EnvelopePlanner$Reader" "number" "I") ∈ wU := wu_2 20 rfl rfl
set_option maxRecDepth 20000 in
theorem u_274 : (Jvm.Cond.arrayClass Jvm.ClassFile.FieldType.char) ∈ wU := wu_2 34 rfl rfl
set_option maxRecDepth 20000 in
theorem u_275 : (Jvm.Cond.fieldLink "EnvelopePlanner" (10 : Nat) "EnvelopePlanner" "branches" "LEnvelopePlanner$Branches;") ∈ wU := wu_2 35 rfl rfl
set_option maxRecDepth 20000 in
theorem u_276 : (Jvm.Cond.fieldLink "EnvelopePlanner" (16 : Nat) "EnvelopePlanner" "saved" "LEnvelopePlanner$Branches;") ∈ wU := wu_2 36 rfl rfl
set_option maxRecDepth 20000 in
theorem u_277 : (Jvm.Cond.fieldLink "EnvelopePlanner" (22 : Nat) "EnvelopePlanner" "trial" "LEnvelopePlanner$Plan;") ∈ wU := wu_2 37 rfl rfl
set_option maxRecDepth 20000 in
theorem u_278 : (Jvm.Cond.fieldLink "EnvelopePlanner" (29 : Nat) "EnvelopePlanner" "reader" "LEnvelopePlanner$Reader;") ∈ wU := wu_2 38 rfl rfl
set_option maxRecDepth 20000 in
theorem u_279 : (Jvm.Cond.fieldLink "EnvelopePlanner" (301 : Nat) "EnvelopePlanner" "isSaved" "Z") ∈ wU := wu_2 39 rfl rfl
set_option maxRecDepth 20000 in
theorem u_280 : (Jvm.Cond.fieldLink "EnvelopePlanner" (58 : Nat) "EnvelopePlanner" "reason" "I") ∈ wU := wu_2 40 rfl rfl
set_option maxRecDepth 20000 in
theorem u_281 : (Jvm.Cond.fieldLink "EnvelopePlanner" (64 : Nat) "EnvelopePlanner" "answer" "I") ∈ wU := wu_2 41 rfl rfl
set_option maxRecDepth 20000 in
theorem u_282 : (Jvm.Cond.fieldLink "EnvelopePlanner" (239 : Nat) "EnvelopePlanner" "conflictStep" "I") ∈ wU := wu_2 42 rfl rfl
set_option maxRecDepth 20000 in
theorem u_283 : (Jvm.Cond.fieldLink "EnvelopePlanner" (245 : Nat) "EnvelopePlanner" "conflictReason" "I") ∈ wU := wu_2 43 rfl rfl
set_option maxRecDepth 20000 in
theorem u_303 : (Jvm.Cond.methodLink "EnvelopePlannerLaw" (252 : Nat) ({ cls := "EnvelopePlanner", name := "clearReason", desc := "()I" } : Jvm.MethodName)) ∈ wU := wu_2 63 rfl rfl
set_option maxRecDepth 20000 in
theorem u_304 : (Jvm.Cond.instanceMethod ({ cls := "EnvelopePlanner", name := "clearReason", desc := "()I" } : Jvm.MethodName)) ∈ wU := wu_2 64 rfl rfl
set_option maxRecDepth 20000 in
theorem u_305 : (Jvm.Cond.selects "EnvelopePlanner" ({ cls := "EnvelopePlanner", name := "clearReason", desc := "()I" } : Jvm.MethodName) ({ cls := "EnvelopePlanner", name := "clearReason", desc := "()I" } : Jvm.MethodName)) ∈ wU := wu_2 65 rfl rfl
set_option maxRecDepth 20000 in
theorem u_306 : (Jvm.Cond.code ({ cls := "EnvelopePlanner", name := "clearReason", desc := "()I" } : Jvm.MethodName) prog_1_method_38_code (2 : Nat) (Option.some Jvm.ClassFile.FieldType.int)) ∈ wU := wu_2 66 rfl rfl
set_option maxRecDepth 20000 in
theorem u_307 : (Jvm.Cond.methodLink "EnvelopePlannerLaw" (260 : Nat) ({ cls := "EnvelopePlanner", name := "readPlan", desc := "()I" } : Jvm.MethodName)) ∈ wU := wu_2 67 rfl rfl
set_option maxRecDepth 20000 in
theorem u_308 : (Jvm.Cond.instanceMethod ({ cls := "EnvelopePlanner", name := "readPlan", desc := "()I" } : Jvm.MethodName)) ∈ wU := wu_2 68 rfl rfl
set_option maxRecDepth 20000 in
theorem u_309 : (Jvm.Cond.selects "EnvelopePlanner" ({ cls := "EnvelopePlanner", name := "readPlan", desc := "()I" } : Jvm.MethodName) ({ cls := "EnvelopePlanner", name := "readPlan", desc := "()I" } : Jvm.MethodName)) ∈ wU := wu_2 69 rfl rfl
set_option maxRecDepth 20000 in
theorem u_310 : (Jvm.Cond.code ({ cls := "EnvelopePlanner", name := "readPlan", desc := "()I" } : Jvm.MethodName) prog_1_method_42_code (3 : Nat) (Option.some Jvm.ClassFile.FieldType.int)) ∈ wU := wu_2 70 rfl rfl
set_option maxRecDepth 20000 in
theorem u_311 : (Jvm.Cond.methodLink "EnvelopePlanner" (291 : Nat) ({ cls := "EnvelopePlanner$Reader", name := "readAll", desc := "()I" } : Jvm.MethodName)) ∈ wU := wu_2 71 rfl rfl
set_option maxRecDepth 20000 in
theorem u_312 : (Jvm.Cond.instanceMethod ({ cls := "EnvelopePlanner$Reader", name := "readAll", desc := "()I" } : Jvm.MethodName)) ∈ wU := wu_2 72 rfl rfl
set_option maxRecDepth 20000 in
theorem u_313 : (Jvm.Cond.selects "EnvelopePlanner$Reader" ({ cls := "EnvelopePlanner$Reader", name := "readAll", desc := "()I" } : Jvm.MethodName) ({ cls := "EnvelopePlanner$Reader", name := "readAll", desc := "()I" } : Jvm.MethodName)) ∈ wU := wu_2 73 rfl rfl
set_option maxRecDepth 20000 in
theorem u_314 : (Jvm.Cond.code ({ cls := "EnvelopePlanner$Reader", name := "readAll", desc := "()I" } : Jvm.MethodName) prog_8_method_4_code (3 : Nat) (Option.some Jvm.ClassFile.FieldType.int)) ∈ wU := wu_2 74 rfl rfl
set_option maxRecDepth 20000 in
theorem u_315 : (Jvm.Cond.methodLink "EnvelopePlanner$Reader" (29 : Nat) ({ cls := "EnvelopePlanner$Reader", name := "readCommand", desc := "()Z" } : Jvm.MethodName)) ∈ wU := wu_2 75 rfl rfl
set_option maxRecDepth 20000 in
theorem u_317 : (Jvm.Cond.instanceMethod ({ cls := "EnvelopePlanner$Reader", name := "readCommand", desc := "()Z" } : Jvm.MethodName)) ∈ wU := wu_2 77 rfl rfl
set_option maxRecDepth 20000 in
theorem u_318 : (Jvm.Cond.code ({ cls := "EnvelopePlanner$Reader", name := "readCommand", desc := "()Z" } : Jvm.MethodName) prog_8_method_5_code (2 : Nat) (Option.some Jvm.ClassFile.FieldType.boolean)) ∈ wU := wu_2 78 rfl rfl
set_option maxRecDepth 20000 in
theorem u_319 : (Jvm.Cond.methodLink "EnvelopePlanner$Reader" (37 : Nat) ({ cls := "EnvelopePlanner$Reader", name := "next", desc := "()I" } : Jvm.MethodName)) ∈ wU := wu_2 79 rfl rfl
set_option maxRecDepth 20000 in
theorem u_321 : (Jvm.Cond.instanceMethod ({ cls := "EnvelopePlanner$Reader", name := "next", desc := "()I" } : Jvm.MethodName)) ∈ wU := wu_2 81 rfl rfl
set_option maxRecDepth 20000 in
theorem u_322 : (Jvm.Cond.code ({ cls := "EnvelopePlanner$Reader", name := "next", desc := "()I" } : Jvm.MethodName) prog_8_method_12_code (1 : Nat) (Option.some Jvm.ClassFile.FieldType.int)) ∈ wU := wu_2 82 rfl rfl
set_option maxRecDepth 20000 in
theorem u_323 : (Jvm.Cond.methodLink "EnvelopePlanner$Reader" (41 : Nat) ({ cls := "EnvelopePlanner$Reader", name := "keep", desc := "(IIII)Z" } : Jvm.MethodName)) ∈ wU := wu_2 83 rfl rfl
set_option maxRecDepth 20000 in
theorem u_325 : (Jvm.Cond.instanceMethod ({ cls := "EnvelopePlanner$Reader", name := "keep", desc := "(IIII)Z" } : Jvm.MethodName)) ∈ wU := wu_2 85 rfl rfl
set_option maxRecDepth 20000 in
theorem u_326 : (Jvm.Cond.code ({ cls := "EnvelopePlanner$Reader", name := "keep", desc := "(IIII)Z" } : Jvm.MethodName) prog_8_method_14_code (6 : Nat) (Option.some Jvm.ClassFile.FieldType.boolean)) ∈ wU := wu_2 86 rfl rfl
set_option maxRecDepth 20000 in
theorem u_327 : (Jvm.Cond.methodLink "EnvelopePlanner$Reader" (45 : Nat) ({ cls := "EnvelopePlanner$Reader", name := "readNumber", desc := "()Z" } : Jvm.MethodName)) ∈ wU := wu_2 87 rfl rfl
set_option maxRecDepth 20000 in
theorem u_329 : (Jvm.Cond.instanceMethod ({ cls := "EnvelopePlanner$Reader", name := "readNumber", desc := "()Z" } : Jvm.MethodName)) ∈ wU := wu_2 89 rfl rfl
set_option maxRecDepth 20000 in
theorem u_330 : (Jvm.Cond.code ({ cls := "EnvelopePlanner$Reader", name := "readNumber", desc := "()Z" } : Jvm.MethodName) prog_8_method_8_code (2 : Nat) (Option.some Jvm.ClassFile.FieldType.boolean)) ∈ wU := wu_2 90 rfl rfl
set_option maxRecDepth 20000 in
theorem u_331 : (Jvm.Cond.methodLink "EnvelopePlanner$Reader" (63 : Nat) ({ cls := "EnvelopePlanner$Reader", name := "isDigit", desc := "(I)Z" } : Jvm.MethodName)) ∈ wU := wu_2 91 rfl rfl
set_option maxRecDepth 20000 in
theorem u_333 : (Jvm.Cond.instanceMethod ({ cls := "EnvelopePlanner$Reader", name := "isDigit", desc := "(I)Z" } : Jvm.MethodName)) ∈ wU := wu_2 93 rfl rfl
set_option maxRecDepth 20000 in
theorem u_334 : (Jvm.Cond.code ({ cls := "EnvelopePlanner$Reader", name := "isDigit", desc := "(I)Z" } : Jvm.MethodName) prog_8_method_13_code (2 : Nat) (Option.some Jvm.ClassFile.FieldType.boolean)) ∈ wU := wu_2 94 rfl rfl
set_option maxRecDepth 20000 in
theorem u_335 : (Jvm.Cond.methodLink "EnvelopePlanner$Reader" (51 : Nat) ({ cls := "EnvelopePlanner$Reader", name := "readSpending", desc := "()Z" } : Jvm.MethodName)) ∈ wU := wu_2 95 rfl rfl
set_option maxRecDepth 20000 in
theorem u_337 : (Jvm.Cond.instanceMethod ({ cls := "EnvelopePlanner$Reader", name := "readSpending", desc := "()Z" } : Jvm.MethodName)) ∈ wU := wu_2 97 rfl rfl
set_option maxRecDepth 20000 in
theorem u_338 : (Jvm.Cond.code ({ cls := "EnvelopePlanner$Reader", name := "readSpending", desc := "()Z" } : Jvm.MethodName) prog_8_method_6_code (2 : Nat) (Option.some Jvm.ClassFile.FieldType.boolean)) ∈ wU := wu_2 98 rfl rfl
set_option maxRecDepth 20000 in
theorem u_339 : (Jvm.Cond.methodLink "EnvelopePlanner$Reader" (57 : Nat) ({ cls := "EnvelopePlanner$Reader", name := "acceptDigit", desc := "()Z" } : Jvm.MethodName)) ∈ wU := wu_2 99 rfl rfl
set_option maxRecDepth 20000 in
theorem u_341 : (Jvm.Cond.instanceMethod ({ cls := "EnvelopePlanner$Reader", name := "acceptDigit", desc := "()Z" } : Jvm.MethodName)) ∈ wU := wu_2 101 rfl rfl
set_option maxRecDepth 20000 in
theorem u_342 : (Jvm.Cond.code ({ cls := "EnvelopePlanner$Reader", name := "acceptDigit", desc := "()Z" } : Jvm.MethodName) prog_8_method_10_code (1 : Nat) (Option.some Jvm.ClassFile.FieldType.boolean)) ∈ wU := wu_2 102 rfl rfl
set_option maxRecDepth 20000 in
theorem u_343 : (Jvm.Cond.methodLink "EnvelopePlanner$Reader" (33 : Nat) ({ cls := "EnvelopePlanner$Reader", name := "accept", desc := "(C)Z" } : Jvm.MethodName)) ∈ wU := wu_2 103 rfl rfl
set_option maxRecDepth 20000 in
theorem u_345 : (Jvm.Cond.instanceMethod ({ cls := "EnvelopePlanner$Reader", name := "accept", desc := "(C)Z" } : Jvm.MethodName)) ∈ wU := wu_2 105 rfl rfl
set_option maxRecDepth 20000 in
theorem u_346 : (Jvm.Cond.code ({ cls := "EnvelopePlanner$Reader", name := "accept", desc := "(C)Z" } : Jvm.MethodName) prog_8_method_11_code (2 : Nat) (Option.some Jvm.ClassFile.FieldType.boolean)) ∈ wU := wu_2 106 rfl rfl
set_option maxRecDepth 20000 in
theorem u_347 : (Jvm.Cond.methodLink "EnvelopePlanner$Reader" (54 : Nat) ({ cls := "EnvelopePlanner$Reader", name := "readMove", desc := "()Z" } : Jvm.MethodName)) ∈ wU := wu_2 107 rfl rfl
set_option maxRecDepth 20000 in
theorem u_349 : (Jvm.Cond.instanceMethod ({ cls := "EnvelopePlanner$Reader", name := "readMove", desc := "()Z" } : Jvm.MethodName)) ∈ wU := wu_2 109 rfl rfl
set_option maxRecDepth 20000 in
theorem u_350 : (Jvm.Cond.code ({ cls := "EnvelopePlanner$Reader", name := "readMove", desc := "()Z" } : Jvm.MethodName) prog_8_method_7_code (3 : Nat) (Option.some Jvm.ClassFile.FieldType.boolean)) ∈ wU := wu_2 110 rfl rfl
set_option maxRecDepth 20000 in
theorem u_351 : (Jvm.Cond.methodLink "EnvelopePlanner$Reader" (60 : Nat) ({ cls := "EnvelopePlanner$Reader", name := "acceptPlace", desc := "()Z" } : Jvm.MethodName)) ∈ wU := wu_2 111 rfl rfl
set_option maxRecDepth 20000 in
theorem u_353 : (Jvm.Cond.instanceMethod ({ cls := "EnvelopePlanner$Reader", name := "acceptPlace", desc := "()Z" } : Jvm.MethodName)) ∈ wU := wu_2 113 rfl rfl
set_option maxRecDepth 20000 in
theorem u_354 : (Jvm.Cond.code ({ cls := "EnvelopePlanner$Reader", name := "acceptPlace", desc := "()Z" } : Jvm.MethodName) prog_8_method_9_code (1 : Nat) (Option.some Jvm.ClassFile.FieldType.boolean)) ∈ wU := wu_2 114 rfl rfl
set_option maxRecDepth 20000 in
theorem u_355 : (Jvm.Cond.methodLink "EnvelopePlanner" (297 : Nat) ({ cls := "EnvelopePlanner$Reader", name := "partOf", desc := "(II)I" } : Jvm.MethodName)) ∈ wU := wu_2 115 rfl rfl
set_option maxRecDepth 20000 in
theorem u_356 : (Jvm.Cond.instanceMethod ({ cls := "EnvelopePlanner$Reader", name := "partOf", desc := "(II)I" } : Jvm.MethodName)) ∈ wU := wu_2 116 rfl rfl
set_option maxRecDepth 20000 in
theorem u_357 : (Jvm.Cond.selects "EnvelopePlanner$Reader" ({ cls := "EnvelopePlanner$Reader", name := "partOf", desc := "(II)I" } : Jvm.MethodName) ({ cls := "EnvelopePlanner$Reader", name := "partOf", desc := "(II)I" } : Jvm.MethodName)) ∈ wU := wu_2 117 rfl rfl
set_option maxRecDepth 20000 in
theorem u_358 : (Jvm.Cond.code ({ cls := "EnvelopePlanner$Reader", name := "partOf", desc := "(II)I" } : Jvm.MethodName) prog_8_method_3_code (3 : Nat) (Option.some Jvm.ClassFile.FieldType.int)) ∈ wU := wu_2 118 rfl rfl
set_option maxRecDepth 20000 in
theorem u_359 : (Jvm.Cond.methodLink "EnvelopePlanner" (33 : Nat) ({ cls := "EnvelopePlanner", name := "tryStep", desc := "(IIIII)I" } : Jvm.MethodName)) ∈ wU := wu_2 119 rfl rfl
set_option maxRecDepth 20000 in
theorem u_361 : (Jvm.Cond.instanceMethod ({ cls := "EnvelopePlanner", name := "tryStep", desc := "(IIIII)I" } : Jvm.MethodName)) ∈ wU := wu_2 121 rfl rfl
set_option maxRecDepth 20000 in
theorem u_362 : (Jvm.Cond.code ({ cls := "EnvelopePlanner", name := "tryStep", desc := "(IIIII)I" } : Jvm.MethodName) prog_1_method_15_code (8 : Nat) (Option.some Jvm.ClassFile.FieldType.int)) ∈ wU := wu_2 122 rfl rfl
set_option maxRecDepth 20000 in
theorem u_363 : (Jvm.Cond.methodLink "EnvelopePlanner" (41 : Nat) ({ cls := "EnvelopePlanner$Branches", name := "here", desc := "()LEnvelopePlanner$Branch;" } : Jvm.MethodName)) ∈ wU := wu_2 123 rfl rfl
set_option maxRecDepth 20000 in
theorem u_364 : (Jvm.Cond.instanceMethod ({ cls := "EnvelopePlanner$Branches", name := "here", desc := "()LEnvelopePlanner$Branch;" } : Jvm.MethodName)) ∈ wU := wu_2 124 rfl rfl
set_option maxRecDepth 20000 in
theorem u_365 : (Jvm.Cond.selects "EnvelopePlanner$Branches" ({ cls := "EnvelopePlanner$Branches", name := "here", desc := "()LEnvelopePlanner$Branch;" } : Jvm.MethodName) ({ cls := "EnvelopePlanner$Branches", name := "here", desc := "()LEnvelopePlanner$Branch;" } : Jvm.MethodName)) ∈ wU := wu_2 125 rfl rfl
set_option maxRecDepth 20000 in
theorem u_366 : (Jvm.Cond.code ({ cls := "EnvelopePlanner$Branches", name := "here", desc := "()LEnvelopePlanner$Branch;" } : Jvm.MethodName) prog_3_method_3_code (2 : Nat) (Option.some (Jvm.ClassFile.FieldType.object "EnvelopePlanner$Branch"))) ∈ wU := wu_2 126 rfl rfl
set_option maxRecDepth 20000 in
theorem u_367 : (Jvm.Cond.methodLink "EnvelopePlanner$Branches" (30 : Nat) ({ cls := "EnvelopePlanner$Branches", name := "branchOrNull", desc := "(I)LEnvelopePlanner$Branch;" } : Jvm.MethodName)) ∈ wU := wu_2 127 rfl rfl
set_option maxRecDepth 20000 in
theorem u_368 : (Jvm.Cond.instanceMethod ({ cls := "EnvelopePlanner$Branches", name := "branchOrNull", desc := "(I)LEnvelopePlanner$Branch;" } : Jvm.MethodName)) ∈ wU := wu_2 128 rfl rfl
set_option maxRecDepth 20000 in
theorem u_369 : (Jvm.Cond.selects "EnvelopePlanner$Branches" ({ cls := "EnvelopePlanner$Branches", name := "branchOrNull", desc := "(I)LEnvelopePlanner$Branch;" } : Jvm.MethodName) ({ cls := "EnvelopePlanner$Branches", name := "branchOrNull", desc := "(I)LEnvelopePlanner$Branch;" } : Jvm.MethodName)) ∈ wU := wu_2 129 rfl rfl
set_option maxRecDepth 20000 in
theorem u_370 : (Jvm.Cond.code ({ cls := "EnvelopePlanner$Branches", name := "branchOrNull", desc := "(I)LEnvelopePlanner$Branch;" } : Jvm.MethodName) prog_3_method_2_code (3 : Nat) (Option.some (Jvm.ClassFile.FieldType.object "EnvelopePlanner$Branch"))) ∈ wU := wu_2 130 rfl rfl
set_option maxRecDepth 20000 in
theorem u_371 : (Jvm.Cond.methodLink "EnvelopePlanner" (54 : Nat) ({ cls := "EnvelopePlanner$Plan", name := "refusalOf", desc := "(IIIIIZ)I" } : Jvm.MethodName)) ∈ wU := wu_2 131 rfl rfl
set_option maxRecDepth 20000 in
theorem u_372 : (Jvm.Cond.instanceMethod ({ cls := "EnvelopePlanner$Plan", name := "refusalOf", desc := "(IIIIIZ)I" } : Jvm.MethodName)) ∈ wU := wu_2 132 rfl rfl
set_option maxRecDepth 20000 in
theorem u_373 : (Jvm.Cond.selects "EnvelopePlanner$Plan" ({ cls := "EnvelopePlanner$Plan", name := "refusalOf", desc := "(IIIIIZ)I" } : Jvm.MethodName) ({ cls := "EnvelopePlanner$Plan", name := "refusalOf", desc := "(IIIIIZ)I" } : Jvm.MethodName)) ∈ wU := wu_2 133 rfl rfl
set_option maxRecDepth 20000 in
theorem u_374 : (Jvm.Cond.code ({ cls := "EnvelopePlanner$Plan", name := "refusalOf", desc := "(IIIIIZ)I" } : Jvm.MethodName) prog_7_method_6_code (7 : Nat) (Option.some Jvm.ClassFile.FieldType.int)) ∈ wU := wu_2 134 rfl rfl
set_option maxRecDepth 20000 in
theorem u_375 : (Jvm.Cond.methodLink "EnvelopePlanner$Plan" (93 : Nat) ({ cls := "EnvelopePlanner$Plan", name := "namesParts", desc := "(III)Z" } : Jvm.MethodName)) ∈ wU := wu_2 135 rfl rfl
set_option maxRecDepth 20000 in
theorem u_377 : (Jvm.Cond.instanceMethod ({ cls := "EnvelopePlanner$Plan", name := "namesParts", desc := "(III)Z" } : Jvm.MethodName)) ∈ wU := wu_2 137 rfl rfl
set_option maxRecDepth 20000 in
theorem u_378 : (Jvm.Cond.code ({ cls := "EnvelopePlanner$Plan", name := "namesParts", desc := "(III)Z" } : Jvm.MethodName) prog_7_method_7_code (4 : Nat) (Option.some Jvm.ClassFile.FieldType.boolean)) ∈ wU := wu_2 138 rfl rfl
set_option maxRecDepth 20000 in
theorem u_379 : (Jvm.Cond.methodLink "EnvelopePlanner$Plan" (75 : Nat) ({ cls := "EnvelopePlanner$Envelopes", name := "has", desc := "(I)Z" } : Jvm.MethodName)) ∈ wU := wu_2 139 rfl rfl
set_option maxRecDepth 20000 in
theorem u_380 : (Jvm.Cond.instanceMethod ({ cls := "EnvelopePlanner$Envelopes", name := "has", desc := "(I)Z" } : Jvm.MethodName)) ∈ wU := wu_2 140 rfl rfl
set_option maxRecDepth 20000 in
theorem u_381 : (Jvm.Cond.selects "EnvelopePlanner$Envelopes" ({ cls := "EnvelopePlanner$Envelopes", name := "has", desc := "(I)Z" } : Jvm.MethodName) ({ cls := "EnvelopePlanner$Envelopes", name := "has", desc := "(I)Z" } : Jvm.MethodName)) ∈ wU := wu_2 141 rfl rfl
set_option maxRecDepth 20000 in
theorem u_382 : (Jvm.Cond.code ({ cls := "EnvelopePlanner$Envelopes", name := "has", desc := "(I)Z" } : Jvm.MethodName) prog_4_method_2_code (2 : Nat) (Option.some Jvm.ClassFile.FieldType.boolean)) ∈ wU := wu_2 142 rfl rfl
set_option maxRecDepth 20000 in
theorem u_383 : (Jvm.Cond.methodLink "EnvelopePlanner$Plan" (108 : Nat) ({ cls := "EnvelopePlanner$Rules", name := "has", desc := "(I)Z" } : Jvm.MethodName)) ∈ wU := wu_2 143 rfl rfl
set_option maxRecDepth 20000 in
theorem u_384 : (Jvm.Cond.instanceMethod ({ cls := "EnvelopePlanner$Rules", name := "has", desc := "(I)Z" } : Jvm.MethodName)) ∈ wU := wu_2 144 rfl rfl
set_option maxRecDepth 20000 in
theorem u_385 : (Jvm.Cond.selects "EnvelopePlanner$Rules" ({ cls := "EnvelopePlanner$Rules", name := "has", desc := "(I)Z" } : Jvm.MethodName) ({ cls := "EnvelopePlanner$Rules", name := "has", desc := "(I)Z" } : Jvm.MethodName)) ∈ wU := wu_2 145 rfl rfl
set_option maxRecDepth 20000 in
theorem u_386 : (Jvm.Cond.code ({ cls := "EnvelopePlanner$Rules", name := "has", desc := "(I)Z" } : Jvm.MethodName) prog_9_method_2_code (2 : Nat) (Option.some Jvm.ClassFile.FieldType.boolean)) ∈ wU := wu_2 146 rfl rfl
set_option maxRecDepth 20000 in
theorem u_387 : (Jvm.Cond.methodLink "EnvelopePlanner$Plan" (109 : Nat) ({ cls := "EnvelopePlanner$Links", name := "has", desc := "(I)Z" } : Jvm.MethodName)) ∈ wU := wu_2 147 rfl rfl
set_option maxRecDepth 20000 in
theorem u_388 : (Jvm.Cond.instanceMethod ({ cls := "EnvelopePlanner$Links", name := "has", desc := "(I)Z" } : Jvm.MethodName)) ∈ wU := wu_2 148 rfl rfl
set_option maxRecDepth 20000 in
theorem u_389 : (Jvm.Cond.selects "EnvelopePlanner$Links" ({ cls := "EnvelopePlanner$Links", name := "has", desc := "(I)Z" } : Jvm.MethodName) ({ cls := "EnvelopePlanner$Links", name := "has", desc := "(I)Z" } : Jvm.MethodName)) ∈ wU := wu_2 149 rfl rfl
set_option maxRecDepth 20000 in
theorem u_390 : (Jvm.Cond.code ({ cls := "EnvelopePlanner$Links", name := "has", desc := "(I)Z" } : Jvm.MethodName) prog_6_method_2_code (2 : Nat) (Option.some Jvm.ClassFile.FieldType.boolean)) ∈ wU := wu_2 150 rfl rfl
set_option maxRecDepth 20000 in
theorem u_391 : (Jvm.Cond.methodLink "EnvelopePlanner$Plan" (110 : Nat) ({ cls := "EnvelopePlanner$Items", name := "has", desc := "(I)Z" } : Jvm.MethodName)) ∈ wU := wu_2 151 rfl rfl
set_option maxRecDepth 20000 in
theorem u_392 : (Jvm.Cond.instanceMethod ({ cls := "EnvelopePlanner$Items", name := "has", desc := "(I)Z" } : Jvm.MethodName)) ∈ wU := wu_2 152 rfl rfl
set_option maxRecDepth 20000 in
theorem u_393 : (Jvm.Cond.selects "EnvelopePlanner$Items" ({ cls := "EnvelopePlanner$Items", name := "has", desc := "(I)Z" } : Jvm.MethodName) ({ cls := "EnvelopePlanner$Items", name := "has", desc := "(I)Z" } : Jvm.MethodName)) ∈ wU := wu_2 153 rfl rfl
set_option maxRecDepth 20000 in
theorem u_394 : (Jvm.Cond.code ({ cls := "EnvelopePlanner$Items", name := "has", desc := "(I)Z" } : Jvm.MethodName) prog_5_method_2_code (2 : Nat) (Option.some Jvm.ClassFile.FieldType.boolean)) ∈ wU := wu_2 154 rfl rfl
set_option maxRecDepth 20000 in
theorem u_395 : (Jvm.Cond.methodLink "EnvelopePlanner$Plan" (111 : Nat) ({ cls := "EnvelopePlanner$Plan", name := "isPlace", desc := "(I)Z" } : Jvm.MethodName)) ∈ wU := wu_2 155 rfl rfl
set_option maxRecDepth 20000 in
theorem u_396 : (Jvm.Cond.instanceMethod ({ cls := "EnvelopePlanner$Plan", name := "isPlace", desc := "(I)Z" } : Jvm.MethodName)) ∈ wU := wu_2 156 rfl rfl
set_option maxRecDepth 20000 in
theorem u_397 : (Jvm.Cond.selects "EnvelopePlanner$Plan" ({ cls := "EnvelopePlanner$Plan", name := "isPlace", desc := "(I)Z" } : Jvm.MethodName) ({ cls := "EnvelopePlanner$Plan", name := "isPlace", desc := "(I)Z" } : Jvm.MethodName)) ∈ wU := wu_2 157 rfl rfl
set_option maxRecDepth 20000 in
theorem u_398 : (Jvm.Cond.code ({ cls := "EnvelopePlanner$Plan", name := "isPlace", desc := "(I)Z" } : Jvm.MethodName) prog_7_method_3_code (2 : Nat) (Option.some Jvm.ClassFile.FieldType.boolean)) ∈ wU := wu_2 158 rfl rfl
set_option maxRecDepth 20000 in
theorem u_399 : (Jvm.Cond.methodLink "EnvelopePlanner$Plan" (97 : Nat) ({ cls := "EnvelopePlanner$Plan", name := "isInRange", desc := "(IIIII)Z" } : Jvm.MethodName)) ∈ wU := wu_2 159 rfl rfl
set_option maxRecDepth 20000 in
theorem u_401 : (Jvm.Cond.instanceMethod ({ cls := "EnvelopePlanner$Plan", name := "isInRange", desc := "(IIIII)Z" } : Jvm.MethodName)) ∈ wU := wu_2 161 rfl rfl
set_option maxRecDepth 20000 in
theorem u_402 : (Jvm.Cond.code ({ cls := "EnvelopePlanner$Plan", name := "isInRange", desc := "(IIIII)Z" } : Jvm.MethodName) prog_7_method_8_code (6 : Nat) (Option.some Jvm.ClassFile.FieldType.boolean)) ∈ wU := wu_2 162 rfl rfl
set_option maxRecDepth 20000 in
theorem u_403 : (Jvm.Cond.constant "EnvelopePlanner$Plan" (114 : Nat) (9000000 : Int32)) ∈ wU := wu_2 163 rfl rfl
set_option maxRecDepth 20000 in
theorem u_404 : (Jvm.Cond.methodLinkNest "EnvelopePlanner$Plan" (115 : Nat) ({ cls := "EnvelopePlanner", name := "isWithin", desc := "(III)Z" } : Jvm.MethodName) "EnvelopePlanner") ∈ wU := wu_2 164 rfl rfl
set_option maxRecDepth 20000 in
theorem u_405 : (Jvm.Cond.static ({ cls := "EnvelopePlanner", name := "isWithin", desc := "(III)Z" } : Jvm.MethodName)) ∈ wU := wu_2 165 rfl rfl
set_option maxRecDepth 20000 in
theorem u_406 : (Jvm.Cond.code ({ cls := "EnvelopePlanner", name := "isWithin", desc := "(III)Z" } : Jvm.MethodName) prog_1_method_47_code (3 : Nat) (Option.some Jvm.ClassFile.FieldType.boolean)) ∈ wU := wu_2 166 rfl rfl
set_option maxRecDepth 20000 in
theorem u_407 : (Jvm.Cond.methodLink "EnvelopePlanner$Plan" (118 : Nat) ({ cls := "EnvelopePlanner$Plan", name := "isRuleNumber", desc := "(II)Z" } : Jvm.MethodName)) ∈ wU := wu_2 167 rfl rfl
set_option maxRecDepth 20000 in
theorem u_409 : (Jvm.Cond.instanceMethod ({ cls := "EnvelopePlanner$Plan", name := "isRuleNumber", desc := "(II)Z" } : Jvm.MethodName)) ∈ wU := wu_2 169 rfl rfl
set_option maxRecDepth 20000 in
theorem u_410 : (Jvm.Cond.code ({ cls := "EnvelopePlanner$Plan", name := "isRuleNumber", desc := "(II)Z" } : Jvm.MethodName) prog_7_method_9_code (3 : Nat) (Option.some Jvm.ClassFile.FieldType.boolean)) ∈ wU := wu_2 170 rfl rfl
set_option maxRecDepth 20000 in
theorem u_411 : (Jvm.Cond.constant "EnvelopePlanner$Plan" (122 : Nat) (1000000 : Int32)) ∈ wU := wu_2 171 rfl rfl
set_option maxRecDepth 20000 in
theorem u_412 : (Jvm.Cond.methodLink "EnvelopePlanner$Plan" (101 : Nat) ({ cls := "EnvelopePlanner$Plan", name := "hasRoom", desc := "(I)Z" } : Jvm.MethodName)) ∈ wU := wu_2 172 rfl rfl
set_option maxRecDepth 20000 in
theorem u_414 : (Jvm.Cond.instanceMethod ({ cls := "EnvelopePlanner$Plan", name := "hasRoom", desc := "(I)Z" } : Jvm.MethodName)) ∈ wU := wu_2 174 rfl rfl
set_option maxRecDepth 20000 in
theorem u_415 : (Jvm.Cond.code ({ cls := "EnvelopePlanner$Plan", name := "hasRoom", desc := "(I)Z" } : Jvm.MethodName) prog_7_method_10_code (2 : Nat) (Option.some Jvm.ClassFile.FieldType.boolean)) ∈ wU := wu_2 175 rfl rfl
set_option maxRecDepth 20000 in
theorem u_416 : (Jvm.Cond.methodLink "EnvelopePlanner$Plan" (104 : Nat) ({ cls := "EnvelopePlanner$Plan", name := "hasMoney", desc := "(IIII)Z" } : Jvm.MethodName)) ∈ wU := wu_2 176 rfl rfl
set_option maxRecDepth 20000 in
theorem u_418 : (Jvm.Cond.instanceMethod ({ cls := "EnvelopePlanner$Plan", name := "hasMoney", desc := "(IIII)Z" } : Jvm.MethodName)) ∈ wU := wu_2 178 rfl rfl
set_option maxRecDepth 20000 in
theorem u_419 : (Jvm.Cond.code ({ cls := "EnvelopePlanner$Plan", name := "hasMoney", desc := "(IIII)Z" } : Jvm.MethodName) prog_7_method_11_code (5 : Nat) (Option.some Jvm.ClassFile.FieldType.boolean)) ∈ wU := wu_2 179 rfl rfl
set_option maxRecDepth 20000 in
theorem u_420 : (Jvm.Cond.methodLink "EnvelopePlanner$Plan" (123 : Nat) ({ cls := "EnvelopePlanner$Plan", name := "canPay", desc := "(II)Z" } : Jvm.MethodName)) ∈ wU := wu_2 180 rfl rfl
set_option maxRecDepth 20000 in
theorem u_421 : (Jvm.Cond.instanceMethod ({ cls := "EnvelopePlanner$Plan", name := "canPay", desc := "(II)Z" } : Jvm.MethodName)) ∈ wU := wu_2 181 rfl rfl
set_option maxRecDepth 20000 in
theorem u_422 : (Jvm.Cond.selects "EnvelopePlanner$Plan" ({ cls := "EnvelopePlanner$Plan", name := "canPay", desc := "(II)Z" } : Jvm.MethodName) ({ cls := "EnvelopePlanner$Plan", name := "canPay", desc := "(II)Z" } : Jvm.MethodName)) ∈ wU := wu_2 182 rfl rfl
set_option maxRecDepth 20000 in
theorem u_423 : (Jvm.Cond.code ({ cls := "EnvelopePlanner$Plan", name := "canPay", desc := "(II)Z" } : Jvm.MethodName) prog_7_method_17_code (3 : Nat) (Option.some Jvm.ClassFile.FieldType.boolean)) ∈ wU := wu_2 183 rfl rfl
set_option maxRecDepth 20000 in
theorem u_424 : (Jvm.Cond.methodLink "EnvelopePlanner$Plan" (79 : Nat) ({ cls := "EnvelopePlanner$Envelopes", name := "balanceOf", desc := "(I)J" } : Jvm.MethodName)) ∈ wU := wu_2 184 rfl rfl
set_option maxRecDepth 20000 in
theorem u_425 : (Jvm.Cond.instanceMethod ({ cls := "EnvelopePlanner$Envelopes", name := "balanceOf", desc := "(I)J" } : Jvm.MethodName)) ∈ wU := wu_2 185 rfl rfl
set_option maxRecDepth 20000 in
theorem u_426 : (Jvm.Cond.selects "EnvelopePlanner$Envelopes" ({ cls := "EnvelopePlanner$Envelopes", name := "balanceOf", desc := "(I)J" } : Jvm.MethodName) ({ cls := "EnvelopePlanner$Envelopes", name := "balanceOf", desc := "(I)J" } : Jvm.MethodName)) ∈ wU := wu_2 186 rfl rfl
set_option maxRecDepth 20000 in
theorem u_427 : (Jvm.Cond.code ({ cls := "EnvelopePlanner$Envelopes", name := "balanceOf", desc := "(I)J" } : Jvm.MethodName) prog_4_method_7_code (2 : Nat) (Option.some Jvm.ClassFile.FieldType.long)) ∈ wU := wu_2 187 rfl rfl
set_option maxRecDepth 20000 in
theorem u_428 : (Jvm.Cond.methodLink "EnvelopePlanner$Plan" (126 : Nat) ({ cls := "EnvelopePlanner$Plan", name := "moneyIn", desc := "(I)J" } : Jvm.MethodName)) ∈ wU := wu_2 188 rfl rfl
set_option maxRecDepth 20000 in
theorem u_429 : (Jvm.Cond.instanceMethod ({ cls := "EnvelopePlanner$Plan", name := "moneyIn", desc := "(I)J" } : Jvm.MethodName)) ∈ wU := wu_2 189 rfl rfl
set_option maxRecDepth 20000 in
theorem u_430 : (Jvm.Cond.selects "EnvelopePlanner$Plan" ({ cls := "EnvelopePlanner$Plan", name := "moneyIn", desc := "(I)J" } : Jvm.MethodName) ({ cls := "EnvelopePlanner$Plan", name := "moneyIn", desc := "(I)J" } : Jvm.MethodName)) ∈ wU := wu_2 190 rfl rfl
set_option maxRecDepth 20000 in
theorem u_431 : (Jvm.Cond.code ({ cls := "EnvelopePlanner$Plan", name := "moneyIn", desc := "(I)J" } : Jvm.MethodName) prog_7_method_4_code (2 : Nat) (Option.some Jvm.ClassFile.FieldType.long)) ∈ wU := wu_2 191 rfl rfl
set_option maxRecDepth 20000 in
theorem u_432 : (Jvm.Cond.methodLink "EnvelopePlanner" (61 : Nat) ({ cls := "EnvelopePlanner$Plan", name := "perform", desc := "(IIIII)I" } : Jvm.MethodName)) ∈ wU := wu_2 192 rfl rfl
set_option maxRecDepth 20000 in
theorem u_433 : (Jvm.Cond.instanceMethod ({ cls := "EnvelopePlanner$Plan", name := "perform", desc := "(IIIII)I" } : Jvm.MethodName)) ∈ wU := wu_2 193 rfl rfl
set_option maxRecDepth 20000 in
theorem u_434 : (Jvm.Cond.selects "EnvelopePlanner$Plan" ({ cls := "EnvelopePlanner$Plan", name := "perform", desc := "(IIIII)I" } : Jvm.MethodName) ({ cls := "EnvelopePlanner$Plan", name := "perform", desc := "(IIIII)I" } : Jvm.MethodName)) ∈ wU := wu_2 194 rfl rfl
set_option maxRecDepth 20000 in
theorem u_435 : (Jvm.Cond.code ({ cls := "EnvelopePlanner$Plan", name := "perform", desc := "(IIIII)I" } : Jvm.MethodName) prog_7_method_12_code (6 : Nat) (Option.some Jvm.ClassFile.FieldType.int)) ∈ wU := wu_2 195 rfl rfl
set_option maxRecDepth 20000 in
theorem u_436 : (Jvm.Cond.methodLink "EnvelopePlanner$Plan" (129 : Nat) ({ cls := "EnvelopePlanner$Envelopes", name := "append", desc := "(II)I" } : Jvm.MethodName)) ∈ wU := wu_2 196 rfl rfl
set_option maxRecDepth 20000 in
theorem u_437 : (Jvm.Cond.instanceMethod ({ cls := "EnvelopePlanner$Envelopes", name := "append", desc := "(II)I" } : Jvm.MethodName)) ∈ wU := wu_2 197 rfl rfl
set_option maxRecDepth 20000 in
theorem u_438 : (Jvm.Cond.selects "EnvelopePlanner$Envelopes" ({ cls := "EnvelopePlanner$Envelopes", name := "append", desc := "(II)I" } : Jvm.MethodName) ({ cls := "EnvelopePlanner$Envelopes", name := "append", desc := "(II)I" } : Jvm.MethodName)) ∈ wU := wu_2 198 rfl rfl
set_option maxRecDepth 20000 in
theorem u_439 : (Jvm.Cond.code ({ cls := "EnvelopePlanner$Envelopes", name := "append", desc := "(II)I" } : Jvm.MethodName) prog_4_method_3_code (4 : Nat) (Option.some Jvm.ClassFile.FieldType.int)) ∈ wU := wu_2 199 rfl rfl
set_option maxRecDepth 20000 in
theorem u_440 : (Jvm.Cond.methodLink "EnvelopePlanner$Plan" (133 : Nat) ({ cls := "EnvelopePlanner$Envelopes", name := "changeCap", desc := "(II)I" } : Jvm.MethodName)) ∈ wU := wu_2 200 rfl rfl
set_option maxRecDepth 20000 in
theorem u_441 : (Jvm.Cond.instanceMethod ({ cls := "EnvelopePlanner$Envelopes", name := "changeCap", desc := "(II)I" } : Jvm.MethodName)) ∈ wU := wu_2 201 rfl rfl
set_option maxRecDepth 20000 in
theorem u_442 : (Jvm.Cond.selects "EnvelopePlanner$Envelopes" ({ cls := "EnvelopePlanner$Envelopes", name := "changeCap", desc := "(II)I" } : Jvm.MethodName) ({ cls := "EnvelopePlanner$Envelopes", name := "changeCap", desc := "(II)I" } : Jvm.MethodName)) ∈ wU := wu_2 202 rfl rfl
set_option maxRecDepth 20000 in
theorem u_443 : (Jvm.Cond.code ({ cls := "EnvelopePlanner$Envelopes", name := "changeCap", desc := "(II)I" } : Jvm.MethodName) prog_4_method_4_code (4 : Nat) (Option.some Jvm.ClassFile.FieldType.int)) ∈ wU := wu_2 203 rfl rfl
set_option maxRecDepth 20000 in
theorem u_444 : (Jvm.Cond.methodLink "EnvelopePlanner$Envelopes" (29 : Nat) ({ cls := "EnvelopePlanner$Envelopes", name := "has", desc := "(I)Z" } : Jvm.MethodName)) ∈ wU := wu_2 204 rfl rfl
set_option maxRecDepth 20000 in
theorem u_445 : (Jvm.Cond.methodLink "EnvelopePlanner$Plan" (136 : Nat) ({ cls := "EnvelopePlanner$Envelopes", name := "changeRollover", desc := "(II)I" } : Jvm.MethodName)) ∈ wU := wu_2 205 rfl rfl
set_option maxRecDepth 20000 in
theorem u_446 : (Jvm.Cond.instanceMethod ({ cls := "EnvelopePlanner$Envelopes", name := "changeRollover", desc := "(II)I" } : Jvm.MethodName)) ∈ wU := wu_2 206 rfl rfl
set_option maxRecDepth 20000 in
theorem u_447 : (Jvm.Cond.selects "EnvelopePlanner$Envelopes" ({ cls := "EnvelopePlanner$Envelopes", name := "changeRollover", desc := "(II)I" } : Jvm.MethodName) ({ cls := "EnvelopePlanner$Envelopes", name := "changeRollover", desc := "(II)I" } : Jvm.MethodName)) ∈ wU := wu_2 207 rfl rfl
set_option maxRecDepth 20000 in
theorem u_448 : (Jvm.Cond.code ({ cls := "EnvelopePlanner$Envelopes", name := "changeRollover", desc := "(II)I" } : Jvm.MethodName) prog_4_method_5_code (4 : Nat) (Option.some Jvm.ClassFile.FieldType.int)) ∈ wU := wu_2 208 rfl rfl
set_option maxRecDepth 20000 in
theorem u_449 : (Jvm.Cond.methodLink "EnvelopePlanner$Plan" (139 : Nat) ({ cls := "EnvelopePlanner$Rules", name := "append", desc := "(III)I" } : Jvm.MethodName)) ∈ wU := wu_2 209 rfl rfl
set_option maxRecDepth 20000 in
theorem u_450 : (Jvm.Cond.instanceMethod ({ cls := "EnvelopePlanner$Rules", name := "append", desc := "(III)I" } : Jvm.MethodName)) ∈ wU := wu_2 210 rfl rfl
set_option maxRecDepth 20000 in
theorem u_451 : (Jvm.Cond.selects "EnvelopePlanner$Rules" ({ cls := "EnvelopePlanner$Rules", name := "append", desc := "(III)I" } : Jvm.MethodName) ({ cls := "EnvelopePlanner$Rules", name := "append", desc := "(III)I" } : Jvm.MethodName)) ∈ wU := wu_2 211 rfl rfl
set_option maxRecDepth 20000 in
theorem u_452 : (Jvm.Cond.code ({ cls := "EnvelopePlanner$Rules", name := "append", desc := "(III)I" } : Jvm.MethodName) prog_9_method_3_code (5 : Nat) (Option.some Jvm.ClassFile.FieldType.int)) ∈ wU := wu_2 212 rfl rfl
set_option maxRecDepth 20000 in
theorem u_453 : (Jvm.Cond.methodLink "EnvelopePlanner$Plan" (142 : Nat) ({ cls := "EnvelopePlanner$Rules", name := "remove", desc := "(I)I" } : Jvm.MethodName)) ∈ wU := wu_2 213 rfl rfl
set_option maxRecDepth 20000 in
theorem u_454 : (Jvm.Cond.instanceMethod ({ cls := "EnvelopePlanner$Rules", name := "remove", desc := "(I)I" } : Jvm.MethodName)) ∈ wU := wu_2 214 rfl rfl
set_option maxRecDepth 20000 in
theorem u_455 : (Jvm.Cond.selects "EnvelopePlanner$Rules" ({ cls := "EnvelopePlanner$Rules", name := "remove", desc := "(I)I" } : Jvm.MethodName) ({ cls := "EnvelopePlanner$Rules", name := "remove", desc := "(I)I" } : Jvm.MethodName)) ∈ wU := wu_2 215 rfl rfl
set_option maxRecDepth 20000 in
theorem u_456 : (Jvm.Cond.code ({ cls := "EnvelopePlanner$Rules", name := "remove", desc := "(I)I" } : Jvm.MethodName) prog_9_method_4_code (3 : Nat) (Option.some Jvm.ClassFile.FieldType.int)) ∈ wU := wu_2 216 rfl rfl
set_option maxRecDepth 20000 in
theorem u_457 : (Jvm.Cond.methodLink "EnvelopePlanner$Rules" (25 : Nat) ({ cls := "EnvelopePlanner$Rules", name := "has", desc := "(I)Z" } : Jvm.MethodName)) ∈ wU := wu_2 217 rfl rfl
set_option maxRecDepth 20000 in
theorem u_458 : (Jvm.Cond.methodLink "EnvelopePlanner$Plan" (146 : Nat) ({ cls := "EnvelopePlanner$Links", name := "append", desc := "(IIII)I" } : Jvm.MethodName)) ∈ wU := wu_2 218 rfl rfl
set_option maxRecDepth 20000 in
theorem u_459 : (Jvm.Cond.instanceMethod ({ cls := "EnvelopePlanner$Links", name := "append", desc := "(IIII)I" } : Jvm.MethodName)) ∈ wU := wu_2 219 rfl rfl
set_option maxRecDepth 20000 in
theorem u_460 : (Jvm.Cond.selects "EnvelopePlanner$Links" ({ cls := "EnvelopePlanner$Links", name := "append", desc := "(IIII)I" } : Jvm.MethodName) ({ cls := "EnvelopePlanner$Links", name := "append", desc := "(IIII)I" } : Jvm.MethodName)) ∈ wU := wu_2 220 rfl rfl
set_option maxRecDepth 20000 in
theorem u_461 : (Jvm.Cond.code ({ cls := "EnvelopePlanner$Links", name := "append", desc := "(IIII)I" } : Jvm.MethodName) prog_6_method_3_code (6 : Nat) (Option.some Jvm.ClassFile.FieldType.int)) ∈ wU := wu_2 221 rfl rfl
set_option maxRecDepth 20000 in
theorem u_462 : (Jvm.Cond.methodLink "EnvelopePlanner$Plan" (149 : Nat) ({ cls := "EnvelopePlanner$Links", name := "remove", desc := "(I)I" } : Jvm.MethodName)) ∈ wU := wu_2 222 rfl rfl
set_option maxRecDepth 20000 in
theorem u_463 : (Jvm.Cond.instanceMethod ({ cls := "EnvelopePlanner$Links", name := "remove", desc := "(I)I" } : Jvm.MethodName)) ∈ wU := wu_2 223 rfl rfl
set_option maxRecDepth 20000 in
theorem u_464 : (Jvm.Cond.selects "EnvelopePlanner$Links" ({ cls := "EnvelopePlanner$Links", name := "remove", desc := "(I)I" } : Jvm.MethodName) ({ cls := "EnvelopePlanner$Links", name := "remove", desc := "(I)I" } : Jvm.MethodName)) ∈ wU := wu_2 224 rfl rfl
set_option maxRecDepth 20000 in
theorem u_465 : (Jvm.Cond.code ({ cls := "EnvelopePlanner$Links", name := "remove", desc := "(I)I" } : Jvm.MethodName) prog_6_method_4_code (3 : Nat) (Option.some Jvm.ClassFile.FieldType.int)) ∈ wU := wu_2 225 rfl rfl
set_option maxRecDepth 20000 in
theorem u_466 : (Jvm.Cond.methodLink "EnvelopePlanner$Links" (32 : Nat) ({ cls := "EnvelopePlanner$Links", name := "has", desc := "(I)Z" } : Jvm.MethodName)) ∈ wU := wu_2 226 rfl rfl
set_option maxRecDepth 20000 in
theorem u_467 : (Jvm.Cond.methodLink "EnvelopePlanner$Plan" (150 : Nat) ({ cls := "EnvelopePlanner$Items", name := "append", desc := "(IIIII)I" } : Jvm.MethodName)) ∈ wU := wu_2 227 rfl rfl
set_option maxRecDepth 20000 in
theorem u_468 : (Jvm.Cond.instanceMethod ({ cls := "EnvelopePlanner$Items", name := "append", desc := "(IIIII)I" } : Jvm.MethodName)) ∈ wU := wu_2 228 rfl rfl
set_option maxRecDepth 20000 in
theorem u_469 : (Jvm.Cond.selects "EnvelopePlanner$Items" ({ cls := "EnvelopePlanner$Items", name := "append", desc := "(IIIII)I" } : Jvm.MethodName) ({ cls := "EnvelopePlanner$Items", name := "append", desc := "(IIIII)I" } : Jvm.MethodName)) ∈ wU := wu_2 229 rfl rfl
set_option maxRecDepth 20000 in
theorem u_470 : (Jvm.Cond.code ({ cls := "EnvelopePlanner$Items", name := "append", desc := "(IIIII)I" } : Jvm.MethodName) prog_5_method_3_code (7 : Nat) (Option.some Jvm.ClassFile.FieldType.int)) ∈ wU := wu_2 230 rfl rfl
set_option maxRecDepth 20000 in
theorem u_471 : (Jvm.Cond.methodLink "EnvelopePlanner$Plan" (153 : Nat) ({ cls := "EnvelopePlanner$Items", name := "remove", desc := "(I)I" } : Jvm.MethodName)) ∈ wU := wu_2 231 rfl rfl
set_option maxRecDepth 20000 in
theorem u_472 : (Jvm.Cond.instanceMethod ({ cls := "EnvelopePlanner$Items", name := "remove", desc := "(I)I" } : Jvm.MethodName)) ∈ wU := wu_2 232 rfl rfl
set_option maxRecDepth 20000 in
theorem u_473 : (Jvm.Cond.selects "EnvelopePlanner$Items" ({ cls := "EnvelopePlanner$Items", name := "remove", desc := "(I)I" } : Jvm.MethodName) ({ cls := "EnvelopePlanner$Items", name := "remove", desc := "(I)I" } : Jvm.MethodName)) ∈ wU := wu_2 233 rfl rfl
set_option maxRecDepth 20000 in
theorem u_474 : (Jvm.Cond.code ({ cls := "EnvelopePlanner$Items", name := "remove", desc := "(I)I" } : Jvm.MethodName) prog_5_method_4_code (3 : Nat) (Option.some Jvm.ClassFile.FieldType.int)) ∈ wU := wu_2 234 rfl rfl
set_option maxRecDepth 20000 in
theorem u_475 : (Jvm.Cond.methodLink "EnvelopePlanner$Items" (34 : Nat) ({ cls := "EnvelopePlanner$Items", name := "has", desc := "(I)Z" } : Jvm.MethodName)) ∈ wU := wu_2 235 rfl rfl
set_option maxRecDepth 20000 in
theorem u_476 : (Jvm.Cond.methodLink "EnvelopePlanner$Plan" (154 : Nat) ({ cls := "EnvelopePlanner$Plan", name := "passDays", desc := "(I)I" } : Jvm.MethodName)) ∈ wU := wu_2 236 rfl rfl
set_option maxRecDepth 20000 in
theorem u_477 : (Jvm.Cond.instanceMethod ({ cls := "EnvelopePlanner$Plan", name := "passDays", desc := "(I)I" } : Jvm.MethodName)) ∈ wU := wu_2 237 rfl rfl
set_option maxRecDepth 20000 in
theorem u_478 : (Jvm.Cond.selects "EnvelopePlanner$Plan" ({ cls := "EnvelopePlanner$Plan", name := "passDays", desc := "(I)I" } : Jvm.MethodName) ({ cls := "EnvelopePlanner$Plan", name := "passDays", desc := "(I)I" } : Jvm.MethodName)) ∈ wU := wu_2 238 rfl rfl
set_option maxRecDepth 20000 in
theorem u_479 : (Jvm.Cond.code ({ cls := "EnvelopePlanner$Plan", name := "passDays", desc := "(I)I" } : Jvm.MethodName) prog_7_method_22_code (5 : Nat) (Option.some Jvm.ClassFile.FieldType.int)) ∈ wU := wu_2 239 rfl rfl
set_option maxRecDepth 20000 in
theorem u_480 : (Jvm.Cond.methodLink "EnvelopePlanner$Plan" (160 : Nat) ({ cls := "EnvelopePlanner$Plan", name := "takeIncome", desc := "(I)J" } : Jvm.MethodName)) ∈ wU := wu_3 0 rfl rfl
set_option maxRecDepth 20000 in
theorem u_481 : (Jvm.Cond.instanceMethod ({ cls := "EnvelopePlanner$Plan", name := "takeIncome", desc := "(I)J" } : Jvm.MethodName)) ∈ wU := wu_3 1 rfl rfl
set_option maxRecDepth 20000 in
theorem u_482 : (Jvm.Cond.selects "EnvelopePlanner$Plan" ({ cls := "EnvelopePlanner$Plan", name := "takeIncome", desc := "(I)J" } : Jvm.MethodName) ({ cls := "EnvelopePlanner$Plan", name := "takeIncome", desc := "(I)J" } : Jvm.MethodName)) ∈ wU := wu_3 2 rfl rfl
set_option maxRecDepth 20000 in
theorem u_483 : (Jvm.Cond.code ({ cls := "EnvelopePlanner$Plan", name := "takeIncome", desc := "(I)J" } : Jvm.MethodName) prog_7_method_14_code (6 : Nat) (Option.some Jvm.ClassFile.FieldType.long)) ∈ wU := wu_3 3 rfl rfl
set_option maxRecDepth 20000 in
theorem u_484 : (Jvm.Cond.methodLink "EnvelopePlanner$Plan" (178 : Nat) ({ cls := "EnvelopePlanner$Rules", name := "endOfShares", desc := "(I)I" } : Jvm.MethodName)) ∈ wU := wu_3 4 rfl rfl
set_option maxRecDepth 20000 in
theorem u_485 : (Jvm.Cond.instanceMethod ({ cls := "EnvelopePlanner$Rules", name := "endOfShares", desc := "(I)I" } : Jvm.MethodName)) ∈ wU := wu_3 5 rfl rfl
set_option maxRecDepth 20000 in
theorem u_486 : (Jvm.Cond.selects "EnvelopePlanner$Rules" ({ cls := "EnvelopePlanner$Rules", name := "endOfShares", desc := "(I)I" } : Jvm.MethodName) ({ cls := "EnvelopePlanner$Rules", name := "endOfShares", desc := "(I)I" } : Jvm.MethodName)) ∈ wU := wu_3 6 rfl rfl
set_option maxRecDepth 20000 in
theorem u_487 : (Jvm.Cond.code ({ cls := "EnvelopePlanner$Rules", name := "endOfShares", desc := "(I)I" } : Jvm.MethodName) prog_9_method_5_code (3 : Nat) (Option.some Jvm.ClassFile.FieldType.int)) ∈ wU := wu_3 7 rfl rfl
set_option maxRecDepth 20000 in
theorem u_488 : (Jvm.Cond.methodLink "EnvelopePlanner$Plan" (181 : Nat) ({ cls := "EnvelopePlanner$Plan", name := "shareOut", desc := "(IIJ)J" } : Jvm.MethodName)) ∈ wU := wu_3 8 rfl rfl
set_option maxRecDepth 20000 in
theorem u_490 : (Jvm.Cond.instanceMethod ({ cls := "EnvelopePlanner$Plan", name := "shareOut", desc := "(IIJ)J" } : Jvm.MethodName)) ∈ wU := wu_3 10 rfl rfl
set_option maxRecDepth 20000 in
theorem u_491 : (Jvm.Cond.code ({ cls := "EnvelopePlanner$Plan", name := "shareOut", desc := "(IIJ)J" } : Jvm.MethodName) prog_7_method_16_code (14 : Nat) (Option.some Jvm.ClassFile.FieldType.long)) ∈ wU := wu_3 11 rfl rfl
set_option maxRecDepth 20000 in
theorem u_492 : (Jvm.Cond.methodLink "EnvelopePlanner$Plan" (192 : Nat) ({ cls := "EnvelopePlanner$Envelopes", name := "putWhatFits", desc := "(IJ)J" } : Jvm.MethodName)) ∈ wU := wu_3 12 rfl rfl
set_option maxRecDepth 20000 in
theorem u_493 : (Jvm.Cond.instanceMethod ({ cls := "EnvelopePlanner$Envelopes", name := "putWhatFits", desc := "(IJ)J" } : Jvm.MethodName)) ∈ wU := wu_3 13 rfl rfl
set_option maxRecDepth 20000 in
theorem u_494 : (Jvm.Cond.selects "EnvelopePlanner$Envelopes" ({ cls := "EnvelopePlanner$Envelopes", name := "putWhatFits", desc := "(IJ)J" } : Jvm.MethodName) ({ cls := "EnvelopePlanner$Envelopes", name := "putWhatFits", desc := "(IJ)J" } : Jvm.MethodName)) ∈ wU := wu_3 14 rfl rfl
set_option maxRecDepth 20000 in
theorem u_495 : (Jvm.Cond.code ({ cls := "EnvelopePlanner$Envelopes", name := "putWhatFits", desc := "(IJ)J" } : Jvm.MethodName) prog_4_method_8_code (6 : Nat) (Option.some Jvm.ClassFile.FieldType.long)) ∈ wU := wu_3 15 rfl rfl
set_option maxRecDepth 20000 in
theorem u_496 : (Jvm.Cond.methodLink "EnvelopePlanner$Plan" (188 : Nat) ({ cls := "EnvelopePlanner$Plan", name := "portionFor", desc := "(IJJ)J" } : Jvm.MethodName)) ∈ wU := wu_3 16 rfl rfl
set_option maxRecDepth 20000 in
theorem u_498 : (Jvm.Cond.instanceMethod ({ cls := "EnvelopePlanner$Plan", name := "portionFor", desc := "(IJJ)J" } : Jvm.MethodName)) ∈ wU := wu_3 18 rfl rfl
set_option maxRecDepth 20000 in
theorem u_499 : (Jvm.Cond.code ({ cls := "EnvelopePlanner$Plan", name := "portionFor", desc := "(IJJ)J" } : Jvm.MethodName) prog_7_method_15_code (8 : Nat) (Option.some Jvm.ClassFile.FieldType.long)) ∈ wU := wu_3 19 rfl rfl
set_option maxRecDepth 20000 in
theorem u_500 : (Jvm.Cond.constantLong "EnvelopePlanner$Plan" (199 : Nat) (100 : Int64)) ∈ wU := wu_3 20 rfl rfl
set_option maxRecDepth 20000 in
theorem u_501 : (Jvm.Cond.methodLink "EnvelopePlanner$Plan" (201 : Nat) ({ cls := "EnvelopePlanner$Envelopes", name := "isCapped", desc := "(I)Z" } : Jvm.MethodName)) ∈ wU := wu_3 21 rfl rfl
set_option maxRecDepth 20000 in
theorem u_502 : (Jvm.Cond.instanceMethod ({ cls := "EnvelopePlanner$Envelopes", name := "isCapped", desc := "(I)Z" } : Jvm.MethodName)) ∈ wU := wu_3 22 rfl rfl
set_option maxRecDepth 20000 in
theorem u_503 : (Jvm.Cond.selects "EnvelopePlanner$Envelopes" ({ cls := "EnvelopePlanner$Envelopes", name := "isCapped", desc := "(I)Z" } : Jvm.MethodName) ({ cls := "EnvelopePlanner$Envelopes", name := "isCapped", desc := "(I)Z" } : Jvm.MethodName)) ∈ wU := wu_3 23 rfl rfl
set_option maxRecDepth 20000 in
theorem u_504 : (Jvm.Cond.code ({ cls := "EnvelopePlanner$Envelopes", name := "isCapped", desc := "(I)Z" } : Jvm.MethodName) prog_4_method_6_code (2 : Nat) (Option.some Jvm.ClassFile.FieldType.boolean)) ∈ wU := wu_3 24 rfl rfl
set_option maxRecDepth 20000 in
theorem u_505 : (Jvm.Cond.methodLink "EnvelopePlanner$Plan" (163 : Nat) ({ cls := "EnvelopePlanner$Plan", name := "pay", desc := "(II)J" } : Jvm.MethodName)) ∈ wU := wu_3 25 rfl rfl
set_option maxRecDepth 20000 in
theorem u_506 : (Jvm.Cond.instanceMethod ({ cls := "EnvelopePlanner$Plan", name := "pay", desc := "(II)J" } : Jvm.MethodName)) ∈ wU := wu_3 26 rfl rfl
set_option maxRecDepth 20000 in
theorem u_507 : (Jvm.Cond.selects "EnvelopePlanner$Plan" ({ cls := "EnvelopePlanner$Plan", name := "pay", desc := "(II)J" } : Jvm.MethodName) ({ cls := "EnvelopePlanner$Plan", name := "pay", desc := "(II)J" } : Jvm.MethodName)) ∈ wU := wu_3 27 rfl rfl
set_option maxRecDepth 20000 in
theorem u_508 : (Jvm.Cond.code ({ cls := "EnvelopePlanner$Plan", name := "pay", desc := "(II)J" } : Jvm.MethodName) prog_7_method_18_code (5 : Nat) (Option.some Jvm.ClassFile.FieldType.long)) ∈ wU := wu_3 28 rfl rfl
set_option maxRecDepth 20000 in
theorem u_509 : (Jvm.Cond.methodLink "EnvelopePlanner$Plan" (204 : Nat) ({ cls := "EnvelopePlanner$Envelopes", name := "spendWhatIsThere", desc := "(IJ)J" } : Jvm.MethodName)) ∈ wU := wu_3 29 rfl rfl
set_option maxRecDepth 20000 in
theorem u_510 : (Jvm.Cond.instanceMethod ({ cls := "EnvelopePlanner$Envelopes", name := "spendWhatIsThere", desc := "(IJ)J" } : Jvm.MethodName)) ∈ wU := wu_3 30 rfl rfl
set_option maxRecDepth 20000 in
theorem u_511 : (Jvm.Cond.selects "EnvelopePlanner$Envelopes" ({ cls := "EnvelopePlanner$Envelopes", name := "spendWhatIsThere", desc := "(IJ)J" } : Jvm.MethodName) ({ cls := "EnvelopePlanner$Envelopes", name := "spendWhatIsThere", desc := "(IJ)J" } : Jvm.MethodName)) ∈ wU := wu_3 31 rfl rfl
set_option maxRecDepth 20000 in
theorem u_512 : (Jvm.Cond.code ({ cls := "EnvelopePlanner$Envelopes", name := "spendWhatIsThere", desc := "(IJ)J" } : Jvm.MethodName) prog_4_method_10_code (6 : Nat) (Option.some Jvm.ClassFile.FieldType.long)) ∈ wU := wu_3 32 rfl rfl
set_option maxRecDepth 20000 in
theorem u_513 : (Jvm.Cond.methodLink "EnvelopePlanner$Plan" (171 : Nat) ({ cls := "EnvelopePlanner$Plan", name := "settle", desc := "()V" } : Jvm.MethodName)) ∈ wU := wu_3 33 rfl rfl
set_option maxRecDepth 20000 in
theorem u_514 : (Jvm.Cond.instanceMethod ({ cls := "EnvelopePlanner$Plan", name := "settle", desc := "()V" } : Jvm.MethodName)) ∈ wU := wu_3 34 rfl rfl
set_option maxRecDepth 20000 in
theorem u_515 : (Jvm.Cond.selects "EnvelopePlanner$Plan" ({ cls := "EnvelopePlanner$Plan", name := "settle", desc := "()V" } : Jvm.MethodName) ({ cls := "EnvelopePlanner$Plan", name := "settle", desc := "()V" } : Jvm.MethodName)) ∈ wU := wu_3 35 rfl rfl
set_option maxRecDepth 20000 in
theorem u_516 : (Jvm.Cond.code ({ cls := "EnvelopePlanner$Plan", name := "settle", desc := "()V" } : Jvm.MethodName) prog_7_method_20_code (5 : Nat) (Option.none : Option Jvm.ClassFile.FieldType)) ∈ wU := wu_3 36 rfl rfl
set_option maxRecDepth 20000 in
theorem u_517 : (Jvm.Cond.methodLink "EnvelopePlanner$Plan" (211 : Nat) ({ cls := "EnvelopePlanner$Plan", name := "passOn", desc := "(I)Z" } : Jvm.MethodName)) ∈ wU := wu_3 37 rfl rfl
set_option maxRecDepth 20000 in
theorem u_519 : (Jvm.Cond.instanceMethod ({ cls := "EnvelopePlanner$Plan", name := "passOn", desc := "(I)Z" } : Jvm.MethodName)) ∈ wU := wu_3 39 rfl rfl
set_option maxRecDepth 20000 in
theorem u_520 : (Jvm.Cond.code ({ cls := "EnvelopePlanner$Plan", name := "passOn", desc := "(I)Z" } : Jvm.MethodName) prog_7_method_21_code (6 : Nat) (Option.some Jvm.ClassFile.FieldType.boolean)) ∈ wU := wu_3 40 rfl rfl
set_option maxRecDepth 20000 in
theorem u_521 : (Jvm.Cond.methodLink "EnvelopePlanner$Plan" (207 : Nat) ({ cls := "EnvelopePlanner$Envelopes", name := "take", desc := "(IJ)V" } : Jvm.MethodName)) ∈ wU := wu_3 41 rfl rfl
set_option maxRecDepth 20000 in
theorem u_522 : (Jvm.Cond.instanceMethod ({ cls := "EnvelopePlanner$Envelopes", name := "take", desc := "(IJ)V" } : Jvm.MethodName)) ∈ wU := wu_3 42 rfl rfl
set_option maxRecDepth 20000 in
theorem u_523 : (Jvm.Cond.selects "EnvelopePlanner$Envelopes" ({ cls := "EnvelopePlanner$Envelopes", name := "take", desc := "(IJ)V" } : Jvm.MethodName) ({ cls := "EnvelopePlanner$Envelopes", name := "take", desc := "(IJ)V" } : Jvm.MethodName)) ∈ wU := wu_3 43 rfl rfl
set_option maxRecDepth 20000 in
theorem u_524 : (Jvm.Cond.code ({ cls := "EnvelopePlanner$Envelopes", name := "take", desc := "(IJ)V" } : Jvm.MethodName) prog_4_method_9_code (4 : Nat) (Option.none : Option Jvm.ClassFile.FieldType)) ∈ wU := wu_3 44 rfl rfl
set_option maxRecDepth 20000 in
theorem u_525 : (Jvm.Cond.methodLink "EnvelopePlanner$Plan" (240 : Nat) ({ cls := "EnvelopePlanner$Plan", name := "rollOver", desc := "()V" } : Jvm.MethodName)) ∈ wU := wu_3 45 rfl rfl
set_option maxRecDepth 20000 in
theorem u_527 : (Jvm.Cond.instanceMethod ({ cls := "EnvelopePlanner$Plan", name := "rollOver", desc := "()V" } : Jvm.MethodName)) ∈ wU := wu_3 47 rfl rfl
set_option maxRecDepth 20000 in
theorem u_528 : (Jvm.Cond.code ({ cls := "EnvelopePlanner$Plan", name := "rollOver", desc := "()V" } : Jvm.MethodName) prog_7_method_23_code (4 : Nat) (Option.none : Option Jvm.ClassFile.FieldType)) ∈ wU := wu_3 48 rfl rfl
set_option maxRecDepth 20000 in
theorem u_529 : (Jvm.Cond.methodLink "EnvelopePlanner$Plan" (243 : Nat) ({ cls := "EnvelopePlanner$Envelopes", name := "release", desc := "(I)J" } : Jvm.MethodName)) ∈ wU := wu_3 49 rfl rfl
set_option maxRecDepth 20000 in
theorem u_530 : (Jvm.Cond.instanceMethod ({ cls := "EnvelopePlanner$Envelopes", name := "release", desc := "(I)J" } : Jvm.MethodName)) ∈ wU := wu_3 50 rfl rfl
set_option maxRecDepth 20000 in
theorem u_531 : (Jvm.Cond.selects "EnvelopePlanner$Envelopes" ({ cls := "EnvelopePlanner$Envelopes", name := "release", desc := "(I)J" } : Jvm.MethodName) ({ cls := "EnvelopePlanner$Envelopes", name := "release", desc := "(I)J" } : Jvm.MethodName)) ∈ wU := wu_3 51 rfl rfl
set_option maxRecDepth 20000 in
theorem u_532 : (Jvm.Cond.code ({ cls := "EnvelopePlanner$Envelopes", name := "release", desc := "(I)J" } : Jvm.MethodName) prog_4_method_11_code (4 : Nat) (Option.some Jvm.ClassFile.FieldType.long)) ∈ wU := wu_3 52 rfl rfl
set_option maxRecDepth 20000 in
theorem u_533 : (Jvm.Cond.constantLong "EnvelopePlanner$Envelopes" (33 : Nat) (2 : Int64)) ∈ wU := wu_3 53 rfl rfl
set_option maxRecDepth 20000 in
theorem u_534 : (Jvm.Cond.methodLink "EnvelopePlanner$Plan" (157 : Nat) ({ cls := "EnvelopePlanner$Plan", name := "moveMoney", desc := "(IIII)I" } : Jvm.MethodName)) ∈ wU := wu_3 54 rfl rfl
set_option maxRecDepth 20000 in
theorem u_536 : (Jvm.Cond.instanceMethod ({ cls := "EnvelopePlanner$Plan", name := "moveMoney", desc := "(IIII)I" } : Jvm.MethodName)) ∈ wU := wu_3 56 rfl rfl
set_option maxRecDepth 20000 in
theorem u_537 : (Jvm.Cond.code ({ cls := "EnvelopePlanner$Plan", name := "moveMoney", desc := "(IIII)I" } : Jvm.MethodName) prog_7_method_13_code (7 : Nat) (Option.some Jvm.ClassFile.FieldType.int)) ∈ wU := wu_3 57 rfl rfl
set_option maxRecDepth 20000 in
theorem u_538 : (Jvm.Cond.methodLink "EnvelopePlanner$Plan" (167 : Nat) ({ cls := "EnvelopePlanner$Plan", name := "carry", desc := "(III)J" } : Jvm.MethodName)) ∈ wU := wu_3 58 rfl rfl
set_option maxRecDepth 20000 in
theorem u_540 : (Jvm.Cond.instanceMethod ({ cls := "EnvelopePlanner$Plan", name := "carry", desc := "(III)J" } : Jvm.MethodName)) ∈ wU := wu_3 60 rfl rfl
set_option maxRecDepth 20000 in
theorem u_541 : (Jvm.Cond.code ({ cls := "EnvelopePlanner$Plan", name := "carry", desc := "(III)J" } : Jvm.MethodName) prog_7_method_19_code (6 : Nat) (Option.some Jvm.ClassFile.FieldType.long)) ∈ wU := wu_3 61 rfl rfl
set_option maxRecDepth 20000 in
theorem u_542 : (Jvm.Cond.methodLink "EnvelopePlanner" (67 : Nat) ({ cls := "EnvelopePlanner$Branch", name := "record", desc := "(IIIII)V" } : Jvm.MethodName)) ∈ wU := wu_3 62 rfl rfl
set_option maxRecDepth 20000 in
theorem u_543 : (Jvm.Cond.instanceMethod ({ cls := "EnvelopePlanner$Branch", name := "record", desc := "(IIIII)V" } : Jvm.MethodName)) ∈ wU := wu_3 63 rfl rfl
set_option maxRecDepth 20000 in
theorem u_544 : (Jvm.Cond.selects "EnvelopePlanner$Branch" ({ cls := "EnvelopePlanner$Branch", name := "record", desc := "(IIIII)V" } : Jvm.MethodName) ({ cls := "EnvelopePlanner$Branch", name := "record", desc := "(IIIII)V" } : Jvm.MethodName)) ∈ wU := wu_3 64 rfl rfl
set_option maxRecDepth 20000 in
theorem u_545 : (Jvm.Cond.code ({ cls := "EnvelopePlanner$Branch", name := "record", desc := "(IIIII)V" } : Jvm.MethodName) prog_2_method_3_code (7 : Nat) (Option.none : Option Jvm.ClassFile.FieldType)) ∈ wU := wu_3 65 rfl rfl
set_option maxRecDepth 20000 in
theorem u_546 : (Jvm.Cond.methodLink "EnvelopePlannerLaw" (264 : Nat) ({ cls := "EnvelopePlanner", name := "save", desc := "()I" } : Jvm.MethodName)) ∈ wU := wu_3 66 rfl rfl
set_option maxRecDepth 20000 in
theorem u_547 : (Jvm.Cond.instanceMethod ({ cls := "EnvelopePlanner", name := "save", desc := "()I" } : Jvm.MethodName)) ∈ wU := wu_3 67 rfl rfl
set_option maxRecDepth 20000 in
theorem u_548 : (Jvm.Cond.selects "EnvelopePlanner" ({ cls := "EnvelopePlanner", name := "save", desc := "()I" } : Jvm.MethodName) ({ cls := "EnvelopePlanner", name := "save", desc := "()I" } : Jvm.MethodName)) ∈ wU := wu_3 68 rfl rfl
set_option maxRecDepth 20000 in
theorem u_549 : (Jvm.Cond.code ({ cls := "EnvelopePlanner", name := "save", desc := "()I" } : Jvm.MethodName) prog_1_method_43_code (1 : Nat) (Option.some Jvm.ClassFile.FieldType.int)) ∈ wU := wu_3 69 rfl rfl
set_option maxRecDepth 20000 in
theorem u_550 : (Jvm.Cond.methodLink "EnvelopePlanner" (298 : Nat) ({ cls := "EnvelopePlanner$Branches", name := "copyFrom", desc := "(LEnvelopePlanner$Branches;)V" } : Jvm.MethodName)) ∈ wU := wu_3 70 rfl rfl
set_option maxRecDepth 20000 in
theorem u_551 : (Jvm.Cond.instanceMethod ({ cls := "EnvelopePlanner$Branches", name := "copyFrom", desc := "(LEnvelopePlanner$Branches;)V" } : Jvm.MethodName)) ∈ wU := wu_3 71 rfl rfl
set_option maxRecDepth 20000 in
theorem u_552 : (Jvm.Cond.selects "EnvelopePlanner$Branches" ({ cls := "EnvelopePlanner$Branches", name := "copyFrom", desc := "(LEnvelopePlanner$Branches;)V" } : Jvm.MethodName) ({ cls := "EnvelopePlanner$Branches", name := "copyFrom", desc := "(LEnvelopePlanner$Branches;)V" } : Jvm.MethodName)) ∈ wU := wu_3 72 rfl rfl
set_option maxRecDepth 20000 in
theorem u_553 : (Jvm.Cond.code ({ cls := "EnvelopePlanner$Branches", name := "copyFrom", desc := "(LEnvelopePlanner$Branches;)V" } : Jvm.MethodName) prog_3_method_9_code (5 : Nat) (Option.none : Option Jvm.ClassFile.FieldType)) ∈ wU := wu_3 73 rfl rfl
set_option maxRecDepth 20000 in
theorem u_554 : (Jvm.Cond.methodLink "EnvelopePlanner$Branches" (53 : Nat) ({ cls := "EnvelopePlanner$Branch", name := "copyFrom", desc := "(LEnvelopePlanner$Branch;)V" } : Jvm.MethodName)) ∈ wU := wu_3 74 rfl rfl
set_option maxRecDepth 20000 in
theorem u_555 : (Jvm.Cond.instanceMethod ({ cls := "EnvelopePlanner$Branch", name := "copyFrom", desc := "(LEnvelopePlanner$Branch;)V" } : Jvm.MethodName)) ∈ wU := wu_3 75 rfl rfl
set_option maxRecDepth 20000 in
theorem u_556 : (Jvm.Cond.selects "EnvelopePlanner$Branch" ({ cls := "EnvelopePlanner$Branch", name := "copyFrom", desc := "(LEnvelopePlanner$Branch;)V" } : Jvm.MethodName) ({ cls := "EnvelopePlanner$Branch", name := "copyFrom", desc := "(LEnvelopePlanner$Branch;)V" } : Jvm.MethodName)) ∈ wU := wu_3 76 rfl rfl
set_option maxRecDepth 20000 in
theorem u_557 : (Jvm.Cond.code ({ cls := "EnvelopePlanner$Branch", name := "copyFrom", desc := "(LEnvelopePlanner$Branch;)V" } : Jvm.MethodName) prog_2_method_7_code (2 : Nat) (Option.none : Option Jvm.ClassFile.FieldType)) ∈ wU := wu_3 77 rfl rfl
set_option maxRecDepth 20000 in
theorem u_558 : (Jvm.Cond.methodLink "EnvelopePlanner$Branch" (40 : Nat) ({ cls := "EnvelopePlanner$Plan", name := "copyFrom", desc := "(LEnvelopePlanner$Plan;)V" } : Jvm.MethodName)) ∈ wU := wu_3 78 rfl rfl
set_option maxRecDepth 20000 in
theorem u_559 : (Jvm.Cond.instanceMethod ({ cls := "EnvelopePlanner$Plan", name := "copyFrom", desc := "(LEnvelopePlanner$Plan;)V" } : Jvm.MethodName)) ∈ wU := wu_3 79 rfl rfl
set_option maxRecDepth 20000 in
theorem u_560 : (Jvm.Cond.selects "EnvelopePlanner$Plan" ({ cls := "EnvelopePlanner$Plan", name := "copyFrom", desc := "(LEnvelopePlanner$Plan;)V" } : Jvm.MethodName) ({ cls := "EnvelopePlanner$Plan", name := "copyFrom", desc := "(LEnvelopePlanner$Plan;)V" } : Jvm.MethodName)) ∈ wU := wu_3 80 rfl rfl
set_option maxRecDepth 20000 in
theorem u_561 : (Jvm.Cond.code ({ cls := "EnvelopePlanner$Plan", name := "copyFrom", desc := "(LEnvelopePlanner$Plan;)V" } : Jvm.MethodName) prog_7_method_2_code (2 : Nat) (Option.none : Option Jvm.ClassFile.FieldType)) ∈ wU := wu_3 81 rfl rfl
set_option maxRecDepth 20000 in
theorem u_562 : (Jvm.Cond.methodLink "EnvelopePlanner$Plan" (39 : Nat) ({ cls := "EnvelopePlanner$Envelopes", name := "copyFrom", desc := "(LEnvelopePlanner$Envelopes;)V" } : Jvm.MethodName)) ∈ wU := wu_3 82 rfl rfl
set_option maxRecDepth 20000 in
theorem u_563 : (Jvm.Cond.instanceMethod ({ cls := "EnvelopePlanner$Envelopes", name := "copyFrom", desc := "(LEnvelopePlanner$Envelopes;)V" } : Jvm.MethodName)) ∈ wU := wu_3 83 rfl rfl
set_option maxRecDepth 20000 in
theorem u_564 : (Jvm.Cond.selects "EnvelopePlanner$Envelopes" ({ cls := "EnvelopePlanner$Envelopes", name := "copyFrom", desc := "(LEnvelopePlanner$Envelopes;)V" } : Jvm.MethodName) ({ cls := "EnvelopePlanner$Envelopes", name := "copyFrom", desc := "(LEnvelopePlanner$Envelopes;)V" } : Jvm.MethodName)) ∈ wU := wu_3 84 rfl rfl
set_option maxRecDepth 20000 in
theorem u_565 : (Jvm.Cond.code ({ cls := "EnvelopePlanner$Envelopes", name := "copyFrom", desc := "(LEnvelopePlanner$Envelopes;)V" } : Jvm.MethodName) prog_4_method_14_code (2 : Nat) (Option.none : Option Jvm.ClassFile.FieldType)) ∈ wU := wu_3 85 rfl rfl
set_option maxRecDepth 20000 in
theorem u_566 : (Jvm.Cond.methodLink "EnvelopePlanner$Envelopes" (43 : Nat) ({ cls := "java/lang/System", name := "arraycopy", desc := "(Ljava/lang/Object;ILjava/lang/Object;II)V" } : Jvm.MethodName)) ∈ wU := wu_3 86 rfl rfl
set_option maxRecDepth 20000 in
theorem u_567 : (Jvm.Cond.static ({ cls := "java/lang/System", name := "arraycopy", desc := "(Ljava/lang/Object;ILjava/lang/Object;II)V" } : Jvm.MethodName)) ∈ wU := wu_3 87 rfl rfl
set_option maxRecDepth 20000 in
theorem u_568 : (Jvm.Cond.native ({ cls := "java/lang/System", name := "arraycopy", desc := "(Ljava/lang/Object;ILjava/lang/Object;II)V" } : Jvm.MethodName)) ∈ wU := wu_3 88 rfl rfl
set_option maxRecDepth 20000 in
theorem u_569 : (Jvm.Cond.methodLink "EnvelopePlanner$Plan" (43 : Nat) ({ cls := "EnvelopePlanner$Rules", name := "copyFrom", desc := "(LEnvelopePlanner$Rules;)V" } : Jvm.MethodName)) ∈ wU := wu_3 89 rfl rfl
set_option maxRecDepth 20000 in
theorem u_570 : (Jvm.Cond.instanceMethod ({ cls := "EnvelopePlanner$Rules", name := "copyFrom", desc := "(LEnvelopePlanner$Rules;)V" } : Jvm.MethodName)) ∈ wU := wu_3 90 rfl rfl
set_option maxRecDepth 20000 in
theorem u_571 : (Jvm.Cond.selects "EnvelopePlanner$Rules" ({ cls := "EnvelopePlanner$Rules", name := "copyFrom", desc := "(LEnvelopePlanner$Rules;)V" } : Jvm.MethodName) ({ cls := "EnvelopePlanner$Rules", name := "copyFrom", desc := "(LEnvelopePlanner$Rules;)V" } : Jvm.MethodName)) ∈ wU := wu_3 91 rfl rfl
set_option maxRecDepth 20000 in
theorem u_572 : (Jvm.Cond.code ({ cls := "EnvelopePlanner$Rules", name := "copyFrom", desc := "(LEnvelopePlanner$Rules;)V" } : Jvm.MethodName) prog_9_method_7_code (2 : Nat) (Option.none : Option Jvm.ClassFile.FieldType)) ∈ wU := wu_3 92 rfl rfl
set_option maxRecDepth 20000 in
theorem u_573 : (Jvm.Cond.methodLink "EnvelopePlanner$Rules" (29 : Nat) ({ cls := "java/lang/System", name := "arraycopy", desc := "(Ljava/lang/Object;ILjava/lang/Object;II)V" } : Jvm.MethodName)) ∈ wU := wu_3 93 rfl rfl
set_option maxRecDepth 20000 in
theorem u_574 : (Jvm.Cond.methodLink "EnvelopePlanner$Plan" (46 : Nat) ({ cls := "EnvelopePlanner$Links", name := "copyFrom", desc := "(LEnvelopePlanner$Links;)V" } : Jvm.MethodName)) ∈ wU := wu_3 94 rfl rfl
set_option maxRecDepth 20000 in
theorem u_575 : (Jvm.Cond.instanceMethod ({ cls := "EnvelopePlanner$Links", name := "copyFrom", desc := "(LEnvelopePlanner$Links;)V" } : Jvm.MethodName)) ∈ wU := wu_3 95 rfl rfl
set_option maxRecDepth 20000 in
theorem u_576 : (Jvm.Cond.selects "EnvelopePlanner$Links" ({ cls := "EnvelopePlanner$Links", name := "copyFrom", desc := "(LEnvelopePlanner$Links;)V" } : Jvm.MethodName) ({ cls := "EnvelopePlanner$Links", name := "copyFrom", desc := "(LEnvelopePlanner$Links;)V" } : Jvm.MethodName)) ∈ wU := wu_3 96 rfl rfl
set_option maxRecDepth 20000 in
theorem u_577 : (Jvm.Cond.code ({ cls := "EnvelopePlanner$Links", name := "copyFrom", desc := "(LEnvelopePlanner$Links;)V" } : Jvm.MethodName) prog_6_method_6_code (2 : Nat) (Option.none : Option Jvm.ClassFile.FieldType)) ∈ wU := wu_3 97 rfl rfl
set_option maxRecDepth 20000 in
theorem u_578 : (Jvm.Cond.methodLink "EnvelopePlanner$Links" (36 : Nat) ({ cls := "java/lang/System", name := "arraycopy", desc := "(Ljava/lang/Object;ILjava/lang/Object;II)V" } : Jvm.MethodName)) ∈ wU := wu_3 98 rfl rfl
set_option maxRecDepth 20000 in
theorem u_579 : (Jvm.Cond.methodLink "EnvelopePlanner$Plan" (49 : Nat) ({ cls := "EnvelopePlanner$Items", name := "copyFrom", desc := "(LEnvelopePlanner$Items;)V" } : Jvm.MethodName)) ∈ wU := wu_3 99 rfl rfl
set_option maxRecDepth 20000 in
theorem u_580 : (Jvm.Cond.instanceMethod ({ cls := "EnvelopePlanner$Items", name := "copyFrom", desc := "(LEnvelopePlanner$Items;)V" } : Jvm.MethodName)) ∈ wU := wu_3 100 rfl rfl
set_option maxRecDepth 20000 in
theorem u_581 : (Jvm.Cond.selects "EnvelopePlanner$Items" ({ cls := "EnvelopePlanner$Items", name := "copyFrom", desc := "(LEnvelopePlanner$Items;)V" } : Jvm.MethodName) ({ cls := "EnvelopePlanner$Items", name := "copyFrom", desc := "(LEnvelopePlanner$Items;)V" } : Jvm.MethodName)) ∈ wU := wu_3 101 rfl rfl
set_option maxRecDepth 20000 in
theorem u_582 : (Jvm.Cond.code ({ cls := "EnvelopePlanner$Items", name := "copyFrom", desc := "(LEnvelopePlanner$Items;)V" } : Jvm.MethodName) prog_5_method_6_code (2 : Nat) (Option.none : Option Jvm.ClassFile.FieldType)) ∈ wU := wu_3 102 rfl rfl
set_option maxRecDepth 20000 in
theorem u_583 : (Jvm.Cond.methodLink "EnvelopePlanner$Items" (38 : Nat) ({ cls := "java/lang/System", name := "arraycopy", desc := "(Ljava/lang/Object;ILjava/lang/Object;II)V" } : Jvm.MethodName)) ∈ wU := wu_3 103 rfl rfl
set_option maxRecDepth 20000 in
theorem u_584 : (Jvm.Cond.methodLink "EnvelopePlanner$Branch" (48 : Nat) ({ cls := "java/lang/System", name := "arraycopy", desc := "(Ljava/lang/Object;ILjava/lang/Object;II)V" } : Jvm.MethodName)) ∈ wU := wu_3 104 rfl rfl
set_option maxRecDepth 20000 in
theorem u_585 : (Jvm.Cond.methodLink "EnvelopePlanner" (304 : Nat) ({ cls := "EnvelopePlanner$Branches", name := "count", desc := "()I" } : Jvm.MethodName)) ∈ wU := wu_3 105 rfl rfl
set_option maxRecDepth 20000 in
theorem u_586 : (Jvm.Cond.instanceMethod ({ cls := "EnvelopePlanner$Branches", name := "count", desc := "()I" } : Jvm.MethodName)) ∈ wU := wu_3 106 rfl rfl
set_option maxRecDepth 20000 in
theorem u_587 : (Jvm.Cond.selects "EnvelopePlanner$Branches" ({ cls := "EnvelopePlanner$Branches", name := "count", desc := "()I" } : Jvm.MethodName) ({ cls := "EnvelopePlanner$Branches", name := "count", desc := "()I" } : Jvm.MethodName)) ∈ wU := wu_3 107 rfl rfl
set_option maxRecDepth 20000 in
theorem u_588 : (Jvm.Cond.code ({ cls := "EnvelopePlanner$Branches", name := "count", desc := "()I" } : Jvm.MethodName) prog_3_method_4_code (3 : Nat) (Option.some Jvm.ClassFile.FieldType.int)) ∈ wU := wu_3 108 rfl rfl
set_option maxRecDepth 20000 in
theorem u_589 : (Jvm.Cond.methodLink "EnvelopePlannerLaw" (141 : Nat) ({ cls := "EnvelopePlannerLaw", name := "addEnvelope", desc := "(LEnvelopePlanner;II[J)I" } : Jvm.MethodName)) ∈ wU := wu_3 109 rfl rfl
set_option maxRecDepth 20000 in
theorem u_590 : (Jvm.Cond.static ({ cls := "EnvelopePlannerLaw", name := "addEnvelope", desc := "(LEnvelopePlanner;II[J)I" } : Jvm.MethodName)) ∈ wU := wu_3 110 rfl rfl
set_option maxRecDepth 20000 in
theorem u_592 : (Jvm.Cond.classLink "EnvelopePlannerLaw" (13 : Nat) "java/lang/IllegalArgumentException") ∈ wU := wu_3 112 rfl rfl
set_option maxRecDepth 20000 in
theorem u_593 : (Jvm.Cond.classLink "EnvelopePlannerLaw" (15 : Nat) "java/lang/IllegalStateException") ∈ wU := wu_3 113 rfl rfl
set_option maxRecDepth 20000 in
theorem u_594 : (Jvm.Cond.methodLink "EnvelopePlannerLaw" (7 : Nat) ({ cls := "EnvelopePlanner", name := "addEnvelope", desc := "(II)I" } : Jvm.MethodName)) ∈ wU := wu_3 114 rfl rfl
set_option maxRecDepth 20000 in
theorem u_595 : (Jvm.Cond.instanceMethod ({ cls := "EnvelopePlanner", name := "addEnvelope", desc := "(II)I" } : Jvm.MethodName)) ∈ wU := wu_3 115 rfl rfl
set_option maxRecDepth 20000 in
theorem u_596 : (Jvm.Cond.selects "EnvelopePlanner" ({ cls := "EnvelopePlanner", name := "addEnvelope", desc := "(II)I" } : Jvm.MethodName) ({ cls := "EnvelopePlanner", name := "addEnvelope", desc := "(II)I" } : Jvm.MethodName)) ∈ wU := wu_3 116 rfl rfl
set_option maxRecDepth 20000 in
theorem u_597 : (Jvm.Cond.code ({ cls := "EnvelopePlanner", name := "addEnvelope", desc := "(II)I" } : Jvm.MethodName) prog_1_method_2_code (3 : Nat) (Option.some Jvm.ClassFile.FieldType.int)) ∈ wU := wu_3 117 rfl rfl
set_option maxRecDepth 20000 in
theorem u_598 : (Jvm.Cond.methodLink "EnvelopePlanner" (37 : Nat) ({ cls := "EnvelopePlanner", name := "answerTo", desc := "(I)I" } : Jvm.MethodName)) ∈ wU := wu_3 118 rfl rfl
set_option maxRecDepth 20000 in
theorem u_600 : (Jvm.Cond.instanceMethod ({ cls := "EnvelopePlanner", name := "answerTo", desc := "(I)I" } : Jvm.MethodName)) ∈ wU := wu_3 120 rfl rfl
set_option maxRecDepth 20000 in
theorem u_601 : (Jvm.Cond.code ({ cls := "EnvelopePlanner", name := "answerTo", desc := "(I)I" } : Jvm.MethodName) prog_1_method_16_code (2 : Nat) (Option.some Jvm.ClassFile.FieldType.int)) ∈ wU := wu_3 121 rfl rfl
set_option maxRecDepth 20000 in
theorem u_602 : (Jvm.Cond.classLink "EnvelopePlanner" (71 : Nat) "java/lang/IndexOutOfBoundsException") ∈ wU := wu_3 122 rfl rfl
set_option maxRecDepth 20000 in
theorem u_603 : (Jvm.Cond.instantiable "java/lang/IndexOutOfBoundsException" (6 : Nat)) ∈ wU := wu_3 123 rfl rfl
set_option maxRecDepth 20000 in
theorem u_611 : (Jvm.Cond.selects "java/lang/IndexOutOfBoundsException" ({ cls := "java/lang/Throwable", name := "fillInStackTrace", desc := "(I)Ljava/lang/Throwable;" } : Jvm.MethodName) ({ cls := "java/lang/Throwable", name := "fillInStackTrace", desc := "(I)Ljava/lang/Throwable;" } : Jvm.MethodName)) ∈ wU := wu_3 131 rfl rfl
set_option maxRecDepth 20000 in
theorem u_612 : (Jvm.Cond.selects "java/lang/IndexOutOfBoundsException" ({ cls := "java/lang/Throwable", name := "fillInStackTrace", desc := "()Ljava/lang/Throwable;" } : Jvm.MethodName) ({ cls := "java/lang/Throwable", name := "fillInStackTrace", desc := "()Ljava/lang/Throwable;" } : Jvm.MethodName)) ∈ wU := wu_3 132 rfl rfl
set_option maxRecDepth 20000 in
theorem u_623 : (Jvm.Cond.fieldLink "java/lang/Throwable" (198 : Nat) "java/lang/Throwable" "backtrace" "Ljava/lang/Object;") ∈ wU := wu_3 143 rfl rfl
set_option maxRecDepth 20000 in
theorem u_625 : (Jvm.Cond.instanceMethod ({ cls := "java/lang/Throwable", name := "<init>", desc := "()V" } : Jvm.MethodName)) ∈ wU := wu_3 145 rfl rfl
set_option maxRecDepth 20000 in
theorem u_626 : (Jvm.Cond.code ({ cls := "java/lang/Throwable", name := "<init>", desc := "()V" } : Jvm.MethodName) prog_23_method_1_code (1 : Nat) (Option.none : Option Jvm.ClassFile.FieldType)) ∈ wU := wu_3 146 rfl rfl
set_option maxRecDepth 20000 in
theorem u_627 : (Jvm.Cond.methodLink "java/lang/Throwable" (1 : Nat) ({ cls := "java/lang/Object", name := "<init>", desc := "()V" } : Jvm.MethodName)) ∈ wU := wu_3 147 rfl rfl
set_option maxRecDepth 20000 in
theorem u_628 : (Jvm.Cond.fieldLink "java/lang/Throwable" (13 : Nat) "java/lang/Throwable" "UNASSIGNED_STACK" "[Ljava/lang/StackTraceElement;") ∈ wU := wu_3 148 rfl rfl
set_option maxRecDepth 20000 in
theorem u_630 : (Jvm.Cond.fieldLink "java/lang/Throwable" (20 : Nat) "java/lang/Throwable" "SUPPRESSED_SENTINEL" "Ljava/util/List;") ∈ wU := wu_3 150 rfl rfl
set_option maxRecDepth 20000 in
theorem u_632 : (Jvm.Cond.methodLink "java/lang/Throwable" (27 : Nat) ({ cls := "java/lang/Throwable", name := "fillInStackTrace", desc := "()Ljava/lang/Throwable;" } : Jvm.MethodName)) ∈ wU := wu_3 152 rfl rfl
set_option maxRecDepth 20000 in
theorem u_633 : (Jvm.Cond.instanceMethod ({ cls := "java/lang/Throwable", name := "fillInStackTrace", desc := "()Ljava/lang/Throwable;" } : Jvm.MethodName)) ∈ wU := wu_3 153 rfl rfl
set_option maxRecDepth 20000 in
theorem u_635 : (Jvm.Cond.selects "java/lang/ArithmeticException" ({ cls := "java/lang/Throwable", name := "fillInStackTrace", desc := "()Ljava/lang/Throwable;" } : Jvm.MethodName) ({ cls := "java/lang/Throwable", name := "fillInStackTrace", desc := "()Ljava/lang/Throwable;" } : Jvm.MethodName)) ∈ wU := wu_3 155 rfl rfl
set_option maxRecDepth 20000 in
theorem u_636 : (Jvm.Cond.selects "java/lang/ArrayIndexOutOfBoundsException" ({ cls := "java/lang/Throwable", name := "fillInStackTrace", desc := "()Ljava/lang/Throwable;" } : Jvm.MethodName) ({ cls := "java/lang/Throwable", name := "fillInStackTrace", desc := "()Ljava/lang/Throwable;" } : Jvm.MethodName)) ∈ wU := wu_3 156 rfl rfl
set_option maxRecDepth 20000 in
theorem u_637 : (Jvm.Cond.selects "java/lang/IllegalArgumentException" ({ cls := "java/lang/Throwable", name := "fillInStackTrace", desc := "()Ljava/lang/Throwable;" } : Jvm.MethodName) ({ cls := "java/lang/Throwable", name := "fillInStackTrace", desc := "()Ljava/lang/Throwable;" } : Jvm.MethodName)) ∈ wU := wu_3 157 rfl rfl
set_option maxRecDepth 20000 in
theorem u_638 : (Jvm.Cond.selects "java/lang/IllegalStateException" ({ cls := "java/lang/Throwable", name := "fillInStackTrace", desc := "()Ljava/lang/Throwable;" } : Jvm.MethodName) ({ cls := "java/lang/Throwable", name := "fillInStackTrace", desc := "()Ljava/lang/Throwable;" } : Jvm.MethodName)) ∈ wU := wu_3 158 rfl rfl
set_option maxRecDepth 20000 in
theorem u_639 : (Jvm.Cond.selects "java/lang/UnsupportedOperationException" ({ cls := "java/lang/Throwable", name := "fillInStackTrace", desc := "()Ljava/lang/Throwable;" } : Jvm.MethodName) ({ cls := "java/lang/Throwable", name := "fillInStackTrace", desc := "()Ljava/lang/Throwable;" } : Jvm.MethodName)) ∈ wU := wu_3 159 rfl rfl
set_option maxRecDepth 20000 in
theorem u_640 : (Jvm.Cond.selects "java/util/NoSuchElementException" ({ cls := "java/lang/Throwable", name := "fillInStackTrace", desc := "()Ljava/lang/Throwable;" } : Jvm.MethodName) ({ cls := "java/lang/Throwable", name := "fillInStackTrace", desc := "()Ljava/lang/Throwable;" } : Jvm.MethodName)) ∈ wU := wu_3 160 rfl rfl
set_option maxRecDepth 20000 in
theorem u_642 : (Jvm.Cond.methodLink "java/lang/Throwable" (202 : Nat) ({ cls := "java/lang/Throwable", name := "fillInStackTrace", desc := "(I)Ljava/lang/Throwable;" } : Jvm.MethodName)) ∈ wU := wu_3 162 rfl rfl
set_option maxRecDepth 20000 in
theorem u_644 : (Jvm.Cond.instanceMethod ({ cls := "java/lang/Throwable", name := "fillInStackTrace", desc := "(I)Ljava/lang/Throwable;" } : Jvm.MethodName)) ∈ wU := wu_3 164 rfl rfl
set_option maxRecDepth 20000 in
theorem u_645 : (Jvm.Cond.instantiable "java/lang/Throwable" (6 : Nat)) ∈ wU := wu_3 165 rfl rfl
set_option maxRecDepth 20000 in
theorem u_646 : (Jvm.Cond.native ({ cls := "java/lang/Throwable", name := "fillInStackTrace", desc := "(I)Ljava/lang/Throwable;" } : Jvm.MethodName)) ∈ wU := wu_3 166 rfl rfl
set_option maxRecDepth 20000 in
theorem u_648 : (Jvm.Cond.methodLink "EnvelopePlanner" (75 : Nat) ({ cls := "java/lang/IndexOutOfBoundsException", name := "<init>", desc := "(Ljava/lang/String;)V" } : Jvm.MethodName)) ∈ wU := wu_3 168 rfl rfl
set_option maxRecDepth 20000 in
theorem u_649 : (Jvm.Cond.instanceMethod ({ cls := "java/lang/IndexOutOfBoundsException", name := "<init>", desc := "(Ljava/lang/String;)V" } : Jvm.MethodName)) ∈ wU := wu_3 169 rfl rfl
set_option maxRecDepth 20000 in
theorem u_650 : (Jvm.Cond.code ({ cls := "java/lang/IndexOutOfBoundsException", name := "<init>", desc := "(Ljava/lang/String;)V" } : Jvm.MethodName) prog_18_method_2_code (2 : Nat) (Option.none : Option Jvm.ClassFile.FieldType)) ∈ wU := wu_3 170 rfl rfl
set_option maxRecDepth 20000 in
theorem u_651 : (Jvm.Cond.methodLink "java/lang/IndexOutOfBoundsException" (7 : Nat) ({ cls := "java/lang/RuntimeException", name := "<init>", desc := "(Ljava/lang/String;)V" } : Jvm.MethodName)) ∈ wU := wu_3 171 rfl rfl
set_option maxRecDepth 20000 in
theorem u_652 : (Jvm.Cond.instanceMethod ({ cls := "java/lang/RuntimeException", name := "<init>", desc := "(Ljava/lang/String;)V" } : Jvm.MethodName)) ∈ wU := wu_3 172 rfl rfl
set_option maxRecDepth 20000 in
theorem u_653 : (Jvm.Cond.code ({ cls := "java/lang/RuntimeException", name := "<init>", desc := "(Ljava/lang/String;)V" } : Jvm.MethodName) prog_20_method_2_code (2 : Nat) (Option.none : Option Jvm.ClassFile.FieldType)) ∈ wU := wu_3 173 rfl rfl
set_option maxRecDepth 20000 in
theorem u_654 : (Jvm.Cond.methodLink "java/lang/RuntimeException" (7 : Nat) ({ cls := "java/lang/Exception", name := "<init>", desc := "(Ljava/lang/String;)V" } : Jvm.MethodName)) ∈ wU := wu_3 174 rfl rfl
set_option maxRecDepth 20000 in
theorem u_655 : (Jvm.Cond.instanceMethod ({ cls := "java/lang/Exception", name := "<init>", desc := "(Ljava/lang/String;)V" } : Jvm.MethodName)) ∈ wU := wu_3 175 rfl rfl
set_option maxRecDepth 20000 in
theorem u_656 : (Jvm.Cond.code ({ cls := "java/lang/Exception", name := "<init>", desc := "(Ljava/lang/String;)V" } : Jvm.MethodName) prog_15_method_2_code (2 : Nat) (Option.none : Option Jvm.ClassFile.FieldType)) ∈ wU := wu_3 176 rfl rfl
set_option maxRecDepth 20000 in
theorem u_657 : (Jvm.Cond.methodLink "java/lang/Exception" (7 : Nat) ({ cls := "java/lang/Throwable", name := "<init>", desc := "(Ljava/lang/String;)V" } : Jvm.MethodName)) ∈ wU := wu_3 177 rfl rfl
set_option maxRecDepth 20000 in
theorem u_658 : (Jvm.Cond.instanceMethod ({ cls := "java/lang/Throwable", name := "<init>", desc := "(Ljava/lang/String;)V" } : Jvm.MethodName)) ∈ wU := wu_3 178 rfl rfl
set_option maxRecDepth 20000 in
theorem u_659 : (Jvm.Cond.code ({ cls := "java/lang/Throwable", name := "<init>", desc := "(Ljava/lang/String;)V" } : Jvm.MethodName) prog_23_method_2_code (2 : Nat) (Option.none : Option Jvm.ClassFile.FieldType)) ∈ wU := wu_3 179 rfl rfl
set_option maxRecDepth 20000 in
theorem u_660 : (Jvm.Cond.fieldLink "java/lang/Throwable" (198 : Nat) "java/lang/Throwable" "backtrace" "Ljava/lang/Object;") ∈ wU := wu_3 180 rfl rfl
set_option maxRecDepth 20000 in
theorem u_661 : (Jvm.Cond.fieldLink "java/lang/Throwable" (31 : Nat) "java/lang/Throwable" "detailMessage" "Ljava/lang/String;") ∈ wU := wu_3 181 rfl rfl
set_option maxRecDepth 20000 in
theorem u_662 : (Jvm.Cond.fieldLink "java/lang/Throwable" (7 : Nat) "java/lang/Throwable" "cause" "Ljava/lang/Throwable;") ∈ wU := wu_3 182 rfl rfl
set_option maxRecDepth 20000 in
theorem u_663 : (Jvm.Cond.fieldLink "java/lang/Throwable" (17 : Nat) "java/lang/Throwable" "stackTrace" "[Ljava/lang/StackTraceElement;") ∈ wU := wu_3 183 rfl rfl
set_option maxRecDepth 20000 in
theorem u_664 : (Jvm.Cond.fieldLink "java/lang/Throwable" (24 : Nat) "java/lang/Throwable" "suppressedExceptions" "Ljava/util/List;") ∈ wU := wu_3 184 rfl rfl
set_option maxRecDepth 20000 in
theorem u_673 : (Jvm.Cond.arrayClass Jvm.ClassFile.FieldType.byte) ∈ wU := wu_3 193 rfl rfl
set_option maxRecDepth 20000 in
theorem u_674 : (Jvm.Cond.classLink "EnvelopePlanner" (78 : Nat) "java/lang/IllegalArgumentException") ∈ wU := wu_3 194 rfl rfl
set_option maxRecDepth 20000 in
theorem u_675 : (Jvm.Cond.instantiable "java/lang/IllegalArgumentException" (6 : Nat)) ∈ wU := wu_3 195 rfl rfl
set_option maxRecDepth 20000 in
theorem u_677 : (Jvm.Cond.selects "java/lang/IllegalArgumentException" ({ cls := "java/lang/Throwable", name := "fillInStackTrace", desc := "(I)Ljava/lang/Throwable;" } : Jvm.MethodName) ({ cls := "java/lang/Throwable", name := "fillInStackTrace", desc := "(I)Ljava/lang/Throwable;" } : Jvm.MethodName)) ∈ wU := wu_3 197 rfl rfl
set_option maxRecDepth 20000 in
theorem u_684 : (Jvm.Cond.methodLink "EnvelopePlanner" (82 : Nat) ({ cls := "java/lang/IllegalArgumentException", name := "<init>", desc := "(Ljava/lang/String;)V" } : Jvm.MethodName)) ∈ wU := wu_3 204 rfl rfl
set_option maxRecDepth 20000 in
theorem u_685 : (Jvm.Cond.instanceMethod ({ cls := "java/lang/IllegalArgumentException", name := "<init>", desc := "(Ljava/lang/String;)V" } : Jvm.MethodName)) ∈ wU := wu_3 205 rfl rfl
set_option maxRecDepth 20000 in
theorem u_686 : (Jvm.Cond.code ({ cls := "java/lang/IllegalArgumentException", name := "<init>", desc := "(Ljava/lang/String;)V" } : Jvm.MethodName) prog_16_method_2_code (2 : Nat) (Option.none : Option Jvm.ClassFile.FieldType)) ∈ wU := wu_3 206 rfl rfl
set_option maxRecDepth 20000 in
theorem u_687 : (Jvm.Cond.methodLink "java/lang/IllegalArgumentException" (7 : Nat) ({ cls := "java/lang/RuntimeException", name := "<init>", desc := "(Ljava/lang/String;)V" } : Jvm.MethodName)) ∈ wU := wu_3 207 rfl rfl
set_option maxRecDepth 20000 in
theorem u_690 : (Jvm.Cond.classLink "EnvelopePlanner" (83 : Nat) "java/lang/IllegalStateException") ∈ wU := wu_3 210 rfl rfl
set_option maxRecDepth 20000 in
theorem u_691 : (Jvm.Cond.instantiable "java/lang/IllegalStateException" (6 : Nat)) ∈ wU := wu_3 211 rfl rfl
set_option maxRecDepth 20000 in
theorem u_693 : (Jvm.Cond.selects "java/lang/IllegalStateException" ({ cls := "java/lang/Throwable", name := "fillInStackTrace", desc := "(I)Ljava/lang/Throwable;" } : Jvm.MethodName) ({ cls := "java/lang/Throwable", name := "fillInStackTrace", desc := "(I)Ljava/lang/Throwable;" } : Jvm.MethodName)) ∈ wU := wu_3 213 rfl rfl
set_option maxRecDepth 20000 in
theorem u_700 : (Jvm.Cond.methodLink "EnvelopePlanner" (87 : Nat) ({ cls := "java/lang/IllegalStateException", name := "<init>", desc := "(Ljava/lang/String;)V" } : Jvm.MethodName)) ∈ wU := wu_3 220 rfl rfl
set_option maxRecDepth 20000 in
theorem u_701 : (Jvm.Cond.instanceMethod ({ cls := "java/lang/IllegalStateException", name := "<init>", desc := "(Ljava/lang/String;)V" } : Jvm.MethodName)) ∈ wU := wu_3 221 rfl rfl
set_option maxRecDepth 20000 in
theorem u_702 : (Jvm.Cond.code ({ cls := "java/lang/IllegalStateException", name := "<init>", desc := "(Ljava/lang/String;)V" } : Jvm.MethodName) prog_17_method_2_code (2 : Nat) (Option.none : Option Jvm.ClassFile.FieldType)) ∈ wU := wu_3 222 rfl rfl
set_option maxRecDepth 20000 in
theorem u_703 : (Jvm.Cond.methodLink "java/lang/IllegalStateException" (7 : Nat) ({ cls := "java/lang/RuntimeException", name := "<init>", desc := "(Ljava/lang/String;)V" } : Jvm.MethodName)) ∈ wU := wu_3 223 rfl rfl
set_option maxRecDepth 20000 in
theorem u_707 : (Jvm.Cond.methodLink "EnvelopePlannerLaw" (150 : Nat) ({ cls := "EnvelopePlannerLaw", name := "setCap", desc := "(LEnvelopePlanner;II[J)I" } : Jvm.MethodName)) ∈ wU := wu_3 227 rfl rfl
set_option maxRecDepth 20000 in
theorem u_708 : (Jvm.Cond.static ({ cls := "EnvelopePlannerLaw", name := "setCap", desc := "(LEnvelopePlanner;II[J)I" } : Jvm.MethodName)) ∈ wU := wu_3 228 rfl rfl
set_option maxRecDepth 20000 in
theorem u_710 : (Jvm.Cond.classLink "EnvelopePlannerLaw" (20 : Nat) "java/lang/IndexOutOfBoundsException") ∈ wU := wu_3 230 rfl rfl
set_option maxRecDepth 20000 in
theorem u_711 : (Jvm.Cond.instantiable "java/lang/ArrayIndexOutOfBoundsException" (6 : Nat)) ∈ wU := wu_3 231 rfl rfl
set_option maxRecDepth 20000 in
theorem u_712 : (Jvm.Cond.instanceMethod ({ cls := "java/lang/ArrayIndexOutOfBoundsException", name := "<init>", desc := "(Ljava/lang/String;)V" } : Jvm.MethodName)) ∈ wU := wu_3 232 rfl rfl
set_option maxRecDepth 20000 in
theorem u_713 : (Jvm.Cond.code ({ cls := "java/lang/ArrayIndexOutOfBoundsException", name := "<init>", desc := "(Ljava/lang/String;)V" } : Jvm.MethodName) prog_14_method_2_code (2 : Nat) (Option.none : Option Jvm.ClassFile.FieldType)) ∈ wU := wu_3 233 rfl rfl
set_option maxRecDepth 20000 in
theorem u_714 : (Jvm.Cond.methodLink "java/lang/ArrayIndexOutOfBoundsException" (7 : Nat) ({ cls := "java/lang/IndexOutOfBoundsException", name := "<init>", desc := "(Ljava/lang/String;)V" } : Jvm.MethodName)) ∈ wU := wu_3 234 rfl rfl
set_option maxRecDepth 20000 in
theorem u_725 : (Jvm.Cond.selects "java/lang/ArrayIndexOutOfBoundsException" ({ cls := "java/lang/Throwable", name := "fillInStackTrace", desc := "(I)Ljava/lang/Throwable;" } : Jvm.MethodName) ({ cls := "java/lang/Throwable", name := "fillInStackTrace", desc := "(I)Ljava/lang/Throwable;" } : Jvm.MethodName)) ∈ wU := wu_4 5 rfl rfl
set_option maxRecDepth 20000 in
theorem u_726 : (Jvm.Cond.instantiable "java/lang/String" (4 : Nat)) ∈ wU := wu_4 6 rfl rfl
set_option maxRecDepth 20000 in
theorem u_731 : (Jvm.Cond.methodLink "EnvelopePlannerLaw" (17 : Nat) ({ cls := "EnvelopePlanner", name := "setCap", desc := "(II)I" } : Jvm.MethodName)) ∈ wU := wu_4 11 rfl rfl
set_option maxRecDepth 20000 in
theorem u_732 : (Jvm.Cond.instanceMethod ({ cls := "EnvelopePlanner", name := "setCap", desc := "(II)I" } : Jvm.MethodName)) ∈ wU := wu_4 12 rfl rfl
set_option maxRecDepth 20000 in
theorem u_733 : (Jvm.Cond.selects "EnvelopePlanner" ({ cls := "EnvelopePlanner", name := "setCap", desc := "(II)I" } : Jvm.MethodName) ({ cls := "EnvelopePlanner", name := "setCap", desc := "(II)I" } : Jvm.MethodName)) ∈ wU := wu_4 13 rfl rfl
set_option maxRecDepth 20000 in
theorem u_734 : (Jvm.Cond.code ({ cls := "EnvelopePlanner", name := "setCap", desc := "(II)I" } : Jvm.MethodName) prog_1_method_3_code (3 : Nat) (Option.some Jvm.ClassFile.FieldType.int)) ∈ wU := wu_4 14 rfl rfl
set_option maxRecDepth 20000 in
theorem u_735 : (Jvm.Cond.methodLink "EnvelopePlannerLaw" (153 : Nat) ({ cls := "EnvelopePlannerLaw", name := "setRollover", desc := "(LEnvelopePlanner;II[J)I" } : Jvm.MethodName)) ∈ wU := wu_4 15 rfl rfl
set_option maxRecDepth 20000 in
theorem u_736 : (Jvm.Cond.static ({ cls := "EnvelopePlannerLaw", name := "setRollover", desc := "(LEnvelopePlanner;II[J)I" } : Jvm.MethodName)) ∈ wU := wu_4 16 rfl rfl
set_option maxRecDepth 20000 in
theorem u_738 : (Jvm.Cond.methodLink "EnvelopePlannerLaw" (22 : Nat) ({ cls := "EnvelopePlanner", name := "setRollover", desc := "(II)I" } : Jvm.MethodName)) ∈ wU := wu_4 18 rfl rfl
set_option maxRecDepth 20000 in
theorem u_739 : (Jvm.Cond.instanceMethod ({ cls := "EnvelopePlanner", name := "setRollover", desc := "(II)I" } : Jvm.MethodName)) ∈ wU := wu_4 19 rfl rfl
set_option maxRecDepth 20000 in
theorem u_740 : (Jvm.Cond.selects "EnvelopePlanner" ({ cls := "EnvelopePlanner", name := "setRollover", desc := "(II)I" } : Jvm.MethodName) ({ cls := "EnvelopePlanner", name := "setRollover", desc := "(II)I" } : Jvm.MethodName)) ∈ wU := wu_4 20 rfl rfl
set_option maxRecDepth 20000 in
theorem u_741 : (Jvm.Cond.code ({ cls := "EnvelopePlanner", name := "setRollover", desc := "(II)I" } : Jvm.MethodName) prog_1_method_4_code (3 : Nat) (Option.some Jvm.ClassFile.FieldType.int)) ∈ wU := wu_4 21 rfl rfl
set_option maxRecDepth 20000 in
theorem u_742 : (Jvm.Cond.methodLink "EnvelopePlannerLaw" (156 : Nat) ({ cls := "EnvelopePlannerLaw", name := "addRule", desc := "(LEnvelopePlanner;III[J)I" } : Jvm.MethodName)) ∈ wU := wu_4 22 rfl rfl
set_option maxRecDepth 20000 in
theorem u_743 : (Jvm.Cond.static ({ cls := "EnvelopePlannerLaw", name := "addRule", desc := "(LEnvelopePlanner;III[J)I" } : Jvm.MethodName)) ∈ wU := wu_4 23 rfl rfl
set_option maxRecDepth 20000 in
theorem u_745 : (Jvm.Cond.methodLink "EnvelopePlannerLaw" (25 : Nat) ({ cls := "EnvelopePlanner", name := "addRule", desc := "(III)I" } : Jvm.MethodName)) ∈ wU := wu_4 25 rfl rfl
set_option maxRecDepth 20000 in
theorem u_746 : (Jvm.Cond.instanceMethod ({ cls := "EnvelopePlanner", name := "addRule", desc := "(III)I" } : Jvm.MethodName)) ∈ wU := wu_4 26 rfl rfl
set_option maxRecDepth 20000 in
theorem u_747 : (Jvm.Cond.selects "EnvelopePlanner" ({ cls := "EnvelopePlanner", name := "addRule", desc := "(III)I" } : Jvm.MethodName) ({ cls := "EnvelopePlanner", name := "addRule", desc := "(III)I" } : Jvm.MethodName)) ∈ wU := wu_4 27 rfl rfl
set_option maxRecDepth 20000 in
theorem u_748 : (Jvm.Cond.code ({ cls := "EnvelopePlanner", name := "addRule", desc := "(III)I" } : Jvm.MethodName) prog_1_method_5_code (4 : Nat) (Option.some Jvm.ClassFile.FieldType.int)) ∈ wU := wu_4 28 rfl rfl
set_option maxRecDepth 20000 in
theorem u_749 : (Jvm.Cond.methodLink "EnvelopePlannerLaw" (160 : Nat) ({ cls := "EnvelopePlannerLaw", name := "removeRule", desc := "(LEnvelopePlanner;I[J)I" } : Jvm.MethodName)) ∈ wU := wu_4 29 rfl rfl
set_option maxRecDepth 20000 in
theorem u_750 : (Jvm.Cond.static ({ cls := "EnvelopePlannerLaw", name := "removeRule", desc := "(LEnvelopePlanner;I[J)I" } : Jvm.MethodName)) ∈ wU := wu_4 30 rfl rfl
set_option maxRecDepth 20000 in
theorem u_752 : (Jvm.Cond.methodLink "EnvelopePlannerLaw" (29 : Nat) ({ cls := "EnvelopePlanner", name := "removeRule", desc := "(I)I" } : Jvm.MethodName)) ∈ wU := wu_4 32 rfl rfl
set_option maxRecDepth 20000 in
theorem u_753 : (Jvm.Cond.instanceMethod ({ cls := "EnvelopePlanner", name := "removeRule", desc := "(I)I" } : Jvm.MethodName)) ∈ wU := wu_4 33 rfl rfl
set_option maxRecDepth 20000 in
theorem u_754 : (Jvm.Cond.selects "EnvelopePlanner" ({ cls := "EnvelopePlanner", name := "removeRule", desc := "(I)I" } : Jvm.MethodName) ({ cls := "EnvelopePlanner", name := "removeRule", desc := "(I)I" } : Jvm.MethodName)) ∈ wU := wu_4 34 rfl rfl
set_option maxRecDepth 20000 in
theorem u_755 : (Jvm.Cond.code ({ cls := "EnvelopePlanner", name := "removeRule", desc := "(I)I" } : Jvm.MethodName) prog_1_method_6_code (2 : Nat) (Option.some Jvm.ClassFile.FieldType.int)) ∈ wU := wu_4 35 rfl rfl
set_option maxRecDepth 20000 in
theorem u_756 : (Jvm.Cond.methodLink "EnvelopePlannerLaw" (164 : Nat) ({ cls := "EnvelopePlannerLaw", name := "addLink", desc := "(LEnvelopePlanner;IIII[J)I" } : Jvm.MethodName)) ∈ wU := wu_4 36 rfl rfl
set_option maxRecDepth 20000 in
theorem u_757 : (Jvm.Cond.static ({ cls := "EnvelopePlannerLaw", name := "addLink", desc := "(LEnvelopePlanner;IIII[J)I" } : Jvm.MethodName)) ∈ wU := wu_4 37 rfl rfl
set_option maxRecDepth 20000 in
theorem u_759 : (Jvm.Cond.methodLink "EnvelopePlannerLaw" (33 : Nat) ({ cls := "EnvelopePlanner", name := "addLink", desc := "(IIII)I" } : Jvm.MethodName)) ∈ wU := wu_4 39 rfl rfl
set_option maxRecDepth 20000 in
theorem u_760 : (Jvm.Cond.instanceMethod ({ cls := "EnvelopePlanner", name := "addLink", desc := "(IIII)I" } : Jvm.MethodName)) ∈ wU := wu_4 40 rfl rfl
set_option maxRecDepth 20000 in
theorem u_761 : (Jvm.Cond.selects "EnvelopePlanner" ({ cls := "EnvelopePlanner", name := "addLink", desc := "(IIII)I" } : Jvm.MethodName) ({ cls := "EnvelopePlanner", name := "addLink", desc := "(IIII)I" } : Jvm.MethodName)) ∈ wU := wu_4 41 rfl rfl
set_option maxRecDepth 20000 in
theorem u_762 : (Jvm.Cond.code ({ cls := "EnvelopePlanner", name := "addLink", desc := "(IIII)I" } : Jvm.MethodName) prog_1_method_7_code (5 : Nat) (Option.some Jvm.ClassFile.FieldType.int)) ∈ wU := wu_4 42 rfl rfl
set_option maxRecDepth 20000 in
theorem u_763 : (Jvm.Cond.methodLink "EnvelopePlannerLaw" (168 : Nat) ({ cls := "EnvelopePlannerLaw", name := "removeLink", desc := "(LEnvelopePlanner;I[J)I" } : Jvm.MethodName)) ∈ wU := wu_4 43 rfl rfl
set_option maxRecDepth 20000 in
theorem u_764 : (Jvm.Cond.static ({ cls := "EnvelopePlannerLaw", name := "removeLink", desc := "(LEnvelopePlanner;I[J)I" } : Jvm.MethodName)) ∈ wU := wu_4 44 rfl rfl
set_option maxRecDepth 20000 in
theorem u_766 : (Jvm.Cond.methodLink "EnvelopePlannerLaw" (37 : Nat) ({ cls := "EnvelopePlanner", name := "removeLink", desc := "(I)I" } : Jvm.MethodName)) ∈ wU := wu_4 46 rfl rfl
set_option maxRecDepth 20000 in
theorem u_767 : (Jvm.Cond.instanceMethod ({ cls := "EnvelopePlanner", name := "removeLink", desc := "(I)I" } : Jvm.MethodName)) ∈ wU := wu_4 47 rfl rfl
set_option maxRecDepth 20000 in
theorem u_768 : (Jvm.Cond.selects "EnvelopePlanner" ({ cls := "EnvelopePlanner", name := "removeLink", desc := "(I)I" } : Jvm.MethodName) ({ cls := "EnvelopePlanner", name := "removeLink", desc := "(I)I" } : Jvm.MethodName)) ∈ wU := wu_4 48 rfl rfl
set_option maxRecDepth 20000 in
theorem u_769 : (Jvm.Cond.code ({ cls := "EnvelopePlanner", name := "removeLink", desc := "(I)I" } : Jvm.MethodName) prog_1_method_8_code (2 : Nat) (Option.some Jvm.ClassFile.FieldType.int)) ∈ wU := wu_4 49 rfl rfl
set_option maxRecDepth 20000 in
theorem u_770 : (Jvm.Cond.methodLink "EnvelopePlannerLaw" (171 : Nat) ({ cls := "EnvelopePlannerLaw", name := "addItem", desc := "(LEnvelopePlanner;IIII[J)I" } : Jvm.MethodName)) ∈ wU := wu_4 50 rfl rfl
set_option maxRecDepth 20000 in
theorem u_771 : (Jvm.Cond.static ({ cls := "EnvelopePlannerLaw", name := "addItem", desc := "(LEnvelopePlanner;IIII[J)I" } : Jvm.MethodName)) ∈ wU := wu_4 51 rfl rfl
set_option maxRecDepth 20000 in
theorem u_773 : (Jvm.Cond.methodLink "EnvelopePlannerLaw" (40 : Nat) ({ cls := "EnvelopePlanner", name := "addItem", desc := "(IIII)I" } : Jvm.MethodName)) ∈ wU := wu_4 53 rfl rfl
set_option maxRecDepth 20000 in
theorem u_774 : (Jvm.Cond.instanceMethod ({ cls := "EnvelopePlanner", name := "addItem", desc := "(IIII)I" } : Jvm.MethodName)) ∈ wU := wu_4 54 rfl rfl
set_option maxRecDepth 20000 in
theorem u_775 : (Jvm.Cond.selects "EnvelopePlanner" ({ cls := "EnvelopePlanner", name := "addItem", desc := "(IIII)I" } : Jvm.MethodName) ({ cls := "EnvelopePlanner", name := "addItem", desc := "(IIII)I" } : Jvm.MethodName)) ∈ wU := wu_4 55 rfl rfl
set_option maxRecDepth 20000 in
theorem u_776 : (Jvm.Cond.code ({ cls := "EnvelopePlanner", name := "addItem", desc := "(IIII)I" } : Jvm.MethodName) prog_1_method_9_code (5 : Nat) (Option.some Jvm.ClassFile.FieldType.int)) ∈ wU := wu_4 56 rfl rfl
set_option maxRecDepth 20000 in
theorem u_777 : (Jvm.Cond.methodLink "EnvelopePlannerLaw" (174 : Nat) ({ cls := "EnvelopePlannerLaw", name := "removeItem", desc := "(LEnvelopePlanner;I[J)I" } : Jvm.MethodName)) ∈ wU := wu_4 57 rfl rfl
set_option maxRecDepth 20000 in
theorem u_778 : (Jvm.Cond.static ({ cls := "EnvelopePlannerLaw", name := "removeItem", desc := "(LEnvelopePlanner;I[J)I" } : Jvm.MethodName)) ∈ wU := wu_4 58 rfl rfl
set_option maxRecDepth 20000 in
theorem u_780 : (Jvm.Cond.methodLink "EnvelopePlannerLaw" (43 : Nat) ({ cls := "EnvelopePlanner", name := "removeItem", desc := "(I)I" } : Jvm.MethodName)) ∈ wU := wu_4 60 rfl rfl
set_option maxRecDepth 20000 in
theorem u_781 : (Jvm.Cond.instanceMethod ({ cls := "EnvelopePlanner", name := "removeItem", desc := "(I)I" } : Jvm.MethodName)) ∈ wU := wu_4 61 rfl rfl
set_option maxRecDepth 20000 in
theorem u_782 : (Jvm.Cond.selects "EnvelopePlanner" ({ cls := "EnvelopePlanner", name := "removeItem", desc := "(I)I" } : Jvm.MethodName) ({ cls := "EnvelopePlanner", name := "removeItem", desc := "(I)I" } : Jvm.MethodName)) ∈ wU := wu_4 62 rfl rfl
set_option maxRecDepth 20000 in
theorem u_783 : (Jvm.Cond.code ({ cls := "EnvelopePlanner", name := "removeItem", desc := "(I)I" } : Jvm.MethodName) prog_1_method_10_code (2 : Nat) (Option.some Jvm.ClassFile.FieldType.int)) ∈ wU := wu_4 63 rfl rfl
set_option maxRecDepth 20000 in
theorem u_784 : (Jvm.Cond.methodLink "EnvelopePlannerLaw" (177 : Nat) ({ cls := "EnvelopePlannerLaw", name := "receive", desc := "(LEnvelopePlanner;I[J)I" } : Jvm.MethodName)) ∈ wU := wu_4 64 rfl rfl
set_option maxRecDepth 20000 in
theorem u_785 : (Jvm.Cond.static ({ cls := "EnvelopePlannerLaw", name := "receive", desc := "(LEnvelopePlanner;I[J)I" } : Jvm.MethodName)) ∈ wU := wu_4 65 rfl rfl
set_option maxRecDepth 20000 in
theorem u_787 : (Jvm.Cond.methodLink "EnvelopePlannerLaw" (46 : Nat) ({ cls := "EnvelopePlanner", name := "receive", desc := "(I)I" } : Jvm.MethodName)) ∈ wU := wu_4 67 rfl rfl
set_option maxRecDepth 20000 in
theorem u_788 : (Jvm.Cond.instanceMethod ({ cls := "EnvelopePlanner", name := "receive", desc := "(I)I" } : Jvm.MethodName)) ∈ wU := wu_4 68 rfl rfl
set_option maxRecDepth 20000 in
theorem u_789 : (Jvm.Cond.selects "EnvelopePlanner" ({ cls := "EnvelopePlanner", name := "receive", desc := "(I)I" } : Jvm.MethodName) ({ cls := "EnvelopePlanner", name := "receive", desc := "(I)I" } : Jvm.MethodName)) ∈ wU := wu_4 69 rfl rfl
set_option maxRecDepth 20000 in
theorem u_790 : (Jvm.Cond.code ({ cls := "EnvelopePlanner", name := "receive", desc := "(I)I" } : Jvm.MethodName) prog_1_method_11_code (2 : Nat) (Option.some Jvm.ClassFile.FieldType.int)) ∈ wU := wu_4 70 rfl rfl
set_option maxRecDepth 20000 in
theorem u_791 : (Jvm.Cond.methodLink "EnvelopePlannerLaw" (180 : Nat) ({ cls := "EnvelopePlannerLaw", name := "spend", desc := "(LEnvelopePlanner;II[J)I" } : Jvm.MethodName)) ∈ wU := wu_4 71 rfl rfl
set_option maxRecDepth 20000 in
theorem u_792 : (Jvm.Cond.static ({ cls := "EnvelopePlannerLaw", name := "spend", desc := "(LEnvelopePlanner;II[J)I" } : Jvm.MethodName)) ∈ wU := wu_4 72 rfl rfl
set_option maxRecDepth 20000 in
theorem u_794 : (Jvm.Cond.methodLink "EnvelopePlannerLaw" (49 : Nat) ({ cls := "EnvelopePlanner", name := "spend", desc := "(II)I" } : Jvm.MethodName)) ∈ wU := wu_4 74 rfl rfl
set_option maxRecDepth 20000 in
theorem u_795 : (Jvm.Cond.instanceMethod ({ cls := "EnvelopePlanner", name := "spend", desc := "(II)I" } : Jvm.MethodName)) ∈ wU := wu_4 75 rfl rfl
set_option maxRecDepth 20000 in
theorem u_796 : (Jvm.Cond.selects "EnvelopePlanner" ({ cls := "EnvelopePlanner", name := "spend", desc := "(II)I" } : Jvm.MethodName) ({ cls := "EnvelopePlanner", name := "spend", desc := "(II)I" } : Jvm.MethodName)) ∈ wU := wu_4 76 rfl rfl
set_option maxRecDepth 20000 in
theorem u_797 : (Jvm.Cond.code ({ cls := "EnvelopePlanner", name := "spend", desc := "(II)I" } : Jvm.MethodName) prog_1_method_12_code (3 : Nat) (Option.some Jvm.ClassFile.FieldType.int)) ∈ wU := wu_4 77 rfl rfl
set_option maxRecDepth 20000 in
theorem u_798 : (Jvm.Cond.methodLink "EnvelopePlannerLaw" (183 : Nat) ({ cls := "EnvelopePlannerLaw", name := "move", desc := "(LEnvelopePlanner;III[J)I" } : Jvm.MethodName)) ∈ wU := wu_4 78 rfl rfl
set_option maxRecDepth 20000 in
theorem u_799 : (Jvm.Cond.static ({ cls := "EnvelopePlannerLaw", name := "move", desc := "(LEnvelopePlanner;III[J)I" } : Jvm.MethodName)) ∈ wU := wu_4 79 rfl rfl
set_option maxRecDepth 20000 in
theorem u_801 : (Jvm.Cond.methodLink "EnvelopePlannerLaw" (52 : Nat) ({ cls := "EnvelopePlanner", name := "move", desc := "(III)I" } : Jvm.MethodName)) ∈ wU := wu_4 81 rfl rfl
set_option maxRecDepth 20000 in
theorem u_802 : (Jvm.Cond.instanceMethod ({ cls := "EnvelopePlanner", name := "move", desc := "(III)I" } : Jvm.MethodName)) ∈ wU := wu_4 82 rfl rfl
set_option maxRecDepth 20000 in
theorem u_803 : (Jvm.Cond.selects "EnvelopePlanner" ({ cls := "EnvelopePlanner", name := "move", desc := "(III)I" } : Jvm.MethodName) ({ cls := "EnvelopePlanner", name := "move", desc := "(III)I" } : Jvm.MethodName)) ∈ wU := wu_4 83 rfl rfl
set_option maxRecDepth 20000 in
theorem u_804 : (Jvm.Cond.code ({ cls := "EnvelopePlanner", name := "move", desc := "(III)I" } : Jvm.MethodName) prog_1_method_13_code (4 : Nat) (Option.some Jvm.ClassFile.FieldType.int)) ∈ wU := wu_4 84 rfl rfl
set_option maxRecDepth 20000 in
theorem u_805 : (Jvm.Cond.methodLink "EnvelopePlannerLaw" (186 : Nat) ({ cls := "EnvelopePlannerLaw", name := "advance", desc := "(LEnvelopePlanner;I[J)I" } : Jvm.MethodName)) ∈ wU := wu_4 85 rfl rfl
set_option maxRecDepth 20000 in
theorem u_806 : (Jvm.Cond.static ({ cls := "EnvelopePlannerLaw", name := "advance", desc := "(LEnvelopePlanner;I[J)I" } : Jvm.MethodName)) ∈ wU := wu_4 86 rfl rfl
set_option maxRecDepth 20000 in
theorem u_808 : (Jvm.Cond.methodLink "EnvelopePlannerLaw" (55 : Nat) ({ cls := "EnvelopePlanner", name := "advance", desc := "(I)I" } : Jvm.MethodName)) ∈ wU := wu_4 88 rfl rfl
set_option maxRecDepth 20000 in
theorem u_809 : (Jvm.Cond.instanceMethod ({ cls := "EnvelopePlanner", name := "advance", desc := "(I)I" } : Jvm.MethodName)) ∈ wU := wu_4 89 rfl rfl
set_option maxRecDepth 20000 in
theorem u_810 : (Jvm.Cond.selects "EnvelopePlanner" ({ cls := "EnvelopePlanner", name := "advance", desc := "(I)I" } : Jvm.MethodName) ({ cls := "EnvelopePlanner", name := "advance", desc := "(I)I" } : Jvm.MethodName)) ∈ wU := wu_4 90 rfl rfl
set_option maxRecDepth 20000 in
theorem u_811 : (Jvm.Cond.code ({ cls := "EnvelopePlanner", name := "advance", desc := "(I)I" } : Jvm.MethodName) prog_1_method_14_code (2 : Nat) (Option.some Jvm.ClassFile.FieldType.int)) ∈ wU := wu_4 91 rfl rfl
set_option maxRecDepth 20000 in
theorem u_812 : (Jvm.Cond.methodLink "EnvelopePlannerLaw" (189 : Nat) ({ cls := "EnvelopePlannerLaw", name := "envelope", desc := "(LEnvelopePlanner;II[J)I" } : Jvm.MethodName)) ∈ wU := wu_4 92 rfl rfl
set_option maxRecDepth 20000 in
theorem u_813 : (Jvm.Cond.static ({ cls := "EnvelopePlannerLaw", name := "envelope", desc := "(LEnvelopePlanner;II[J)I" } : Jvm.MethodName)) ∈ wU := wu_4 93 rfl rfl
set_option maxRecDepth 20000 in
theorem u_815 : (Jvm.Cond.methodLink "EnvelopePlannerLaw" (58 : Nat) ({ cls := "EnvelopePlanner", name := "envelope", desc := "(II)J" } : Jvm.MethodName)) ∈ wU := wu_4 95 rfl rfl
set_option maxRecDepth 20000 in
theorem u_816 : (Jvm.Cond.instanceMethod ({ cls := "EnvelopePlanner", name := "envelope", desc := "(II)J" } : Jvm.MethodName)) ∈ wU := wu_4 96 rfl rfl
set_option maxRecDepth 20000 in
theorem u_817 : (Jvm.Cond.selects "EnvelopePlanner" ({ cls := "EnvelopePlanner", name := "envelope", desc := "(II)J" } : Jvm.MethodName) ({ cls := "EnvelopePlanner", name := "envelope", desc := "(II)J" } : Jvm.MethodName)) ∈ wU := wu_4 97 rfl rfl
set_option maxRecDepth 20000 in
theorem u_818 : (Jvm.Cond.code ({ cls := "EnvelopePlanner", name := "envelope", desc := "(II)J" } : Jvm.MethodName) prog_1_method_17_code (4 : Nat) (Option.some Jvm.ClassFile.FieldType.long)) ∈ wU := wu_4 98 rfl rfl
set_option maxRecDepth 20000 in
theorem u_819 : (Jvm.Cond.methodLink "EnvelopePlanner" (94 : Nat) ({ cls := "EnvelopePlanner$Envelopes", name := "has", desc := "(I)Z" } : Jvm.MethodName)) ∈ wU := wu_4 99 rfl rfl
set_option maxRecDepth 20000 in
theorem u_820 : (Jvm.Cond.methodLink "EnvelopePlanner" (100 : Nat) ({ cls := "EnvelopePlanner", name := "requirePart", desc := "(Z)V" } : Jvm.MethodName)) ∈ wU := wu_4 100 rfl rfl
set_option maxRecDepth 20000 in
theorem u_821 : (Jvm.Cond.static ({ cls := "EnvelopePlanner", name := "requirePart", desc := "(Z)V" } : Jvm.MethodName)) ∈ wU := wu_4 101 rfl rfl
set_option maxRecDepth 20000 in
theorem u_822 : (Jvm.Cond.code ({ cls := "EnvelopePlanner", name := "requirePart", desc := "(Z)V" } : Jvm.MethodName) prog_1_method_45_code (1 : Nat) (Option.none : Option Jvm.ClassFile.FieldType)) ∈ wU := wu_4 102 rfl rfl
set_option maxRecDepth 20000 in
theorem u_824 : (Jvm.Cond.methodLink "EnvelopePlanner" (104 : Nat) ({ cls := "EnvelopePlanner", name := "isWithin", desc := "(III)Z" } : Jvm.MethodName)) ∈ wU := wu_4 104 rfl rfl
set_option maxRecDepth 20000 in
theorem u_825 : (Jvm.Cond.methodLink "EnvelopePlanner" (108 : Nat) ({ cls := "EnvelopePlanner", name := "requireRange", desc := "(Z)V" } : Jvm.MethodName)) ∈ wU := wu_4 105 rfl rfl
set_option maxRecDepth 20000 in
theorem u_826 : (Jvm.Cond.static ({ cls := "EnvelopePlanner", name := "requireRange", desc := "(Z)V" } : Jvm.MethodName)) ∈ wU := wu_4 106 rfl rfl
set_option maxRecDepth 20000 in
theorem u_827 : (Jvm.Cond.code ({ cls := "EnvelopePlanner", name := "requireRange", desc := "(Z)V" } : Jvm.MethodName) prog_1_method_46_code (1 : Nat) (Option.none : Option Jvm.ClassFile.FieldType)) ∈ wU := wu_4 107 rfl rfl
set_option maxRecDepth 20000 in
theorem u_828 : (Jvm.Cond.methodLink "EnvelopePlanner" (111 : Nat) ({ cls := "EnvelopePlanner$Envelopes", name := "numberOf", desc := "(II)J" } : Jvm.MethodName)) ∈ wU := wu_4 108 rfl rfl
set_option maxRecDepth 20000 in
theorem u_829 : (Jvm.Cond.instanceMethod ({ cls := "EnvelopePlanner$Envelopes", name := "numberOf", desc := "(II)J" } : Jvm.MethodName)) ∈ wU := wu_4 109 rfl rfl
set_option maxRecDepth 20000 in
theorem u_830 : (Jvm.Cond.selects "EnvelopePlanner$Envelopes" ({ cls := "EnvelopePlanner$Envelopes", name := "numberOf", desc := "(II)J" } : Jvm.MethodName) ({ cls := "EnvelopePlanner$Envelopes", name := "numberOf", desc := "(II)J" } : Jvm.MethodName)) ∈ wU := wu_4 110 rfl rfl
set_option maxRecDepth 20000 in
theorem u_831 : (Jvm.Cond.code ({ cls := "EnvelopePlanner$Envelopes", name := "numberOf", desc := "(II)J" } : Jvm.MethodName) prog_4_method_13_code (3 : Nat) (Option.some Jvm.ClassFile.FieldType.long)) ∈ wU := wu_4 111 rfl rfl
set_option maxRecDepth 20000 in
theorem u_832 : (Jvm.Cond.constantLong "EnvelopePlanner$Envelopes" (35 : Nat) (-1 : Int64)) ∈ wU := wu_4 112 rfl rfl
set_option maxRecDepth 20000 in
theorem u_833 : (Jvm.Cond.methodLink "EnvelopePlanner$Envelopes" (37 : Nat) ({ cls := "java/lang/Math", name := "max", desc := "(JJ)J" } : Jvm.MethodName)) ∈ wU := wu_4 113 rfl rfl
set_option maxRecDepth 20000 in
theorem u_834 : (Jvm.Cond.static ({ cls := "java/lang/Math", name := "max", desc := "(JJ)J" } : Jvm.MethodName)) ∈ wU := wu_4 114 rfl rfl
set_option maxRecDepth 20000 in
theorem u_835 : (Jvm.Cond.code ({ cls := "java/lang/Math", name := "max", desc := "(JJ)J" } : Jvm.MethodName) prog_19_method_66_code (4 : Nat) (Option.some Jvm.ClassFile.FieldType.long)) ∈ wU := wu_4 115 rfl rfl
set_option maxRecDepth 20000 in
theorem u_836 : (Jvm.Cond.methodLink "EnvelopePlannerLaw" (192 : Nat) ({ cls := "EnvelopePlannerLaw", name := "rule", desc := "(LEnvelopePlanner;II[J)I" } : Jvm.MethodName)) ∈ wU := wu_4 116 rfl rfl
set_option maxRecDepth 20000 in
theorem u_837 : (Jvm.Cond.static ({ cls := "EnvelopePlannerLaw", name := "rule", desc := "(LEnvelopePlanner;II[J)I" } : Jvm.MethodName)) ∈ wU := wu_4 117 rfl rfl
set_option maxRecDepth 20000 in
theorem u_839 : (Jvm.Cond.methodLink "EnvelopePlannerLaw" (62 : Nat) ({ cls := "EnvelopePlanner", name := "rule", desc := "(II)I" } : Jvm.MethodName)) ∈ wU := wu_4 119 rfl rfl
set_option maxRecDepth 20000 in
theorem u_840 : (Jvm.Cond.instanceMethod ({ cls := "EnvelopePlanner", name := "rule", desc := "(II)I" } : Jvm.MethodName)) ∈ wU := wu_4 120 rfl rfl
set_option maxRecDepth 20000 in
theorem u_841 : (Jvm.Cond.selects "EnvelopePlanner" ({ cls := "EnvelopePlanner", name := "rule", desc := "(II)I" } : Jvm.MethodName) ({ cls := "EnvelopePlanner", name := "rule", desc := "(II)I" } : Jvm.MethodName)) ∈ wU := wu_4 121 rfl rfl
set_option maxRecDepth 20000 in
theorem u_842 : (Jvm.Cond.code ({ cls := "EnvelopePlanner", name := "rule", desc := "(II)I" } : Jvm.MethodName) prog_1_method_18_code (4 : Nat) (Option.some Jvm.ClassFile.FieldType.int)) ∈ wU := wu_4 122 rfl rfl
set_option maxRecDepth 20000 in
theorem u_843 : (Jvm.Cond.methodLink "EnvelopePlanner" (119 : Nat) ({ cls := "EnvelopePlanner$Rules", name := "has", desc := "(I)Z" } : Jvm.MethodName)) ∈ wU := wu_4 123 rfl rfl
set_option maxRecDepth 20000 in
theorem u_844 : (Jvm.Cond.methodLink "EnvelopePlanner" (122 : Nat) ({ cls := "EnvelopePlanner$Rules", name := "numberOf", desc := "(II)I" } : Jvm.MethodName)) ∈ wU := wu_4 124 rfl rfl
set_option maxRecDepth 20000 in
theorem u_845 : (Jvm.Cond.instanceMethod ({ cls := "EnvelopePlanner$Rules", name := "numberOf", desc := "(II)I" } : Jvm.MethodName)) ∈ wU := wu_4 125 rfl rfl
set_option maxRecDepth 20000 in
theorem u_846 : (Jvm.Cond.selects "EnvelopePlanner$Rules" ({ cls := "EnvelopePlanner$Rules", name := "numberOf", desc := "(II)I" } : Jvm.MethodName) ({ cls := "EnvelopePlanner$Rules", name := "numberOf", desc := "(II)I" } : Jvm.MethodName)) ∈ wU := wu_4 126 rfl rfl
set_option maxRecDepth 20000 in
theorem u_847 : (Jvm.Cond.code ({ cls := "EnvelopePlanner$Rules", name := "numberOf", desc := "(II)I" } : Jvm.MethodName) prog_9_method_6_code (3 : Nat) (Option.some Jvm.ClassFile.FieldType.int)) ∈ wU := wu_4 127 rfl rfl
set_option maxRecDepth 20000 in
theorem u_848 : (Jvm.Cond.methodLink "EnvelopePlannerLaw" (195 : Nat) ({ cls := "EnvelopePlannerLaw", name := "split", desc := "(LEnvelopePlanner;II[J)I" } : Jvm.MethodName)) ∈ wU := wu_4 128 rfl rfl
set_option maxRecDepth 20000 in
theorem u_849 : (Jvm.Cond.static ({ cls := "EnvelopePlannerLaw", name := "split", desc := "(LEnvelopePlanner;II[J)I" } : Jvm.MethodName)) ∈ wU := wu_4 129 rfl rfl
set_option maxRecDepth 20000 in
theorem u_851 : (Jvm.Cond.methodLink "EnvelopePlannerLaw" (65 : Nat) ({ cls := "EnvelopePlanner", name := "split", desc := "(II)I" } : Jvm.MethodName)) ∈ wU := wu_4 131 rfl rfl
set_option maxRecDepth 20000 in
theorem u_852 : (Jvm.Cond.instanceMethod ({ cls := "EnvelopePlanner", name := "split", desc := "(II)I" } : Jvm.MethodName)) ∈ wU := wu_4 132 rfl rfl
set_option maxRecDepth 20000 in
theorem u_853 : (Jvm.Cond.selects "EnvelopePlanner" ({ cls := "EnvelopePlanner", name := "split", desc := "(II)I" } : Jvm.MethodName) ({ cls := "EnvelopePlanner", name := "split", desc := "(II)I" } : Jvm.MethodName)) ∈ wU := wu_4 133 rfl rfl
set_option maxRecDepth 20000 in
theorem u_854 : (Jvm.Cond.code ({ cls := "EnvelopePlanner", name := "split", desc := "(II)I" } : Jvm.MethodName) prog_1_method_19_code (4 : Nat) (Option.some Jvm.ClassFile.FieldType.int)) ∈ wU := wu_4 134 rfl rfl
set_option maxRecDepth 20000 in
theorem u_855 : (Jvm.Cond.methodLink "EnvelopePlanner" (125 : Nat) ({ cls := "EnvelopePlanner$Plan", name := "isPlace", desc := "(I)Z" } : Jvm.MethodName)) ∈ wU := wu_4 135 rfl rfl
set_option maxRecDepth 20000 in
theorem u_856 : (Jvm.Cond.constant "EnvelopePlanner" (128 : Nat) (1000000 : Int32)) ∈ wU := wu_4 136 rfl rfl
set_option maxRecDepth 20000 in
theorem u_857 : (Jvm.Cond.methodLink "EnvelopePlanner" (129 : Nat) ({ cls := "EnvelopePlanner$Plan", name := "copyFrom", desc := "(LEnvelopePlanner$Plan;)V" } : Jvm.MethodName)) ∈ wU := wu_4 137 rfl rfl
set_option maxRecDepth 20000 in
theorem u_858 : (Jvm.Cond.methodLink "EnvelopePlanner" (133 : Nat) ({ cls := "EnvelopePlanner$Plan", name := "takeIncome", desc := "(I)J" } : Jvm.MethodName)) ∈ wU := wu_4 138 rfl rfl
set_option maxRecDepth 20000 in
theorem u_859 : (Jvm.Cond.methodLink "EnvelopePlanner" (137 : Nat) ({ cls := "EnvelopePlanner$Plan", name := "moneyIn", desc := "(I)J" } : Jvm.MethodName)) ∈ wU := wu_4 139 rfl rfl
set_option maxRecDepth 20000 in
theorem u_860 : (Jvm.Cond.methodLink "EnvelopePlannerLaw" (198 : Nat) ({ cls := "EnvelopePlannerLaw", name := "link", desc := "(LEnvelopePlanner;II[J)I" } : Jvm.MethodName)) ∈ wU := wu_4 140 rfl rfl
set_option maxRecDepth 20000 in
theorem u_861 : (Jvm.Cond.static ({ cls := "EnvelopePlannerLaw", name := "link", desc := "(LEnvelopePlanner;II[J)I" } : Jvm.MethodName)) ∈ wU := wu_4 141 rfl rfl
set_option maxRecDepth 20000 in
theorem u_863 : (Jvm.Cond.methodLink "EnvelopePlannerLaw" (68 : Nat) ({ cls := "EnvelopePlanner", name := "link", desc := "(II)J" } : Jvm.MethodName)) ∈ wU := wu_4 143 rfl rfl
set_option maxRecDepth 20000 in
theorem u_864 : (Jvm.Cond.instanceMethod ({ cls := "EnvelopePlanner", name := "link", desc := "(II)J" } : Jvm.MethodName)) ∈ wU := wu_4 144 rfl rfl
set_option maxRecDepth 20000 in
theorem u_865 : (Jvm.Cond.selects "EnvelopePlanner" ({ cls := "EnvelopePlanner", name := "link", desc := "(II)J" } : Jvm.MethodName) ({ cls := "EnvelopePlanner", name := "link", desc := "(II)J" } : Jvm.MethodName)) ∈ wU := wu_4 145 rfl rfl
set_option maxRecDepth 20000 in
theorem u_866 : (Jvm.Cond.code ({ cls := "EnvelopePlanner", name := "link", desc := "(II)J" } : Jvm.MethodName) prog_1_method_20_code (4 : Nat) (Option.some Jvm.ClassFile.FieldType.long)) ∈ wU := wu_4 146 rfl rfl
set_option maxRecDepth 20000 in
theorem u_867 : (Jvm.Cond.methodLink "EnvelopePlanner" (144 : Nat) ({ cls := "EnvelopePlanner$Links", name := "has", desc := "(I)Z" } : Jvm.MethodName)) ∈ wU := wu_4 147 rfl rfl
set_option maxRecDepth 20000 in
theorem u_868 : (Jvm.Cond.methodLink "EnvelopePlanner" (147 : Nat) ({ cls := "EnvelopePlanner$Links", name := "numberOf", desc := "(II)J" } : Jvm.MethodName)) ∈ wU := wu_4 148 rfl rfl
set_option maxRecDepth 20000 in
theorem u_869 : (Jvm.Cond.instanceMethod ({ cls := "EnvelopePlanner$Links", name := "numberOf", desc := "(II)J" } : Jvm.MethodName)) ∈ wU := wu_4 149 rfl rfl
set_option maxRecDepth 20000 in
theorem u_870 : (Jvm.Cond.selects "EnvelopePlanner$Links" ({ cls := "EnvelopePlanner$Links", name := "numberOf", desc := "(II)J" } : Jvm.MethodName) ({ cls := "EnvelopePlanner$Links", name := "numberOf", desc := "(II)J" } : Jvm.MethodName)) ∈ wU := wu_4 150 rfl rfl
set_option maxRecDepth 20000 in
theorem u_871 : (Jvm.Cond.code ({ cls := "EnvelopePlanner$Links", name := "numberOf", desc := "(II)J" } : Jvm.MethodName) prog_6_method_5_code (3 : Nat) (Option.some Jvm.ClassFile.FieldType.long)) ∈ wU := wu_4 151 rfl rfl
set_option maxRecDepth 20000 in
theorem u_872 : (Jvm.Cond.methodLink "EnvelopePlannerLaw" (201 : Nat) ({ cls := "EnvelopePlannerLaw", name := "item", desc := "(LEnvelopePlanner;II[J)I" } : Jvm.MethodName)) ∈ wU := wu_4 152 rfl rfl
set_option maxRecDepth 20000 in
theorem u_873 : (Jvm.Cond.static ({ cls := "EnvelopePlannerLaw", name := "item", desc := "(LEnvelopePlanner;II[J)I" } : Jvm.MethodName)) ∈ wU := wu_4 153 rfl rfl
set_option maxRecDepth 20000 in
theorem u_875 : (Jvm.Cond.methodLink "EnvelopePlannerLaw" (71 : Nat) ({ cls := "EnvelopePlanner", name := "item", desc := "(II)I" } : Jvm.MethodName)) ∈ wU := wu_4 155 rfl rfl
set_option maxRecDepth 20000 in
theorem u_876 : (Jvm.Cond.instanceMethod ({ cls := "EnvelopePlanner", name := "item", desc := "(II)I" } : Jvm.MethodName)) ∈ wU := wu_4 156 rfl rfl
set_option maxRecDepth 20000 in
theorem u_877 : (Jvm.Cond.selects "EnvelopePlanner" ({ cls := "EnvelopePlanner", name := "item", desc := "(II)I" } : Jvm.MethodName) ({ cls := "EnvelopePlanner", name := "item", desc := "(II)I" } : Jvm.MethodName)) ∈ wU := wu_4 157 rfl rfl
set_option maxRecDepth 20000 in
theorem u_878 : (Jvm.Cond.code ({ cls := "EnvelopePlanner", name := "item", desc := "(II)I" } : Jvm.MethodName) prog_1_method_21_code (4 : Nat) (Option.some Jvm.ClassFile.FieldType.int)) ∈ wU := wu_4 158 rfl rfl
set_option maxRecDepth 20000 in
theorem u_879 : (Jvm.Cond.methodLink "EnvelopePlanner" (152 : Nat) ({ cls := "EnvelopePlanner$Items", name := "has", desc := "(I)Z" } : Jvm.MethodName)) ∈ wU := wu_4 159 rfl rfl
set_option maxRecDepth 20000 in
theorem u_880 : (Jvm.Cond.methodLink "EnvelopePlanner" (155 : Nat) ({ cls := "EnvelopePlanner$Items", name := "numberOf", desc := "(II)I" } : Jvm.MethodName)) ∈ wU := wu_4 160 rfl rfl
set_option maxRecDepth 20000 in
theorem u_881 : (Jvm.Cond.instanceMethod ({ cls := "EnvelopePlanner$Items", name := "numberOf", desc := "(II)I" } : Jvm.MethodName)) ∈ wU := wu_4 161 rfl rfl
set_option maxRecDepth 20000 in
theorem u_882 : (Jvm.Cond.selects "EnvelopePlanner$Items" ({ cls := "EnvelopePlanner$Items", name := "numberOf", desc := "(II)I" } : Jvm.MethodName) ({ cls := "EnvelopePlanner$Items", name := "numberOf", desc := "(II)I" } : Jvm.MethodName)) ∈ wU := wu_4 162 rfl rfl
set_option maxRecDepth 20000 in
theorem u_883 : (Jvm.Cond.code ({ cls := "EnvelopePlanner$Items", name := "numberOf", desc := "(II)I" } : Jvm.MethodName) prog_5_method_5_code (3 : Nat) (Option.some Jvm.ClassFile.FieldType.int)) ∈ wU := wu_4 163 rfl rfl
set_option maxRecDepth 20000 in
theorem u_884 : (Jvm.Cond.methodLink "EnvelopePlannerLaw" (204 : Nat) ({ cls := "EnvelopePlannerLaw", name := "total", desc := "(LEnvelopePlanner;I[J)I" } : Jvm.MethodName)) ∈ wU := wu_4 164 rfl rfl
set_option maxRecDepth 20000 in
theorem u_885 : (Jvm.Cond.static ({ cls := "EnvelopePlannerLaw", name := "total", desc := "(LEnvelopePlanner;I[J)I" } : Jvm.MethodName)) ∈ wU := wu_4 165 rfl rfl
set_option maxRecDepth 20000 in
theorem u_887 : (Jvm.Cond.methodLink "EnvelopePlannerLaw" (74 : Nat) ({ cls := "EnvelopePlanner", name := "total", desc := "(I)J" } : Jvm.MethodName)) ∈ wU := wu_4 167 rfl rfl
set_option maxRecDepth 20000 in
theorem u_888 : (Jvm.Cond.instanceMethod ({ cls := "EnvelopePlanner", name := "total", desc := "(I)J" } : Jvm.MethodName)) ∈ wU := wu_4 168 rfl rfl
set_option maxRecDepth 20000 in
theorem u_889 : (Jvm.Cond.selects "EnvelopePlanner" ({ cls := "EnvelopePlanner", name := "total", desc := "(I)J" } : Jvm.MethodName) ({ cls := "EnvelopePlanner", name := "total", desc := "(I)J" } : Jvm.MethodName)) ∈ wU := wu_4 169 rfl rfl
set_option maxRecDepth 20000 in
theorem u_890 : (Jvm.Cond.code ({ cls := "EnvelopePlanner", name := "total", desc := "(I)J" } : Jvm.MethodName) prog_1_method_22_code (2 : Nat) (Option.some Jvm.ClassFile.FieldType.long)) ∈ wU := wu_4 170 rfl rfl
set_option maxRecDepth 20000 in
theorem u_891 : (Jvm.Cond.methodLink "EnvelopePlanner" (156 : Nat) ({ cls := "EnvelopePlanner$Plan", name := "numberOf", desc := "(I)J" } : Jvm.MethodName)) ∈ wU := wu_4 171 rfl rfl
set_option maxRecDepth 20000 in
theorem u_892 : (Jvm.Cond.instanceMethod ({ cls := "EnvelopePlanner$Plan", name := "numberOf", desc := "(I)J" } : Jvm.MethodName)) ∈ wU := wu_4 172 rfl rfl
set_option maxRecDepth 20000 in
theorem u_893 : (Jvm.Cond.selects "EnvelopePlanner$Plan" ({ cls := "EnvelopePlanner$Plan", name := "numberOf", desc := "(I)J" } : Jvm.MethodName) ({ cls := "EnvelopePlanner$Plan", name := "numberOf", desc := "(I)J" } : Jvm.MethodName)) ∈ wU := wu_4 173 rfl rfl
set_option maxRecDepth 20000 in
theorem u_894 : (Jvm.Cond.code ({ cls := "EnvelopePlanner$Plan", name := "numberOf", desc := "(I)J" } : Jvm.MethodName) prog_7_method_5_code (2 : Nat) (Option.some Jvm.ClassFile.FieldType.long)) ∈ wU := wu_4 174 rfl rfl
set_option maxRecDepth 20000 in
theorem u_895 : (Jvm.Cond.methodLink "EnvelopePlanner$Plan" (83 : Nat) ({ cls := "EnvelopePlanner$Envelopes", name := "sum", desc := "()J" } : Jvm.MethodName)) ∈ wU := wu_4 175 rfl rfl
set_option maxRecDepth 20000 in
theorem u_896 : (Jvm.Cond.instanceMethod ({ cls := "EnvelopePlanner$Envelopes", name := "sum", desc := "()J" } : Jvm.MethodName)) ∈ wU := wu_4 176 rfl rfl
set_option maxRecDepth 20000 in
theorem u_897 : (Jvm.Cond.selects "EnvelopePlanner$Envelopes" ({ cls := "EnvelopePlanner$Envelopes", name := "sum", desc := "()J" } : Jvm.MethodName) ({ cls := "EnvelopePlanner$Envelopes", name := "sum", desc := "()J" } : Jvm.MethodName)) ∈ wU := wu_4 177 rfl rfl
set_option maxRecDepth 20000 in
theorem u_898 : (Jvm.Cond.code ({ cls := "EnvelopePlanner$Envelopes", name := "sum", desc := "()J" } : Jvm.MethodName) prog_4_method_12_code (4 : Nat) (Option.some Jvm.ClassFile.FieldType.long)) ∈ wU := wu_4 178 rfl rfl
set_option maxRecDepth 20000 in
theorem u_899 : (Jvm.Cond.methodLink "EnvelopePlannerLaw" (207 : Nat) ({ cls := "EnvelopePlannerLaw", name := "savedShare", desc := "(LEnvelopePlanner;[D)I" } : Jvm.MethodName)) ∈ wU := wu_4 179 rfl rfl
set_option maxRecDepth 20000 in
theorem u_900 : (Jvm.Cond.static ({ cls := "EnvelopePlannerLaw", name := "savedShare", desc := "(LEnvelopePlanner;[D)I" } : Jvm.MethodName)) ∈ wU := wu_4 180 rfl rfl
set_option maxRecDepth 20000 in
theorem u_902 : (Jvm.Cond.classLink "EnvelopePlannerLaw" (82 : Nat) "java/lang/ArithmeticException") ∈ wU := wu_4 182 rfl rfl
set_option maxRecDepth 20000 in
theorem u_903 : (Jvm.Cond.instantiable "java/lang/ArithmeticException" (6 : Nat)) ∈ wU := wu_4 183 rfl rfl
set_option maxRecDepth 20000 in
theorem u_904 : (Jvm.Cond.instanceMethod ({ cls := "java/lang/ArithmeticException", name := "<init>", desc := "(Ljava/lang/String;)V" } : Jvm.MethodName)) ∈ wU := wu_4 184 rfl rfl
set_option maxRecDepth 20000 in
theorem u_905 : (Jvm.Cond.code ({ cls := "java/lang/ArithmeticException", name := "<init>", desc := "(Ljava/lang/String;)V" } : Jvm.MethodName) prog_13_method_2_code (2 : Nat) (Option.none : Option Jvm.ClassFile.FieldType)) ∈ wU := wu_4 185 rfl rfl
set_option maxRecDepth 20000 in
theorem u_906 : (Jvm.Cond.methodLink "java/lang/ArithmeticException" (7 : Nat) ({ cls := "java/lang/RuntimeException", name := "<init>", desc := "(Ljava/lang/String;)V" } : Jvm.MethodName)) ∈ wU := wu_4 186 rfl rfl
set_option maxRecDepth 20000 in
theorem u_915 : (Jvm.Cond.selects "java/lang/ArithmeticException" ({ cls := "java/lang/Throwable", name := "fillInStackTrace", desc := "(I)Ljava/lang/Throwable;" } : Jvm.MethodName) ({ cls := "java/lang/Throwable", name := "fillInStackTrace", desc := "(I)Ljava/lang/Throwable;" } : Jvm.MethodName)) ∈ wU := wu_4 195 rfl rfl
set_option maxRecDepth 20000 in
theorem u_916 : (Jvm.Cond.methodLink "EnvelopePlannerLaw" (78 : Nat) ({ cls := "EnvelopePlanner", name := "savedShare", desc := "()D" } : Jvm.MethodName)) ∈ wU := wu_4 196 rfl rfl
set_option maxRecDepth 20000 in
theorem u_917 : (Jvm.Cond.instanceMethod ({ cls := "EnvelopePlanner", name := "savedShare", desc := "()D" } : Jvm.MethodName)) ∈ wU := wu_4 197 rfl rfl
set_option maxRecDepth 20000 in
theorem u_918 : (Jvm.Cond.selects "EnvelopePlanner" ({ cls := "EnvelopePlanner", name := "savedShare", desc := "()D" } : Jvm.MethodName) ({ cls := "EnvelopePlanner", name := "savedShare", desc := "()D" } : Jvm.MethodName)) ∈ wU := wu_4 198 rfl rfl
set_option maxRecDepth 20000 in
theorem u_919 : (Jvm.Cond.code ({ cls := "EnvelopePlanner", name := "savedShare", desc := "()D" } : Jvm.MethodName) prog_1_method_23_code (2 : Nat) (Option.some Jvm.ClassFile.FieldType.double)) ∈ wU := wu_4 199 rfl rfl
set_option maxRecDepth 20000 in
theorem u_920 : (Jvm.Cond.classLink "EnvelopePlanner" (162 : Nat) "java/lang/ArithmeticException") ∈ wU := wu_4 200 rfl rfl
set_option maxRecDepth 20000 in
theorem u_922 : (Jvm.Cond.methodLink "EnvelopePlanner" (166 : Nat) ({ cls := "java/lang/ArithmeticException", name := "<init>", desc := "(Ljava/lang/String;)V" } : Jvm.MethodName)) ∈ wU := wu_4 202 rfl rfl
set_option maxRecDepth 20000 in
theorem u_923 : (Jvm.Cond.methodLink "EnvelopePlannerLaw" (211 : Nat) ({ cls := "EnvelopePlannerLaw", name := "forecast", desc := "(LEnvelopePlanner;II[J)I" } : Jvm.MethodName)) ∈ wU := wu_4 203 rfl rfl
set_option maxRecDepth 20000 in
theorem u_924 : (Jvm.Cond.static ({ cls := "EnvelopePlannerLaw", name := "forecast", desc := "(LEnvelopePlanner;II[J)I" } : Jvm.MethodName)) ∈ wU := wu_4 204 rfl rfl
set_option maxRecDepth 20000 in
theorem u_926 : (Jvm.Cond.methodLink "EnvelopePlannerLaw" (84 : Nat) ({ cls := "EnvelopePlanner", name := "forecast", desc := "(II)J" } : Jvm.MethodName)) ∈ wU := wu_4 206 rfl rfl
set_option maxRecDepth 20000 in
theorem u_927 : (Jvm.Cond.instanceMethod ({ cls := "EnvelopePlanner", name := "forecast", desc := "(II)J" } : Jvm.MethodName)) ∈ wU := wu_4 207 rfl rfl
set_option maxRecDepth 20000 in
theorem u_928 : (Jvm.Cond.selects "EnvelopePlanner" ({ cls := "EnvelopePlanner", name := "forecast", desc := "(II)J" } : Jvm.MethodName) ({ cls := "EnvelopePlanner", name := "forecast", desc := "(II)J" } : Jvm.MethodName)) ∈ wU := wu_4 208 rfl rfl
set_option maxRecDepth 20000 in
theorem u_929 : (Jvm.Cond.code ({ cls := "EnvelopePlanner", name := "forecast", desc := "(II)J" } : Jvm.MethodName) prog_1_method_24_code (8 : Nat) (Option.some Jvm.ClassFile.FieldType.long)) ∈ wU := wu_4 209 rfl rfl
set_option maxRecDepth 20000 in
theorem u_930 : (Jvm.Cond.methodLink "EnvelopePlanner" (170 : Nat) ({ cls := "EnvelopePlanner$Plan", name := "passDays", desc := "(I)I" } : Jvm.MethodName)) ∈ wU := wu_4 210 rfl rfl
set_option maxRecDepth 20000 in
theorem u_931 : (Jvm.Cond.methodLink "EnvelopePlanner" (176 : Nat) ({ cls := "java/lang/Math", name := "min", desc := "(JJ)J" } : Jvm.MethodName)) ∈ wU := wu_4 211 rfl rfl
set_option maxRecDepth 20000 in
theorem u_932 : (Jvm.Cond.static ({ cls := "java/lang/Math", name := "min", desc := "(JJ)J" } : Jvm.MethodName)) ∈ wU := wu_4 212 rfl rfl
set_option maxRecDepth 20000 in
theorem u_933 : (Jvm.Cond.code ({ cls := "java/lang/Math", name := "min", desc := "(JJ)J" } : Jvm.MethodName) prog_19_method_70_code (4 : Nat) (Option.some Jvm.ClassFile.FieldType.long)) ∈ wU := wu_4 213 rfl rfl
set_option maxRecDepth 20000 in
theorem u_934 : (Jvm.Cond.methodLink "EnvelopePlannerLaw" (214 : Nat) ({ cls := "EnvelopePlannerLaw", name := "daysUntil", desc := "(LEnvelopePlanner;II[J)I" } : Jvm.MethodName)) ∈ wU := wu_4 214 rfl rfl
set_option maxRecDepth 20000 in
theorem u_935 : (Jvm.Cond.static ({ cls := "EnvelopePlannerLaw", name := "daysUntil", desc := "(LEnvelopePlanner;II[J)I" } : Jvm.MethodName)) ∈ wU := wu_4 215 rfl rfl
set_option maxRecDepth 20000 in
theorem u_937 : (Jvm.Cond.classLink "EnvelopePlannerLaw" (90 : Nat) "java/util/NoSuchElementException") ∈ wU := wu_4 217 rfl rfl
set_option maxRecDepth 20000 in
theorem u_938 : (Jvm.Cond.methodLink "EnvelopePlannerLaw" (87 : Nat) ({ cls := "EnvelopePlanner", name := "daysUntil", desc := "(II)I" } : Jvm.MethodName)) ∈ wU := wu_4 218 rfl rfl
set_option maxRecDepth 20000 in
theorem u_939 : (Jvm.Cond.instanceMethod ({ cls := "EnvelopePlanner", name := "daysUntil", desc := "(II)I" } : Jvm.MethodName)) ∈ wU := wu_4 219 rfl rfl
set_option maxRecDepth 20000 in
theorem u_940 : (Jvm.Cond.selects "EnvelopePlanner" ({ cls := "EnvelopePlanner", name := "daysUntil", desc := "(II)I" } : Jvm.MethodName) ({ cls := "EnvelopePlanner", name := "daysUntil", desc := "(II)I" } : Jvm.MethodName)) ∈ wU := wu_4 220 rfl rfl
set_option maxRecDepth 20000 in
theorem u_941 : (Jvm.Cond.code ({ cls := "EnvelopePlanner", name := "daysUntil", desc := "(II)I" } : Jvm.MethodName) prog_1_method_25_code (5 : Nat) (Option.some Jvm.ClassFile.FieldType.int)) ∈ wU := wu_4 221 rfl rfl
set_option maxRecDepth 20000 in
theorem u_942 : (Jvm.Cond.constant "EnvelopePlanner" (182 : Nat) (9000000 : Int32)) ∈ wU := wu_4 222 rfl rfl
set_option maxRecDepth 20000 in
theorem u_943 : (Jvm.Cond.classLink "EnvelopePlanner" (183 : Nat) "java/util/NoSuchElementException") ∈ wU := wu_4 223 rfl rfl
set_option maxRecDepth 20000 in
theorem u_944 : (Jvm.Cond.instantiable "java/util/NoSuchElementException" (6 : Nat)) ∈ wU := wu_4 224 rfl rfl
set_option maxRecDepth 20000 in
theorem u_946 : (Jvm.Cond.selects "java/util/NoSuchElementException" ({ cls := "java/lang/Throwable", name := "fillInStackTrace", desc := "(I)Ljava/lang/Throwable;" } : Jvm.MethodName) ({ cls := "java/lang/Throwable", name := "fillInStackTrace", desc := "(I)Ljava/lang/Throwable;" } : Jvm.MethodName)) ∈ wU := wu_4 226 rfl rfl
set_option maxRecDepth 20000 in
theorem u_953 : (Jvm.Cond.methodLink "EnvelopePlanner" (187 : Nat) ({ cls := "java/util/NoSuchElementException", name := "<init>", desc := "(Ljava/lang/String;)V" } : Jvm.MethodName)) ∈ wU := wu_4 233 rfl rfl
set_option maxRecDepth 20000 in
theorem u_954 : (Jvm.Cond.instanceMethod ({ cls := "java/util/NoSuchElementException", name := "<init>", desc := "(Ljava/lang/String;)V" } : Jvm.MethodName)) ∈ wU := wu_4 234 rfl rfl
set_option maxRecDepth 20000 in
theorem u_955 : (Jvm.Cond.code ({ cls := "java/util/NoSuchElementException", name := "<init>", desc := "(Ljava/lang/String;)V" } : Jvm.MethodName) prog_25_method_4_code (2 : Nat) (Option.none : Option Jvm.ClassFile.FieldType)) ∈ wU := wu_4 235 rfl rfl
set_option maxRecDepth 20000 in
theorem u_956 : (Jvm.Cond.methodLink "java/util/NoSuchElementException" (13 : Nat) ({ cls := "java/lang/RuntimeException", name := "<init>", desc := "(Ljava/lang/String;)V" } : Jvm.MethodName)) ∈ wU := wu_4 236 rfl rfl
set_option maxRecDepth 20000 in
theorem u_959 : (Jvm.Cond.methodLink "EnvelopePlannerLaw" (217 : Nat) ({ cls := "EnvelopePlannerLaw", name := "spare", desc := "(LEnvelopePlanner;II[J)I" } : Jvm.MethodName)) ∈ wU := wu_4 239 rfl rfl
set_option maxRecDepth 20000 in
theorem u_960 : (Jvm.Cond.static ({ cls := "EnvelopePlannerLaw", name := "spare", desc := "(LEnvelopePlanner;II[J)I" } : Jvm.MethodName)) ∈ wU := wu_5 0 rfl rfl
set_option maxRecDepth 20000 in
theorem u_962 : (Jvm.Cond.methodLink "EnvelopePlannerLaw" (92 : Nat) ({ cls := "EnvelopePlanner", name := "spare", desc := "(II)I" } : Jvm.MethodName)) ∈ wU := wu_5 2 rfl rfl
set_option maxRecDepth 20000 in
theorem u_963 : (Jvm.Cond.instanceMethod ({ cls := "EnvelopePlanner", name := "spare", desc := "(II)I" } : Jvm.MethodName)) ∈ wU := wu_5 3 rfl rfl
set_option maxRecDepth 20000 in
theorem u_964 : (Jvm.Cond.selects "EnvelopePlanner" ({ cls := "EnvelopePlanner", name := "spare", desc := "(II)I" } : Jvm.MethodName) ({ cls := "EnvelopePlanner", name := "spare", desc := "(II)I" } : Jvm.MethodName)) ∈ wU := wu_5 4 rfl rfl
set_option maxRecDepth 20000 in
theorem u_965 : (Jvm.Cond.code ({ cls := "EnvelopePlanner", name := "spare", desc := "(II)I" } : Jvm.MethodName) prog_1_method_26_code (7 : Nat) (Option.some Jvm.ClassFile.FieldType.int)) ∈ wU := wu_5 5 rfl rfl
set_option maxRecDepth 20000 in
theorem u_966 : (Jvm.Cond.constant "EnvelopePlanner" (188 : Nat) (1000001 : Int32)) ∈ wU := wu_5 6 rfl rfl
set_option maxRecDepth 20000 in
theorem u_967 : (Jvm.Cond.methodLink "EnvelopePlanner" (189 : Nat) ({ cls := "EnvelopePlanner", name := "canSpare", desc := "(III)Z" } : Jvm.MethodName)) ∈ wU := wu_5 7 rfl rfl
set_option maxRecDepth 20000 in
theorem u_969 : (Jvm.Cond.instanceMethod ({ cls := "EnvelopePlanner", name := "canSpare", desc := "(III)Z" } : Jvm.MethodName)) ∈ wU := wu_5 9 rfl rfl
set_option maxRecDepth 20000 in
theorem u_970 : (Jvm.Cond.code ({ cls := "EnvelopePlanner", name := "canSpare", desc := "(III)Z" } : Jvm.MethodName) prog_1_method_27_code (5 : Nat) (Option.some Jvm.ClassFile.FieldType.boolean)) ∈ wU := wu_5 10 rfl rfl
set_option maxRecDepth 20000 in
theorem u_971 : (Jvm.Cond.methodLink "EnvelopePlanner" (192 : Nat) ({ cls := "EnvelopePlanner$Plan", name := "canPay", desc := "(II)Z" } : Jvm.MethodName)) ∈ wU := wu_5 11 rfl rfl
set_option maxRecDepth 20000 in
theorem u_972 : (Jvm.Cond.methodLink "EnvelopePlanner" (196 : Nat) ({ cls := "EnvelopePlanner$Plan", name := "pay", desc := "(II)J" } : Jvm.MethodName)) ∈ wU := wu_5 12 rfl rfl
set_option maxRecDepth 20000 in
theorem u_973 : (Jvm.Cond.methodLink "EnvelopePlanner" (199 : Nat) ({ cls := "EnvelopePlanner$Plan", name := "settle", desc := "()V" } : Jvm.MethodName)) ∈ wU := wu_5 13 rfl rfl
set_option maxRecDepth 20000 in
theorem u_974 : (Jvm.Cond.methodLink "EnvelopePlannerLaw" (220 : Nat) ({ cls := "EnvelopePlannerLaw", name := "fork", desc := "(LEnvelopePlanner;[J)I" } : Jvm.MethodName)) ∈ wU := wu_5 14 rfl rfl
set_option maxRecDepth 20000 in
theorem u_975 : (Jvm.Cond.static ({ cls := "EnvelopePlannerLaw", name := "fork", desc := "(LEnvelopePlanner;[J)I" } : Jvm.MethodName)) ∈ wU := wu_5 15 rfl rfl
set_option maxRecDepth 20000 in
theorem u_977 : (Jvm.Cond.methodLink "EnvelopePlannerLaw" (95 : Nat) ({ cls := "EnvelopePlanner", name := "fork", desc := "()I" } : Jvm.MethodName)) ∈ wU := wu_5 17 rfl rfl
set_option maxRecDepth 20000 in
theorem u_978 : (Jvm.Cond.instanceMethod ({ cls := "EnvelopePlanner", name := "fork", desc := "()I" } : Jvm.MethodName)) ∈ wU := wu_5 18 rfl rfl
set_option maxRecDepth 20000 in
theorem u_979 : (Jvm.Cond.selects "EnvelopePlanner" ({ cls := "EnvelopePlanner", name := "fork", desc := "()I" } : Jvm.MethodName) ({ cls := "EnvelopePlanner", name := "fork", desc := "()I" } : Jvm.MethodName)) ∈ wU := wu_5 19 rfl rfl
set_option maxRecDepth 20000 in
theorem u_980 : (Jvm.Cond.code ({ cls := "EnvelopePlanner", name := "fork", desc := "()I" } : Jvm.MethodName) prog_1_method_28_code (2 : Nat) (Option.some Jvm.ClassFile.FieldType.int)) ∈ wU := wu_5 20 rfl rfl
set_option maxRecDepth 20000 in
theorem u_981 : (Jvm.Cond.methodLink "EnvelopePlanner" (202 : Nat) ({ cls := "EnvelopePlanner$Branches", name := "firstFree", desc := "()I" } : Jvm.MethodName)) ∈ wU := wu_5 21 rfl rfl
set_option maxRecDepth 20000 in
theorem u_982 : (Jvm.Cond.instanceMethod ({ cls := "EnvelopePlanner$Branches", name := "firstFree", desc := "()I" } : Jvm.MethodName)) ∈ wU := wu_5 22 rfl rfl
set_option maxRecDepth 20000 in
theorem u_983 : (Jvm.Cond.selects "EnvelopePlanner$Branches" ({ cls := "EnvelopePlanner$Branches", name := "firstFree", desc := "()I" } : Jvm.MethodName) ({ cls := "EnvelopePlanner$Branches", name := "firstFree", desc := "()I" } : Jvm.MethodName)) ∈ wU := wu_5 23 rfl rfl
set_option maxRecDepth 20000 in
theorem u_984 : (Jvm.Cond.code ({ cls := "EnvelopePlanner$Branches", name := "firstFree", desc := "()I" } : Jvm.MethodName) prog_3_method_7_code (2 : Nat) (Option.some Jvm.ClassFile.FieldType.int)) ∈ wU := wu_5 24 rfl rfl
set_option maxRecDepth 20000 in
theorem u_986 : (Jvm.Cond.methodLink "EnvelopePlanner" (208 : Nat) ({ cls := "EnvelopePlanner$Branches", name := "open", desc := "(I)V" } : Jvm.MethodName)) ∈ wU := wu_5 26 rfl rfl
set_option maxRecDepth 20000 in
theorem u_987 : (Jvm.Cond.instanceMethod ({ cls := "EnvelopePlanner$Branches", name := "open", desc := "(I)V" } : Jvm.MethodName)) ∈ wU := wu_5 27 rfl rfl
set_option maxRecDepth 20000 in
theorem u_988 : (Jvm.Cond.selects "EnvelopePlanner$Branches" ({ cls := "EnvelopePlanner$Branches", name := "open", desc := "(I)V" } : Jvm.MethodName) ({ cls := "EnvelopePlanner$Branches", name := "open", desc := "(I)V" } : Jvm.MethodName)) ∈ wU := wu_5 28 rfl rfl
set_option maxRecDepth 20000 in
theorem u_989 : (Jvm.Cond.code ({ cls := "EnvelopePlanner$Branches", name := "open", desc := "(I)V" } : Jvm.MethodName) prog_3_method_8_code (3 : Nat) (Option.none : Option Jvm.ClassFile.FieldType)) ∈ wU := wu_5 29 rfl rfl
set_option maxRecDepth 20000 in
theorem u_990 : (Jvm.Cond.methodLink "EnvelopePlanner$Branches" (41 : Nat) ({ cls := "EnvelopePlanner$Branches", name := "here", desc := "()LEnvelopePlanner$Branch;" } : Jvm.MethodName)) ∈ wU := wu_5 30 rfl rfl
set_option maxRecDepth 20000 in
theorem u_991 : (Jvm.Cond.methodLink "EnvelopePlanner$Branches" (49 : Nat) ({ cls := "EnvelopePlanner$Branch", name := "beginWith", desc := "(LEnvelopePlanner$Plan;I)V" } : Jvm.MethodName)) ∈ wU := wu_5 31 rfl rfl
set_option maxRecDepth 20000 in
theorem u_992 : (Jvm.Cond.instanceMethod ({ cls := "EnvelopePlanner$Branch", name := "beginWith", desc := "(LEnvelopePlanner$Plan;I)V" } : Jvm.MethodName)) ∈ wU := wu_5 32 rfl rfl
set_option maxRecDepth 20000 in
theorem u_993 : (Jvm.Cond.selects "EnvelopePlanner$Branch" ({ cls := "EnvelopePlanner$Branch", name := "beginWith", desc := "(LEnvelopePlanner$Plan;I)V" } : Jvm.MethodName) ({ cls := "EnvelopePlanner$Branch", name := "beginWith", desc := "(LEnvelopePlanner$Plan;I)V" } : Jvm.MethodName)) ∈ wU := wu_5 33 rfl rfl
set_option maxRecDepth 20000 in
theorem u_994 : (Jvm.Cond.code ({ cls := "EnvelopePlanner$Branch", name := "beginWith", desc := "(LEnvelopePlanner$Plan;I)V" } : Jvm.MethodName) prog_2_method_6_code (3 : Nat) (Option.none : Option Jvm.ClassFile.FieldType)) ∈ wU := wu_5 34 rfl rfl
set_option maxRecDepth 20000 in
theorem u_995 : (Jvm.Cond.methodLink "EnvelopePlannerLaw" (224 : Nat) ({ cls := "EnvelopePlannerLaw", name := "select", desc := "(LEnvelopePlanner;I[J)I" } : Jvm.MethodName)) ∈ wU := wu_5 35 rfl rfl
set_option maxRecDepth 20000 in
theorem u_996 : (Jvm.Cond.static ({ cls := "EnvelopePlannerLaw", name := "select", desc := "(LEnvelopePlanner;I[J)I" } : Jvm.MethodName)) ∈ wU := wu_5 36 rfl rfl
set_option maxRecDepth 20000 in
theorem u_998 : (Jvm.Cond.methodLink "EnvelopePlannerLaw" (99 : Nat) ({ cls := "EnvelopePlanner", name := "select", desc := "(I)I" } : Jvm.MethodName)) ∈ wU := wu_5 38 rfl rfl
set_option maxRecDepth 20000 in
theorem u_999 : (Jvm.Cond.instanceMethod ({ cls := "EnvelopePlanner", name := "select", desc := "(I)I" } : Jvm.MethodName)) ∈ wU := wu_5 39 rfl rfl
set_option maxRecDepth 20000 in
theorem u_1000 : (Jvm.Cond.selects "EnvelopePlanner" ({ cls := "EnvelopePlanner", name := "select", desc := "(I)I" } : Jvm.MethodName) ({ cls := "EnvelopePlanner", name := "select", desc := "(I)I" } : Jvm.MethodName)) ∈ wU := wu_5 40 rfl rfl
set_option maxRecDepth 20000 in
theorem u_1001 : (Jvm.Cond.code ({ cls := "EnvelopePlanner", name := "select", desc := "(I)I" } : Jvm.MethodName) prog_1_method_29_code (3 : Nat) (Option.some Jvm.ClassFile.FieldType.int)) ∈ wU := wu_5 41 rfl rfl
set_option maxRecDepth 20000 in
theorem u_1002 : (Jvm.Cond.methodLink "EnvelopePlanner" (212 : Nat) ({ cls := "EnvelopePlanner$Branches", name := "branchOrNull", desc := "(I)LEnvelopePlanner$Branch;" } : Jvm.MethodName)) ∈ wU := wu_5 42 rfl rfl
set_option maxRecDepth 20000 in
theorem u_1004 : (Jvm.Cond.methodLink "EnvelopePlannerLaw" (227 : Nat) ({ cls := "EnvelopePlannerLaw", name := "discard", desc := "(LEnvelopePlanner;I[J)I" } : Jvm.MethodName)) ∈ wU := wu_5 44 rfl rfl
set_option maxRecDepth 20000 in
theorem u_1005 : (Jvm.Cond.static ({ cls := "EnvelopePlannerLaw", name := "discard", desc := "(LEnvelopePlanner;I[J)I" } : Jvm.MethodName)) ∈ wU := wu_5 45 rfl rfl
set_option maxRecDepth 20000 in
theorem u_1007 : (Jvm.Cond.methodLink "EnvelopePlannerLaw" (102 : Nat) ({ cls := "EnvelopePlanner", name := "discard", desc := "(I)I" } : Jvm.MethodName)) ∈ wU := wu_5 47 rfl rfl
set_option maxRecDepth 20000 in
theorem u_1008 : (Jvm.Cond.instanceMethod ({ cls := "EnvelopePlanner", name := "discard", desc := "(I)I" } : Jvm.MethodName)) ∈ wU := wu_5 48 rfl rfl
set_option maxRecDepth 20000 in
theorem u_1009 : (Jvm.Cond.selects "EnvelopePlanner" ({ cls := "EnvelopePlanner", name := "discard", desc := "(I)I" } : Jvm.MethodName) ({ cls := "EnvelopePlanner", name := "discard", desc := "(I)I" } : Jvm.MethodName)) ∈ wU := wu_5 49 rfl rfl
set_option maxRecDepth 20000 in
theorem u_1010 : (Jvm.Cond.code ({ cls := "EnvelopePlanner", name := "discard", desc := "(I)I" } : Jvm.MethodName) prog_1_method_30_code (3 : Nat) (Option.some Jvm.ClassFile.FieldType.int)) ∈ wU := wu_5 50 rfl rfl
set_option maxRecDepth 20000 in
theorem u_1011 : (Jvm.Cond.methodLink "EnvelopePlanner" (221 : Nat) ({ cls := "EnvelopePlanner$Branches", name := "isRemovable", desc := "(I)Z" } : Jvm.MethodName)) ∈ wU := wu_5 51 rfl rfl
set_option maxRecDepth 20000 in
theorem u_1012 : (Jvm.Cond.instanceMethod ({ cls := "EnvelopePlanner$Branches", name := "isRemovable", desc := "(I)Z" } : Jvm.MethodName)) ∈ wU := wu_5 52 rfl rfl
set_option maxRecDepth 20000 in
theorem u_1013 : (Jvm.Cond.selects "EnvelopePlanner$Branches" ({ cls := "EnvelopePlanner$Branches", name := "isRemovable", desc := "(I)Z" } : Jvm.MethodName) ({ cls := "EnvelopePlanner$Branches", name := "isRemovable", desc := "(I)Z" } : Jvm.MethodName)) ∈ wU := wu_5 53 rfl rfl
set_option maxRecDepth 20000 in
theorem u_1014 : (Jvm.Cond.code ({ cls := "EnvelopePlanner$Branches", name := "isRemovable", desc := "(I)Z" } : Jvm.MethodName) prog_3_method_6_code (2 : Nat) (Option.some Jvm.ClassFile.FieldType.boolean)) ∈ wU := wu_5 54 rfl rfl
set_option maxRecDepth 20000 in
theorem u_1015 : (Jvm.Cond.methodLink "EnvelopePlanner$Branches" (37 : Nat) ({ cls := "EnvelopePlanner$Branches", name := "childrenOf", desc := "(I)I" } : Jvm.MethodName)) ∈ wU := wu_5 55 rfl rfl
set_option maxRecDepth 20000 in
theorem u_1016 : (Jvm.Cond.instanceMethod ({ cls := "EnvelopePlanner$Branches", name := "childrenOf", desc := "(I)I" } : Jvm.MethodName)) ∈ wU := wu_5 56 rfl rfl
set_option maxRecDepth 20000 in
theorem u_1017 : (Jvm.Cond.selects "EnvelopePlanner$Branches" ({ cls := "EnvelopePlanner$Branches", name := "childrenOf", desc := "(I)I" } : Jvm.MethodName) ({ cls := "EnvelopePlanner$Branches", name := "childrenOf", desc := "(I)I" } : Jvm.MethodName)) ∈ wU := wu_5 57 rfl rfl
set_option maxRecDepth 20000 in
theorem u_1018 : (Jvm.Cond.code ({ cls := "EnvelopePlanner$Branches", name := "childrenOf", desc := "(I)I" } : Jvm.MethodName) prog_3_method_5_code (5 : Nat) (Option.some Jvm.ClassFile.FieldType.int)) ∈ wU := wu_5 58 rfl rfl
set_option maxRecDepth 20000 in
theorem u_1020 : (Jvm.Cond.methodLink "EnvelopePlannerLaw" (230 : Nat) ({ cls := "EnvelopePlannerLaw", name := "merge", desc := "(LEnvelopePlanner;I[J)I" } : Jvm.MethodName)) ∈ wU := wu_5 60 rfl rfl
set_option maxRecDepth 20000 in
theorem u_1021 : (Jvm.Cond.static ({ cls := "EnvelopePlannerLaw", name := "merge", desc := "(LEnvelopePlanner;I[J)I" } : Jvm.MethodName)) ∈ wU := wu_5 61 rfl rfl
set_option maxRecDepth 20000 in
theorem u_1023 : (Jvm.Cond.classLink "EnvelopePlannerLaw" (108 : Nat) "java/lang/UnsupportedOperationException") ∈ wU := wu_5 63 rfl rfl
set_option maxRecDepth 20000 in
theorem u_1024 : (Jvm.Cond.methodLink "EnvelopePlannerLaw" (105 : Nat) ({ cls := "EnvelopePlanner", name := "merge", desc := "(I)I" } : Jvm.MethodName)) ∈ wU := wu_5 64 rfl rfl
set_option maxRecDepth 20000 in
theorem u_1025 : (Jvm.Cond.instanceMethod ({ cls := "EnvelopePlanner", name := "merge", desc := "(I)I" } : Jvm.MethodName)) ∈ wU := wu_5 65 rfl rfl
set_option maxRecDepth 20000 in
theorem u_1026 : (Jvm.Cond.selects "EnvelopePlanner" ({ cls := "EnvelopePlanner", name := "merge", desc := "(I)I" } : Jvm.MethodName) ({ cls := "EnvelopePlanner", name := "merge", desc := "(I)I" } : Jvm.MethodName)) ∈ wU := wu_5 66 rfl rfl
set_option maxRecDepth 20000 in
theorem u_1027 : (Jvm.Cond.code ({ cls := "EnvelopePlanner", name := "merge", desc := "(I)I" } : Jvm.MethodName) prog_1_method_31_code (5 : Nat) (Option.some Jvm.ClassFile.FieldType.int)) ∈ wU := wu_5 67 rfl rfl
set_option maxRecDepth 20000 in
theorem u_1029 : (Jvm.Cond.methodLink "EnvelopePlanner" (235 : Nat) ({ cls := "EnvelopePlanner", name := "replayUntilRefused", desc := "(LEnvelopePlanner$Branch;II)I" } : Jvm.MethodName)) ∈ wU := wu_5 69 rfl rfl
set_option maxRecDepth 20000 in
theorem u_1031 : (Jvm.Cond.instanceMethod ({ cls := "EnvelopePlanner", name := "replayUntilRefused", desc := "(LEnvelopePlanner$Branch;II)I" } : Jvm.MethodName)) ∈ wU := wu_5 71 rfl rfl
set_option maxRecDepth 20000 in
theorem u_1032 : (Jvm.Cond.code ({ cls := "EnvelopePlanner", name := "replayUntilRefused", desc := "(LEnvelopePlanner$Branch;II)I" } : Jvm.MethodName) prog_1_method_39_code (5 : Nat) (Option.some Jvm.ClassFile.FieldType.int)) ∈ wU := wu_5 72 rfl rfl
set_option maxRecDepth 20000 in
theorem u_1033 : (Jvm.Cond.methodLink "EnvelopePlanner" (242 : Nat) ({ cls := "EnvelopePlanner", name := "refusalOnTrial", desc := "(LEnvelopePlanner$Branch;II)I" } : Jvm.MethodName)) ∈ wU := wu_5 73 rfl rfl
set_option maxRecDepth 20000 in
theorem u_1035 : (Jvm.Cond.instanceMethod ({ cls := "EnvelopePlanner", name := "refusalOnTrial", desc := "(LEnvelopePlanner$Branch;II)I" } : Jvm.MethodName)) ∈ wU := wu_5 75 rfl rfl
set_option maxRecDepth 20000 in
theorem u_1036 : (Jvm.Cond.code ({ cls := "EnvelopePlanner", name := "refusalOnTrial", desc := "(LEnvelopePlanner$Branch;II)I" } : Jvm.MethodName) prog_1_method_40_code (4 : Nat) (Option.some Jvm.ClassFile.FieldType.int)) ∈ wU := wu_5 76 rfl rfl
set_option maxRecDepth 20000 in
theorem u_1037 : (Jvm.Cond.methodLink "EnvelopePlanner" (269 : Nat) ({ cls := "EnvelopePlanner$Branch", name := "partOf", desc := "(II)I" } : Jvm.MethodName)) ∈ wU := wu_5 77 rfl rfl
set_option maxRecDepth 20000 in
theorem u_1038 : (Jvm.Cond.instanceMethod ({ cls := "EnvelopePlanner$Branch", name := "partOf", desc := "(II)I" } : Jvm.MethodName)) ∈ wU := wu_5 78 rfl rfl
set_option maxRecDepth 20000 in
theorem u_1039 : (Jvm.Cond.selects "EnvelopePlanner$Branch" ({ cls := "EnvelopePlanner$Branch", name := "partOf", desc := "(II)I" } : Jvm.MethodName) ({ cls := "EnvelopePlanner$Branch", name := "partOf", desc := "(II)I" } : Jvm.MethodName)) ∈ wU := wu_5 79 rfl rfl
set_option maxRecDepth 20000 in
theorem u_1040 : (Jvm.Cond.code ({ cls := "EnvelopePlanner$Branch", name := "partOf", desc := "(II)I" } : Jvm.MethodName) prog_2_method_2_code (3 : Nat) (Option.some Jvm.ClassFile.FieldType.int)) ∈ wU := wu_5 80 rfl rfl
set_option maxRecDepth 20000 in
theorem u_1041 : (Jvm.Cond.classLink "EnvelopePlanner" (248 : Nat) "java/lang/UnsupportedOperationException") ∈ wU := wu_5 81 rfl rfl
set_option maxRecDepth 20000 in
theorem u_1042 : (Jvm.Cond.instantiable "java/lang/UnsupportedOperationException" (6 : Nat)) ∈ wU := wu_5 82 rfl rfl
set_option maxRecDepth 20000 in
theorem u_1044 : (Jvm.Cond.selects "java/lang/UnsupportedOperationException" ({ cls := "java/lang/Throwable", name := "fillInStackTrace", desc := "(I)Ljava/lang/Throwable;" } : Jvm.MethodName) ({ cls := "java/lang/Throwable", name := "fillInStackTrace", desc := "(I)Ljava/lang/Throwable;" } : Jvm.MethodName)) ∈ wU := wu_5 84 rfl rfl
set_option maxRecDepth 20000 in
theorem u_1051 : (Jvm.Cond.methodLink "EnvelopePlanner" (252 : Nat) ({ cls := "java/lang/UnsupportedOperationException", name := "<init>", desc := "(Ljava/lang/String;)V" } : Jvm.MethodName)) ∈ wU := wu_5 91 rfl rfl
set_option maxRecDepth 20000 in
theorem u_1052 : (Jvm.Cond.instanceMethod ({ cls := "java/lang/UnsupportedOperationException", name := "<init>", desc := "(Ljava/lang/String;)V" } : Jvm.MethodName)) ∈ wU := wu_5 92 rfl rfl
set_option maxRecDepth 20000 in
theorem u_1053 : (Jvm.Cond.code ({ cls := "java/lang/UnsupportedOperationException", name := "<init>", desc := "(Ljava/lang/String;)V" } : Jvm.MethodName) prog_24_method_2_code (2 : Nat) (Option.none : Option Jvm.ClassFile.FieldType)) ∈ wU := wu_5 93 rfl rfl
set_option maxRecDepth 20000 in
theorem u_1054 : (Jvm.Cond.methodLink "java/lang/UnsupportedOperationException" (7 : Nat) ({ cls := "java/lang/RuntimeException", name := "<init>", desc := "(Ljava/lang/String;)V" } : Jvm.MethodName)) ∈ wU := wu_5 94 rfl rfl
set_option maxRecDepth 20000 in
theorem u_1057 : (Jvm.Cond.methodLink "EnvelopePlanner" (253 : Nat) ({ cls := "EnvelopePlanner$Branch", name := "recordAllOf", desc := "(LEnvelopePlanner$Branch;)V" } : Jvm.MethodName)) ∈ wU := wu_5 97 rfl rfl
set_option maxRecDepth 20000 in
theorem u_1058 : (Jvm.Cond.instanceMethod ({ cls := "EnvelopePlanner$Branch", name := "recordAllOf", desc := "(LEnvelopePlanner$Branch;)V" } : Jvm.MethodName)) ∈ wU := wu_5 98 rfl rfl
set_option maxRecDepth 20000 in
theorem u_1059 : (Jvm.Cond.selects "EnvelopePlanner$Branch" ({ cls := "EnvelopePlanner$Branch", name := "recordAllOf", desc := "(LEnvelopePlanner$Branch;)V" } : Jvm.MethodName) ({ cls := "EnvelopePlanner$Branch", name := "recordAllOf", desc := "(LEnvelopePlanner$Branch;)V" } : Jvm.MethodName)) ∈ wU := wu_5 99 rfl rfl
set_option maxRecDepth 20000 in
theorem u_1060 : (Jvm.Cond.code ({ cls := "EnvelopePlanner$Branch", name := "recordAllOf", desc := "(LEnvelopePlanner$Branch;)V" } : Jvm.MethodName) prog_2_method_4_code (3 : Nat) (Option.none : Option Jvm.ClassFile.FieldType)) ∈ wU := wu_5 100 rfl rfl
set_option maxRecDepth 20000 in
theorem u_1061 : (Jvm.Cond.methodLink "EnvelopePlanner$Branch" (32 : Nat) ({ cls := "EnvelopePlanner$Branch", name := "partOf", desc := "(II)I" } : Jvm.MethodName)) ∈ wU := wu_5 101 rfl rfl
set_option maxRecDepth 20000 in
theorem u_1062 : (Jvm.Cond.methodLink "EnvelopePlanner$Branch" (36 : Nat) ({ cls := "EnvelopePlanner$Branch", name := "record", desc := "(IIIII)V" } : Jvm.MethodName)) ∈ wU := wu_5 102 rfl rfl
set_option maxRecDepth 20000 in
theorem u_1063 : (Jvm.Cond.methodLink "EnvelopePlannerLaw" (233 : Nat) ({ cls := "EnvelopePlannerLaw", name := "conflict", desc := "(LEnvelopePlanner;Z[J)I" } : Jvm.MethodName)) ∈ wU := wu_5 103 rfl rfl
set_option maxRecDepth 20000 in
theorem u_1064 : (Jvm.Cond.static ({ cls := "EnvelopePlannerLaw", name := "conflict", desc := "(LEnvelopePlanner;Z[J)I" } : Jvm.MethodName)) ∈ wU := wu_5 104 rfl rfl
set_option maxRecDepth 20000 in
theorem u_1066 : (Jvm.Cond.methodLink "EnvelopePlannerLaw" (110 : Nat) ({ cls := "EnvelopePlanner", name := "conflict", desc := "(Z)I" } : Jvm.MethodName)) ∈ wU := wu_5 106 rfl rfl
set_option maxRecDepth 20000 in
theorem u_1067 : (Jvm.Cond.instanceMethod ({ cls := "EnvelopePlanner", name := "conflict", desc := "(Z)I" } : Jvm.MethodName)) ∈ wU := wu_5 107 rfl rfl
set_option maxRecDepth 20000 in
theorem u_1068 : (Jvm.Cond.selects "EnvelopePlanner" ({ cls := "EnvelopePlanner", name := "conflict", desc := "(Z)I" } : Jvm.MethodName) ({ cls := "EnvelopePlanner", name := "conflict", desc := "(Z)I" } : Jvm.MethodName)) ∈ wU := wu_5 108 rfl rfl
set_option maxRecDepth 20000 in
theorem u_1069 : (Jvm.Cond.code ({ cls := "EnvelopePlanner", name := "conflict", desc := "(Z)I" } : Jvm.MethodName) prog_1_method_32_code (2 : Nat) (Option.some Jvm.ClassFile.FieldType.int)) ∈ wU := wu_5 109 rfl rfl
set_option maxRecDepth 20000 in
theorem u_1071 : (Jvm.Cond.methodLink "EnvelopePlannerLaw" (237 : Nat) ({ cls := "EnvelopePlannerLaw", name := "branch", desc := "(LEnvelopePlanner;II[J)I" } : Jvm.MethodName)) ∈ wU := wu_5 111 rfl rfl
set_option maxRecDepth 20000 in
theorem u_1072 : (Jvm.Cond.static ({ cls := "EnvelopePlannerLaw", name := "branch", desc := "(LEnvelopePlanner;II[J)I" } : Jvm.MethodName)) ∈ wU := wu_5 112 rfl rfl
set_option maxRecDepth 20000 in
theorem u_1074 : (Jvm.Cond.methodLink "EnvelopePlannerLaw" (114 : Nat) ({ cls := "EnvelopePlanner", name := "branch", desc := "(II)J" } : Jvm.MethodName)) ∈ wU := wu_5 114 rfl rfl
set_option maxRecDepth 20000 in
theorem u_1075 : (Jvm.Cond.instanceMethod ({ cls := "EnvelopePlanner", name := "branch", desc := "(II)J" } : Jvm.MethodName)) ∈ wU := wu_5 115 rfl rfl
set_option maxRecDepth 20000 in
theorem u_1076 : (Jvm.Cond.selects "EnvelopePlanner" ({ cls := "EnvelopePlanner", name := "branch", desc := "(II)J" } : Jvm.MethodName) ({ cls := "EnvelopePlanner", name := "branch", desc := "(II)J" } : Jvm.MethodName)) ∈ wU := wu_5 116 rfl rfl
set_option maxRecDepth 20000 in
theorem u_1077 : (Jvm.Cond.code ({ cls := "EnvelopePlanner", name := "branch", desc := "(II)J" } : Jvm.MethodName) prog_1_method_33_code (4 : Nat) (Option.some Jvm.ClassFile.FieldType.long)) ∈ wU := wu_5 117 rfl rfl
set_option maxRecDepth 20000 in
theorem u_1078 : (Jvm.Cond.methodLink "EnvelopePlanner" (259 : Nat) ({ cls := "EnvelopePlanner$Branches", name := "childrenOf", desc := "(I)I" } : Jvm.MethodName)) ∈ wU := wu_5 118 rfl rfl
set_option maxRecDepth 20000 in
theorem u_1079 : (Jvm.Cond.methodLink "EnvelopePlanner" (262 : Nat) ({ cls := "EnvelopePlanner$Envelopes", name := "sum", desc := "()J" } : Jvm.MethodName)) ∈ wU := wu_5 119 rfl rfl
set_option maxRecDepth 20000 in
theorem u_1080 : (Jvm.Cond.methodLink "EnvelopePlannerLaw" (240 : Nat) ({ cls := "EnvelopePlannerLaw", name := "difference", desc := "(LEnvelopePlanner;III[J)I" } : Jvm.MethodName)) ∈ wU := wu_5 120 rfl rfl
set_option maxRecDepth 20000 in
theorem u_1081 : (Jvm.Cond.static ({ cls := "EnvelopePlannerLaw", name := "difference", desc := "(LEnvelopePlanner;III[J)I" } : Jvm.MethodName)) ∈ wU := wu_5 121 rfl rfl
set_option maxRecDepth 20000 in
theorem u_1083 : (Jvm.Cond.methodLink "EnvelopePlannerLaw" (117 : Nat) ({ cls := "EnvelopePlanner", name := "difference", desc := "(III)J" } : Jvm.MethodName)) ∈ wU := wu_5 123 rfl rfl
set_option maxRecDepth 20000 in
theorem u_1084 : (Jvm.Cond.instanceMethod ({ cls := "EnvelopePlanner", name := "difference", desc := "(III)J" } : Jvm.MethodName)) ∈ wU := wu_5 124 rfl rfl
set_option maxRecDepth 20000 in
theorem u_1085 : (Jvm.Cond.selects "EnvelopePlanner" ({ cls := "EnvelopePlanner", name := "difference", desc := "(III)J" } : Jvm.MethodName) ({ cls := "EnvelopePlanner", name := "difference", desc := "(III)J" } : Jvm.MethodName)) ∈ wU := wu_5 125 rfl rfl
set_option maxRecDepth 20000 in
theorem u_1086 : (Jvm.Cond.code ({ cls := "EnvelopePlanner", name := "difference", desc := "(III)J" } : Jvm.MethodName) prog_1_method_34_code (6 : Nat) (Option.some Jvm.ClassFile.FieldType.long)) ∈ wU := wu_5 126 rfl rfl
set_option maxRecDepth 20000 in
theorem u_1087 : (Jvm.Cond.methodLink "EnvelopePlannerLaw" (243 : Nat) ({ cls := "EnvelopePlannerLaw", name := "step", desc := "(LEnvelopePlanner;II[J)I" } : Jvm.MethodName)) ∈ wU := wu_5 127 rfl rfl
set_option maxRecDepth 20000 in
theorem u_1088 : (Jvm.Cond.static ({ cls := "EnvelopePlannerLaw", name := "step", desc := "(LEnvelopePlanner;II[J)I" } : Jvm.MethodName)) ∈ wU := wu_5 128 rfl rfl
set_option maxRecDepth 20000 in
theorem u_1090 : (Jvm.Cond.methodLink "EnvelopePlannerLaw" (121 : Nat) ({ cls := "EnvelopePlanner", name := "step", desc := "(II)I" } : Jvm.MethodName)) ∈ wU := wu_5 130 rfl rfl
set_option maxRecDepth 20000 in
theorem u_1091 : (Jvm.Cond.instanceMethod ({ cls := "EnvelopePlanner", name := "step", desc := "(II)I" } : Jvm.MethodName)) ∈ wU := wu_5 131 rfl rfl
set_option maxRecDepth 20000 in
theorem u_1092 : (Jvm.Cond.selects "EnvelopePlanner" ({ cls := "EnvelopePlanner", name := "step", desc := "(II)I" } : Jvm.MethodName) ({ cls := "EnvelopePlanner", name := "step", desc := "(II)I" } : Jvm.MethodName)) ∈ wU := wu_5 132 rfl rfl
set_option maxRecDepth 20000 in
theorem u_1093 : (Jvm.Cond.code ({ cls := "EnvelopePlanner", name := "step", desc := "(II)I" } : Jvm.MethodName) prog_1_method_35_code (4 : Nat) (Option.some Jvm.ClassFile.FieldType.int)) ∈ wU := wu_5 133 rfl rfl
set_option maxRecDepth 20000 in
theorem u_1094 : (Jvm.Cond.methodLink "EnvelopePlannerLaw" (246 : Nat) ({ cls := "EnvelopePlannerLaw", name := "undo", desc := "(LEnvelopePlanner;[J)I" } : Jvm.MethodName)) ∈ wU := wu_5 134 rfl rfl
set_option maxRecDepth 20000 in
theorem u_1095 : (Jvm.Cond.static ({ cls := "EnvelopePlannerLaw", name := "undo", desc := "(LEnvelopePlanner;[J)I" } : Jvm.MethodName)) ∈ wU := wu_5 135 rfl rfl
set_option maxRecDepth 20000 in
theorem u_1097 : (Jvm.Cond.methodLink "EnvelopePlannerLaw" (124 : Nat) ({ cls := "EnvelopePlanner", name := "undo", desc := "()I" } : Jvm.MethodName)) ∈ wU := wu_5 137 rfl rfl
set_option maxRecDepth 20000 in
theorem u_1098 : (Jvm.Cond.instanceMethod ({ cls := "EnvelopePlanner", name := "undo", desc := "()I" } : Jvm.MethodName)) ∈ wU := wu_5 138 rfl rfl
set_option maxRecDepth 20000 in
theorem u_1099 : (Jvm.Cond.selects "EnvelopePlanner" ({ cls := "EnvelopePlanner", name := "undo", desc := "()I" } : Jvm.MethodName) ({ cls := "EnvelopePlanner", name := "undo", desc := "()I" } : Jvm.MethodName)) ∈ wU := wu_5 139 rfl rfl
set_option maxRecDepth 20000 in
theorem u_1100 : (Jvm.Cond.code ({ cls := "EnvelopePlanner", name := "undo", desc := "()I" } : Jvm.MethodName) prog_1_method_36_code (3 : Nat) (Option.some Jvm.ClassFile.FieldType.int)) ∈ wU := wu_5 140 rfl rfl
set_option maxRecDepth 20000 in
theorem u_1102 : (Jvm.Cond.methodLink "EnvelopePlanner" (277 : Nat) ({ cls := "EnvelopePlanner$Branch", name := "forget", desc := "(I)V" } : Jvm.MethodName)) ∈ wU := wu_5 142 rfl rfl
set_option maxRecDepth 20000 in
theorem u_1103 : (Jvm.Cond.instanceMethod ({ cls := "EnvelopePlanner$Branch", name := "forget", desc := "(I)V" } : Jvm.MethodName)) ∈ wU := wu_5 143 rfl rfl
set_option maxRecDepth 20000 in
theorem u_1104 : (Jvm.Cond.selects "EnvelopePlanner$Branch" ({ cls := "EnvelopePlanner$Branch", name := "forget", desc := "(I)V" } : Jvm.MethodName) ({ cls := "EnvelopePlanner$Branch", name := "forget", desc := "(I)V" } : Jvm.MethodName)) ∈ wU := wu_5 144 rfl rfl
set_option maxRecDepth 20000 in
theorem u_1105 : (Jvm.Cond.code ({ cls := "EnvelopePlanner$Branch", name := "forget", desc := "(I)V" } : Jvm.MethodName) prog_2_method_5_code (3 : Nat) (Option.none : Option Jvm.ClassFile.FieldType)) ∈ wU := wu_5 145 rfl rfl
set_option maxRecDepth 20000 in
theorem u_1106 : (Jvm.Cond.methodLink "EnvelopePlannerLaw" (249 : Nat) ({ cls := "EnvelopePlannerLaw", name := "dropStep", desc := "(LEnvelopePlanner;I[J)I" } : Jvm.MethodName)) ∈ wU := wu_5 146 rfl rfl
set_option maxRecDepth 20000 in
theorem u_1107 : (Jvm.Cond.static ({ cls := "EnvelopePlannerLaw", name := "dropStep", desc := "(LEnvelopePlanner;I[J)I" } : Jvm.MethodName)) ∈ wU := wu_5 147 rfl rfl
set_option maxRecDepth 20000 in
theorem u_1109 : (Jvm.Cond.methodLink "EnvelopePlannerLaw" (127 : Nat) ({ cls := "EnvelopePlanner", name := "dropStep", desc := "(I)I" } : Jvm.MethodName)) ∈ wU := wu_5 149 rfl rfl
set_option maxRecDepth 20000 in
theorem u_1110 : (Jvm.Cond.instanceMethod ({ cls := "EnvelopePlanner", name := "dropStep", desc := "(I)I" } : Jvm.MethodName)) ∈ wU := wu_5 150 rfl rfl
set_option maxRecDepth 20000 in
theorem u_1111 : (Jvm.Cond.selects "EnvelopePlanner" ({ cls := "EnvelopePlanner", name := "dropStep", desc := "(I)I" } : Jvm.MethodName) ({ cls := "EnvelopePlanner", name := "dropStep", desc := "(I)I" } : Jvm.MethodName)) ∈ wU := wu_5 151 rfl rfl
set_option maxRecDepth 20000 in
theorem u_1112 : (Jvm.Cond.code ({ cls := "EnvelopePlanner", name := "dropStep", desc := "(I)I" } : Jvm.MethodName) prog_1_method_37_code (3 : Nat) (Option.some Jvm.ClassFile.FieldType.int)) ∈ wU := wu_5 152 rfl rfl
set_option maxRecDepth 20000 in
theorem u_1114 : (Jvm.Cond.methodLink "EnvelopePlannerLaw" (256 : Nat) ({ cls := "EnvelopePlannerLaw", name := "feed", desc := "(LEnvelopePlanner;C[J)I" } : Jvm.MethodName)) ∈ wU := wu_5 154 rfl rfl
set_option maxRecDepth 20000 in
theorem u_1115 : (Jvm.Cond.static ({ cls := "EnvelopePlannerLaw", name := "feed", desc := "(LEnvelopePlanner;C[J)I" } : Jvm.MethodName)) ∈ wU := wu_5 155 rfl rfl
set_option maxRecDepth 20000 in
theorem u_1117 : (Jvm.Cond.methodLink "EnvelopePlannerLaw" (130 : Nat) ({ cls := "EnvelopePlanner", name := "feed", desc := "(C)I" } : Jvm.MethodName)) ∈ wU := wu_5 157 rfl rfl
set_option maxRecDepth 20000 in
theorem u_1118 : (Jvm.Cond.instanceMethod ({ cls := "EnvelopePlanner", name := "feed", desc := "(C)I" } : Jvm.MethodName)) ∈ wU := wu_5 158 rfl rfl
set_option maxRecDepth 20000 in
theorem u_1119 : (Jvm.Cond.selects "EnvelopePlanner" ({ cls := "EnvelopePlanner", name := "feed", desc := "(C)I" } : Jvm.MethodName) ({ cls := "EnvelopePlanner", name := "feed", desc := "(C)I" } : Jvm.MethodName)) ∈ wU := wu_5 159 rfl rfl
set_option maxRecDepth 20000 in
theorem u_1120 : (Jvm.Cond.code ({ cls := "EnvelopePlanner", name := "feed", desc := "(C)I" } : Jvm.MethodName) prog_1_method_41_code (2 : Nat) (Option.some Jvm.ClassFile.FieldType.int)) ∈ wU := wu_5 160 rfl rfl
set_option maxRecDepth 20000 in
theorem u_1121 : (Jvm.Cond.methodLink "EnvelopePlanner" (282 : Nat) ({ cls := "EnvelopePlanner$Reader", name := "append", desc := "(C)Z" } : Jvm.MethodName)) ∈ wU := wu_5 161 rfl rfl
set_option maxRecDepth 20000 in
theorem u_1122 : (Jvm.Cond.instanceMethod ({ cls := "EnvelopePlanner$Reader", name := "append", desc := "(C)Z" } : Jvm.MethodName)) ∈ wU := wu_5 162 rfl rfl
set_option maxRecDepth 20000 in
theorem u_1123 : (Jvm.Cond.selects "EnvelopePlanner$Reader" ({ cls := "EnvelopePlanner$Reader", name := "append", desc := "(C)Z" } : Jvm.MethodName) ({ cls := "EnvelopePlanner$Reader", name := "append", desc := "(C)Z" } : Jvm.MethodName)) ∈ wU := wu_5 163 rfl rfl
set_option maxRecDepth 20000 in
theorem u_1124 : (Jvm.Cond.code ({ cls := "EnvelopePlanner$Reader", name := "append", desc := "(C)Z" } : Jvm.MethodName) prog_8_method_2_code (2 : Nat) (Option.some Jvm.ClassFile.FieldType.boolean)) ∈ wU := wu_5 164 rfl rfl
set_option maxRecDepth 20000 in
theorem u_1126 : (Jvm.Cond.methodLink "EnvelopePlannerLaw" (268 : Nat) ({ cls := "EnvelopePlannerLaw", name := "restore", desc := "(LEnvelopePlanner;[J)I" } : Jvm.MethodName)) ∈ wU := wu_5 166 rfl rfl
set_option maxRecDepth 20000 in
theorem u_1127 : (Jvm.Cond.static ({ cls := "EnvelopePlannerLaw", name := "restore", desc := "(LEnvelopePlanner;[J)I" } : Jvm.MethodName)) ∈ wU := wu_5 167 rfl rfl
set_option maxRecDepth 20000 in
theorem u_1129 : (Jvm.Cond.methodLink "EnvelopePlannerLaw" (134 : Nat) ({ cls := "EnvelopePlanner", name := "restore", desc := "()I" } : Jvm.MethodName)) ∈ wU := wu_5 169 rfl rfl
set_option maxRecDepth 20000 in
theorem u_1130 : (Jvm.Cond.instanceMethod ({ cls := "EnvelopePlanner", name := "restore", desc := "()I" } : Jvm.MethodName)) ∈ wU := wu_5 170 rfl rfl
set_option maxRecDepth 20000 in
theorem u_1131 : (Jvm.Cond.selects "EnvelopePlanner" ({ cls := "EnvelopePlanner", name := "restore", desc := "()I" } : Jvm.MethodName) ({ cls := "EnvelopePlanner", name := "restore", desc := "()I" } : Jvm.MethodName)) ∈ wU := wu_5 171 rfl rfl
set_option maxRecDepth 20000 in
theorem u_1132 : (Jvm.Cond.code ({ cls := "EnvelopePlanner", name := "restore", desc := "()I" } : Jvm.MethodName) prog_1_method_44_code (1 : Nat) (Option.some Jvm.ClassFile.FieldType.int)) ∈ wU := wu_5 172 rfl rfl
set_option maxRecDepth 20000 in
theorem u_1134 : (Jvm.Cond.methodLink "EnvelopePlannerLaw" (147 : Nat) ({ cls := "EnvelopePlannerModel", name := "thrown", desc := "()I" } : Jvm.MethodName)) ∈ wU := wu_5 174 rfl rfl
set_option maxRecDepth 20000 in
theorem u_1135 : (Jvm.Cond.instanceMethod ({ cls := "EnvelopePlannerModel", name := "thrown", desc := "()I" } : Jvm.MethodName)) ∈ wU := wu_5 175 rfl rfl
set_option maxRecDepth 20000 in
theorem u_1136 : (Jvm.Cond.selects "EnvelopePlannerModel" ({ cls := "EnvelopePlannerModel", name := "thrown", desc := "()I" } : Jvm.MethodName) ({ cls := "EnvelopePlannerModel", name := "thrown", desc := "()I" } : Jvm.MethodName)) ∈ wU := wu_5 176 rfl rfl
set_option maxRecDepth 20000 in
theorem u_1137 : (Jvm.Cond.code ({ cls := "EnvelopePlannerModel", name := "thrown", desc := "()I" } : Jvm.MethodName) prog_11_method_1_code (1 : Nat) (Option.some Jvm.ClassFile.FieldType.int)) ∈ wU := wu_5 177 rfl rfl
set_option maxRecDepth 20000 in
theorem u_1138 : (Jvm.Cond.classLink "EnvelopePlannerLaw" (138 : Nat) "EnvelopePlannerModel") ∈ wU := wu_5 178 rfl rfl
set_option maxRecDepth 20000 in
theorem u_1139 : (Jvm.Cond.instantiable "EnvelopePlannerModel" (24 : Nat)) ∈ wU := wu_5 179 rfl rfl
set_option maxRecDepth 20000 in
theorem u_1140 : (Jvm.Cond.methodLink "EnvelopePlannerLaw" (140 : Nat) ({ cls := "EnvelopePlannerModel", name := "<init>", desc := "()V" } : Jvm.MethodName)) ∈ wU := wu_5 180 rfl rfl
set_option maxRecDepth 20000 in
theorem u_1141 : (Jvm.Cond.instanceMethod ({ cls := "EnvelopePlannerModel", name := "<init>", desc := "()V" } : Jvm.MethodName)) ∈ wU := wu_5 181 rfl rfl
set_option maxRecDepth 20000 in
theorem u_1142 : (Jvm.Cond.code ({ cls := "EnvelopePlannerModel", name := "<init>", desc := "()V" } : Jvm.MethodName) prog_11_method_4_code (2 : Nat) (Option.none : Option Jvm.ClassFile.FieldType)) ∈ wU := wu_5 182 rfl rfl
set_option maxRecDepth 20000 in
theorem u_1143 : (Jvm.Cond.methodLink "EnvelopePlannerModel" (7 : Nat) ({ cls := "java/lang/Object", name := "<init>", desc := "()V" } : Jvm.MethodName)) ∈ wU := wu_5 183 rfl rfl
set_option maxRecDepth 20000 in
theorem u_1144 : (Jvm.Cond.fieldLink "EnvelopePlannerModel" (3 : Nat) "EnvelopePlannerModel" "thrown" "I") ∈ wU := wu_5 184 rfl rfl
set_option maxRecDepth 20000 in
theorem u_1145 : (Jvm.Cond.fieldLink "EnvelopePlannerModel" (13 : Nat) "EnvelopePlannerModel" "plans" "[J") ∈ wU := wu_5 185 rfl rfl
set_option maxRecDepth 20000 in
theorem u_1146 : (Jvm.Cond.fieldLink "EnvelopePlannerModel" (17 : Nat) "EnvelopePlannerModel" "savedPlans" "[J") ∈ wU := wu_5 186 rfl rfl
set_option maxRecDepth 20000 in
theorem u_1147 : (Jvm.Cond.fieldLink "EnvelopePlannerModel" (20 : Nat) "EnvelopePlannerModel" "steps" "[I") ∈ wU := wu_5 187 rfl rfl
set_option maxRecDepth 20000 in
theorem u_1148 : (Jvm.Cond.fieldLink "EnvelopePlannerModel" (24 : Nat) "EnvelopePlannerModel" "many" "[I") ∈ wU := wu_5 188 rfl rfl
set_option maxRecDepth 20000 in
theorem u_1149 : (Jvm.Cond.fieldLink "EnvelopePlannerModel" (27 : Nat) "EnvelopePlannerModel" "parents" "[I") ∈ wU := wu_5 189 rfl rfl
set_option maxRecDepth 20000 in
theorem u_1150 : (Jvm.Cond.fieldLink "EnvelopePlannerModel" (30 : Nat) "EnvelopePlannerModel" "savedSteps" "[I") ∈ wU := wu_5 190 rfl rfl
set_option maxRecDepth 20000 in
theorem u_1151 : (Jvm.Cond.fieldLink "EnvelopePlannerModel" (33 : Nat) "EnvelopePlannerModel" "savedMany" "[I") ∈ wU := wu_5 191 rfl rfl
set_option maxRecDepth 20000 in
theorem u_1152 : (Jvm.Cond.fieldLink "EnvelopePlannerModel" (36 : Nat) "EnvelopePlannerModel" "savedParents" "[I") ∈ wU := wu_5 192 rfl rfl
set_option maxRecDepth 20000 in
theorem u_1153 : (Jvm.Cond.fieldLink "EnvelopePlannerModel" (39 : Nat) "EnvelopePlannerModel" "present" "I") ∈ wU := wu_5 193 rfl rfl
set_option maxRecDepth 20000 in
theorem u_1154 : (Jvm.Cond.fieldLink "EnvelopePlannerModel" (42 : Nat) "EnvelopePlannerModel" "savedPresent" "I") ∈ wU := wu_5 194 rfl rfl
set_option maxRecDepth 20000 in
theorem u_1155 : (Jvm.Cond.fieldLink "EnvelopePlannerModel" (45 : Nat) "EnvelopePlannerModel" "at" "I") ∈ wU := wu_5 195 rfl rfl
set_option maxRecDepth 20000 in
theorem u_1156 : (Jvm.Cond.fieldLink "EnvelopePlannerModel" (48 : Nat) "EnvelopePlannerModel" "reason" "I") ∈ wU := wu_5 196 rfl rfl
set_option maxRecDepth 20000 in
theorem u_1157 : (Jvm.Cond.fieldLink "EnvelopePlannerModel" (51 : Nat) "EnvelopePlannerModel" "conflictStep" "I") ∈ wU := wu_5 197 rfl rfl
set_option maxRecDepth 20000 in
theorem u_1158 : (Jvm.Cond.fieldLink "EnvelopePlannerModel" (54 : Nat) "EnvelopePlannerModel" "conflictReason" "I") ∈ wU := wu_5 198 rfl rfl
set_option maxRecDepth 20000 in
theorem u_1159 : (Jvm.Cond.fieldLink "EnvelopePlannerModel" (57 : Nat) "EnvelopePlannerModel" "refused" "I") ∈ wU := wu_5 199 rfl rfl
set_option maxRecDepth 20000 in
theorem u_1160 : (Jvm.Cond.fieldLink "EnvelopePlannerModel" (60 : Nat) "EnvelopePlannerModel" "isSaved" "Z") ∈ wU := wu_5 200 rfl rfl
set_option maxRecDepth 20000 in
theorem u_1161 : (Jvm.Cond.fieldLink "EnvelopePlannerModel" (64 : Nat) "EnvelopePlannerModel" "parts" "[J") ∈ wU := wu_5 201 rfl rfl
set_option maxRecDepth 20000 in
theorem u_1162 : (Jvm.Cond.fieldLink "EnvelopePlannerModel" (67 : Nat) "EnvelopePlannerModel" "isUsed" "[Z") ∈ wU := wu_5 202 rfl rfl
set_option maxRecDepth 20000 in
theorem u_1163 : (Jvm.Cond.fieldLink "EnvelopePlannerModel" (71 : Nat) "EnvelopePlannerModel" "input" "[I") ∈ wU := wu_5 203 rfl rfl
set_option maxRecDepth 20000 in
theorem u_1164 : (Jvm.Cond.fieldLink "EnvelopePlannerModel" (74 : Nat) "EnvelopePlannerModel" "fed" "I") ∈ wU := wu_5 204 rfl rfl
set_option maxRecDepth 20000 in
theorem u_1165 : (Jvm.Cond.fieldLink "EnvelopePlannerModel" (77 : Nat) "EnvelopePlannerModel" "read" "I") ∈ wU := wu_5 205 rfl rfl
set_option maxRecDepth 20000 in
theorem u_1166 : (Jvm.Cond.fieldLink "EnvelopePlannerModel" (80 : Nat) "EnvelopePlannerModel" "isWrong" "Z") ∈ wU := wu_5 206 rfl rfl
set_option maxRecDepth 20000 in
theorem u_1167 : (Jvm.Cond.fieldLink "EnvelopePlannerModel" (83 : Nat) "EnvelopePlannerModel" "command" "[I") ∈ wU := wu_5 207 rfl rfl
set_option maxRecDepth 20000 in
theorem u_1217 : (Jvm.Cond.arrayClass Jvm.ClassFile.FieldType.boolean) ∈ wU := wu_6 17 rfl rfl
set_option maxRecDepth 20000 in
theorem u_1218 : (Jvm.Cond.methodLink "EnvelopePlannerLaw" (146 : Nat) ({ cls := "EnvelopePlannerModel", name := "addEnvelope", desc := "(II)I" } : Jvm.MethodName)) ∈ wU := wu_6 18 rfl rfl
set_option maxRecDepth 20000 in
theorem u_1219 : (Jvm.Cond.instanceMethod ({ cls := "EnvelopePlannerModel", name := "addEnvelope", desc := "(II)I" } : Jvm.MethodName)) ∈ wU := wu_6 19 rfl rfl
set_option maxRecDepth 20000 in
theorem u_1220 : (Jvm.Cond.selects "EnvelopePlannerModel" ({ cls := "EnvelopePlannerModel", name := "addEnvelope", desc := "(II)I" } : Jvm.MethodName) ({ cls := "EnvelopePlannerModel", name := "addEnvelope", desc := "(II)I" } : Jvm.MethodName)) ∈ wU := wu_6 20 rfl rfl
set_option maxRecDepth 20000 in
theorem u_1221 : (Jvm.Cond.code ({ cls := "EnvelopePlannerModel", name := "addEnvelope", desc := "(II)I" } : Jvm.MethodName) prog_11_method_37_code (3 : Nat) (Option.some Jvm.ClassFile.FieldType.int)) ∈ wU := wu_6 21 rfl rfl
set_option maxRecDepth 20000 in
theorem u_1222 : (Jvm.Cond.methodLink "EnvelopePlannerModel" (222 : Nat) ({ cls := "EnvelopePlannerModel", name := "step", desc := "(IIIII)I" } : Jvm.MethodName)) ∈ wU := wu_6 22 rfl rfl
set_option maxRecDepth 20000 in
theorem u_1224 : (Jvm.Cond.instanceMethod ({ cls := "EnvelopePlannerModel", name := "step", desc := "(IIIII)I" } : Jvm.MethodName)) ∈ wU := wu_6 24 rfl rfl
set_option maxRecDepth 20000 in
theorem u_1225 : (Jvm.Cond.code ({ cls := "EnvelopePlannerModel", name := "step", desc := "(IIIII)I" } : Jvm.MethodName) prog_11_method_34_code (7 : Nat) (Option.some Jvm.ClassFile.FieldType.int)) ∈ wU := wu_6 25 rfl rfl
set_option maxRecDepth 20000 in
theorem u_1226 : (Jvm.Cond.methodLink "EnvelopePlannerModel" (211 : Nat) ({ cls := "EnvelopePlannerModel", name := "planOf", desc := "(I)I" } : Jvm.MethodName)) ∈ wU := wu_6 26 rfl rfl
set_option maxRecDepth 20000 in
theorem u_1227 : (Jvm.Cond.static ({ cls := "EnvelopePlannerModel", name := "planOf", desc := "(I)I" } : Jvm.MethodName)) ∈ wU := wu_6 27 rfl rfl
set_option maxRecDepth 20000 in
theorem u_1228 : (Jvm.Cond.code ({ cls := "EnvelopePlannerModel", name := "planOf", desc := "(I)I" } : Jvm.MethodName) prog_11_method_10_code (1 : Nat) (Option.some Jvm.ClassFile.FieldType.int)) ∈ wU := wu_6 28 rfl rfl
set_option maxRecDepth 20000 in
theorem u_1229 : (Jvm.Cond.methodLink "EnvelopePlannerModel" (214 : Nat) ({ cls := "EnvelopePlannerModel", name := "does", desc := "(IIIIIZ)I" } : Jvm.MethodName)) ∈ wU := wu_6 29 rfl rfl
set_option maxRecDepth 20000 in
theorem u_1231 : (Jvm.Cond.instanceMethod ({ cls := "EnvelopePlannerModel", name := "does", desc := "(IIIIIZ)I" } : Jvm.MethodName)) ∈ wU := wu_6 31 rfl rfl
set_option maxRecDepth 20000 in
theorem u_1232 : (Jvm.Cond.code ({ cls := "EnvelopePlannerModel", name := "does", desc := "(IIIIIZ)I" } : Jvm.MethodName) prog_11_method_30_code (10 : Nat) (Option.some Jvm.ClassFile.FieldType.int)) ∈ wU := wu_6 32 rfl rfl
set_option maxRecDepth 20000 in
theorem u_1233 : (Jvm.Cond.methodLink "EnvelopePlannerModel" (165 : Nat) ({ cls := "EnvelopePlannerModel", name := "isCap", desc := "(I)Z" } : Jvm.MethodName)) ∈ wU := wu_6 33 rfl rfl
set_option maxRecDepth 20000 in
theorem u_1234 : (Jvm.Cond.static ({ cls := "EnvelopePlannerModel", name := "isCap", desc := "(I)Z" } : Jvm.MethodName)) ∈ wU := wu_6 34 rfl rfl
set_option maxRecDepth 20000 in
theorem u_1235 : (Jvm.Cond.code ({ cls := "EnvelopePlannerModel", name := "isCap", desc := "(I)Z" } : Jvm.MethodName) prog_11_method_23_code (1 : Nat) (Option.some Jvm.ClassFile.FieldType.boolean)) ∈ wU := wu_6 35 rfl rfl
set_option maxRecDepth 20000 in
theorem u_1236 : (Jvm.Cond.constantLong "EnvelopePlannerModel" (153 : Nat) (-1 : Int64)) ∈ wU := wu_6 36 rfl rfl
set_option maxRecDepth 20000 in
theorem u_1237 : (Jvm.Cond.constantLong "EnvelopePlannerModel" (155 : Nat) (9000000 : Int64)) ∈ wU := wu_6 37 rfl rfl
set_option maxRecDepth 20000 in
theorem u_1238 : (Jvm.Cond.methodLink "EnvelopePlannerModel" (90 : Nat) ({ cls := "EnvelopePlannerModel", name := "in", desc := "(JJJ)Z" } : Jvm.MethodName)) ∈ wU := wu_6 38 rfl rfl
set_option maxRecDepth 20000 in
theorem u_1239 : (Jvm.Cond.static ({ cls := "EnvelopePlannerModel", name := "in", desc := "(JJJ)Z" } : Jvm.MethodName)) ∈ wU := wu_6 39 rfl rfl
set_option maxRecDepth 20000 in
theorem u_1240 : (Jvm.Cond.code ({ cls := "EnvelopePlannerModel", name := "in", desc := "(JJJ)Z" } : Jvm.MethodName) prog_11_method_2_code (6 : Nat) (Option.some Jvm.ClassFile.FieldType.boolean)) ∈ wU := wu_6 40 rfl rfl
set_option maxRecDepth 20000 in
theorem u_1241 : (Jvm.Cond.constantLong "EnvelopePlannerModel" (151 : Nat) (2 : Int64)) ∈ wU := wu_6 41 rfl rfl
set_option maxRecDepth 20000 in
theorem u_1242 : (Jvm.Cond.methodLink "EnvelopePlannerModel" (168 : Nat) ({ cls := "EnvelopePlannerModel", name := "refuses", desc := "(ZI)Z" } : Jvm.MethodName)) ∈ wU := wu_6 42 rfl rfl
set_option maxRecDepth 20000 in
theorem u_1244 : (Jvm.Cond.instanceMethod ({ cls := "EnvelopePlannerModel", name := "refuses", desc := "(ZI)Z" } : Jvm.MethodName)) ∈ wU := wu_6 44 rfl rfl
set_option maxRecDepth 20000 in
theorem u_1245 : (Jvm.Cond.code ({ cls := "EnvelopePlannerModel", name := "refuses", desc := "(ZI)Z" } : Jvm.MethodName) prog_11_method_22_code (3 : Nat) (Option.some Jvm.ClassFile.FieldType.boolean)) ∈ wU := wu_6 45 rfl rfl
set_option maxRecDepth 20000 in
theorem u_1246 : (Jvm.Cond.methodLink "EnvelopePlannerModel" (86 : Nat) ({ cls := "EnvelopePlannerModel", name := "n", desc := "(I)I" } : Jvm.MethodName)) ∈ wU := wu_6 46 rfl rfl
set_option maxRecDepth 20000 in
theorem u_1248 : (Jvm.Cond.instanceMethod ({ cls := "EnvelopePlannerModel", name := "n", desc := "(I)I" } : Jvm.MethodName)) ∈ wU := wu_6 48 rfl rfl
set_option maxRecDepth 20000 in
theorem u_1249 : (Jvm.Cond.code ({ cls := "EnvelopePlannerModel", name := "n", desc := "(I)I" } : Jvm.MethodName) prog_11_method_6_code (2 : Nat) (Option.some Jvm.ClassFile.FieldType.int)) ∈ wU := wu_6 49 rfl rfl
set_option maxRecDepth 20000 in
theorem u_1250 : (Jvm.Cond.methodLink "EnvelopePlannerModel" (172 : Nat) ({ cls := "EnvelopePlannerModel", name := "row", desc := "(IIIIIII)I" } : Jvm.MethodName)) ∈ wU := wu_6 50 rfl rfl
set_option maxRecDepth 20000 in
theorem u_1252 : (Jvm.Cond.instanceMethod ({ cls := "EnvelopePlannerModel", name := "row", desc := "(IIIIIII)I" } : Jvm.MethodName)) ∈ wU := wu_6 52 rfl rfl
set_option maxRecDepth 20000 in
theorem u_1253 : (Jvm.Cond.code ({ cls := "EnvelopePlannerModel", name := "row", desc := "(IIIIIII)I" } : Jvm.MethodName) prog_11_method_24_code (10 : Nat) (Option.some Jvm.ClassFile.FieldType.int)) ∈ wU := wu_6 53 rfl rfl
set_option maxRecDepth 20000 in
theorem u_1254 : (Jvm.Cond.methodLink "EnvelopePlannerModel" (128 : Nat) ({ cls := "EnvelopePlannerModel", name := "puts", desc := "(IJ)V" } : Jvm.MethodName)) ∈ wU := wu_6 54 rfl rfl
set_option maxRecDepth 20000 in
theorem u_1256 : (Jvm.Cond.instanceMethod ({ cls := "EnvelopePlannerModel", name := "puts", desc := "(IJ)V" } : Jvm.MethodName)) ∈ wU := wu_6 56 rfl rfl
set_option maxRecDepth 20000 in
theorem u_1257 : (Jvm.Cond.code ({ cls := "EnvelopePlannerModel", name := "puts", desc := "(IJ)V" } : Jvm.MethodName) prog_11_method_7_code (4 : Nat) (Option.none : Option Jvm.ClassFile.FieldType)) ∈ wU := wu_6 57 rfl rfl
set_option maxRecDepth 20000 in
theorem u_1258 : (Jvm.Cond.methodLink "EnvelopePlannerModel" (114 : Nat) ({ cls := "EnvelopePlannerModel", name := "adds", desc := "(IJ)V" } : Jvm.MethodName)) ∈ wU := wu_6 58 rfl rfl
set_option maxRecDepth 20000 in
theorem u_1260 : (Jvm.Cond.instanceMethod ({ cls := "EnvelopePlannerModel", name := "adds", desc := "(IJ)V" } : Jvm.MethodName)) ∈ wU := wu_6 60 rfl rfl
set_option maxRecDepth 20000 in
theorem u_1261 : (Jvm.Cond.code ({ cls := "EnvelopePlannerModel", name := "adds", desc := "(IJ)V" } : Jvm.MethodName) prog_11_method_8_code (4 : Nat) (Option.none : Option Jvm.ClassFile.FieldType)) ∈ wU := wu_6 61 rfl rfl
set_option maxRecDepth 20000 in
theorem u_1262 : (Jvm.Cond.methodLink "EnvelopePlannerModel" (161 : Nat) ({ cls := "EnvelopePlannerModel", name := "isEnvelope", desc := "(I)Z" } : Jvm.MethodName)) ∈ wU := wu_6 62 rfl rfl
set_option maxRecDepth 20000 in
theorem u_1264 : (Jvm.Cond.instanceMethod ({ cls := "EnvelopePlannerModel", name := "isEnvelope", desc := "(I)Z" } : Jvm.MethodName)) ∈ wU := wu_6 64 rfl rfl
set_option maxRecDepth 20000 in
theorem u_1265 : (Jvm.Cond.code ({ cls := "EnvelopePlannerModel", name := "isEnvelope", desc := "(I)Z" } : Jvm.MethodName) prog_11_method_12_code (2 : Nat) (Option.some Jvm.ClassFile.FieldType.boolean)) ∈ wU := wu_6 65 rfl rfl
set_option maxRecDepth 20000 in
theorem u_1266 : (Jvm.Cond.methodLink "EnvelopePlannerModel" (176 : Nat) ({ cls := "EnvelopePlannerModel", name := "swaps", desc := "(II)I" } : Jvm.MethodName)) ∈ wU := wu_6 66 rfl rfl
set_option maxRecDepth 20000 in
theorem u_1268 : (Jvm.Cond.instanceMethod ({ cls := "EnvelopePlannerModel", name := "swaps", desc := "(II)I" } : Jvm.MethodName)) ∈ wU := wu_6 68 rfl rfl
set_option maxRecDepth 20000 in
theorem u_1269 : (Jvm.Cond.code ({ cls := "EnvelopePlannerModel", name := "swaps", desc := "(II)I" } : Jvm.MethodName) prog_11_method_32_code (4 : Nat) (Option.some Jvm.ClassFile.FieldType.int)) ∈ wU := wu_6 69 rfl rfl
set_option maxRecDepth 20000 in
theorem u_1270 : (Jvm.Cond.methodLink "EnvelopePlannerModel" (180 : Nat) ({ cls := "EnvelopePlannerModel", name := "isNumber", desc := "(II)Z" } : Jvm.MethodName)) ∈ wU := wu_6 70 rfl rfl
set_option maxRecDepth 20000 in
theorem u_1271 : (Jvm.Cond.static ({ cls := "EnvelopePlannerModel", name := "isNumber", desc := "(II)Z" } : Jvm.MethodName)) ∈ wU := wu_6 71 rfl rfl
set_option maxRecDepth 20000 in
theorem u_1272 : (Jvm.Cond.code ({ cls := "EnvelopePlannerModel", name := "isNumber", desc := "(II)Z" } : Jvm.MethodName) prog_11_method_26_code (2 : Nat) (Option.some Jvm.ClassFile.FieldType.boolean)) ∈ wU := wu_6 72 rfl rfl
set_option maxRecDepth 20000 in
theorem u_1273 : (Jvm.Cond.constantLong "EnvelopePlannerModel" (157 : Nat) (1000000 : Int64)) ∈ wU := wu_6 73 rfl rfl
set_option maxRecDepth 20000 in
theorem u_1274 : (Jvm.Cond.constantLong "EnvelopePlannerModel" (126 : Nat) (100 : Int64)) ∈ wU := wu_6 74 rfl rfl
set_option maxRecDepth 20000 in
theorem u_1275 : (Jvm.Cond.constantLong "EnvelopePlannerModel" (159 : Nat) (99 : Int64)) ∈ wU := wu_6 75 rfl rfl
set_option maxRecDepth 20000 in
theorem u_1276 : (Jvm.Cond.methodLink "EnvelopePlannerModel" (184 : Nat) ({ cls := "EnvelopePlannerModel", name := "removes", desc := "(IIII)I" } : Jvm.MethodName)) ∈ wU := wu_6 76 rfl rfl
set_option maxRecDepth 20000 in
theorem u_1278 : (Jvm.Cond.instanceMethod ({ cls := "EnvelopePlannerModel", name := "removes", desc := "(IIII)I" } : Jvm.MethodName)) ∈ wU := wu_6 78 rfl rfl
set_option maxRecDepth 20000 in
theorem u_1279 : (Jvm.Cond.code ({ cls := "EnvelopePlannerModel", name := "removes", desc := "(IIII)I" } : Jvm.MethodName) prog_11_method_25_code (6 : Nat) (Option.some Jvm.ClassFile.FieldType.int)) ∈ wU := wu_6 79 rfl rfl
set_option maxRecDepth 20000 in
theorem u_1280 : (Jvm.Cond.methodLink "EnvelopePlannerModel" (94 : Nat) ({ cls := "EnvelopePlannerModel", name := "p", desc := "(I)J" } : Jvm.MethodName)) ∈ wU := wu_6 80 rfl rfl
set_option maxRecDepth 20000 in
theorem u_1282 : (Jvm.Cond.instanceMethod ({ cls := "EnvelopePlannerModel", name := "p", desc := "(I)J" } : Jvm.MethodName)) ∈ wU := wu_6 82 rfl rfl
set_option maxRecDepth 20000 in
theorem u_1283 : (Jvm.Cond.code ({ cls := "EnvelopePlannerModel", name := "p", desc := "(I)J" } : Jvm.MethodName) prog_11_method_5_code (2 : Nat) (Option.some Jvm.ClassFile.FieldType.long)) ∈ wU := wu_6 83 rfl rfl
set_option maxRecDepth 20000 in
theorem u_1284 : (Jvm.Cond.methodLink "EnvelopePlannerModel" (188 : Nat) ({ cls := "EnvelopePlannerModel", name := "item", desc := "(IIIIZ)I" } : Jvm.MethodName)) ∈ wU := wu_6 84 rfl rfl
set_option maxRecDepth 20000 in
theorem u_1286 : (Jvm.Cond.instanceMethod ({ cls := "EnvelopePlannerModel", name := "item", desc := "(IIIIZ)I" } : Jvm.MethodName)) ∈ wU := wu_6 86 rfl rfl
set_option maxRecDepth 20000 in
theorem u_1287 : (Jvm.Cond.code ({ cls := "EnvelopePlannerModel", name := "item", desc := "(IIIIZ)I" } : Jvm.MethodName) prog_11_method_31_code (8 : Nat) (Option.some Jvm.ClassFile.FieldType.int)) ∈ wU := wu_6 87 rfl rfl
set_option maxRecDepth 20000 in
theorem u_1288 : (Jvm.Cond.constantLong "EnvelopePlannerModel" (206 : Nat) (60 : Int64)) ∈ wU := wu_6 88 rfl rfl
set_option maxRecDepth 20000 in
theorem u_1289 : (Jvm.Cond.methodLink "EnvelopePlannerModel" (131 : Nat) ({ cls := "EnvelopePlannerModel", name := "receives", desc := "(J)J" } : Jvm.MethodName)) ∈ wU := wu_6 89 rfl rfl
set_option maxRecDepth 20000 in
theorem u_1291 : (Jvm.Cond.instanceMethod ({ cls := "EnvelopePlannerModel", name := "receives", desc := "(J)J" } : Jvm.MethodName)) ∈ wU := wu_6 91 rfl rfl
set_option maxRecDepth 20000 in
theorem u_1292 : (Jvm.Cond.code ({ cls := "EnvelopePlannerModel", name := "receives", desc := "(J)J" } : Jvm.MethodName) prog_11_method_16_code (12 : Nat) (Option.some Jvm.ClassFile.FieldType.long)) ∈ wU := wu_6 92 rfl rfl
set_option maxRecDepth 20000 in
theorem u_1293 : (Jvm.Cond.methodLink "EnvelopePlannerModel" (122 : Nat) ({ cls := "EnvelopePlannerModel", name := "shares", desc := "(IIJ)J" } : Jvm.MethodName)) ∈ wU := wu_6 93 rfl rfl
set_option maxRecDepth 20000 in
theorem u_1295 : (Jvm.Cond.instanceMethod ({ cls := "EnvelopePlannerModel", name := "shares", desc := "(IIJ)J" } : Jvm.MethodName)) ∈ wU := wu_6 95 rfl rfl
set_option maxRecDepth 20000 in
theorem u_1296 : (Jvm.Cond.code ({ cls := "EnvelopePlannerModel", name := "shares", desc := "(IIJ)J" } : Jvm.MethodName) prog_11_method_15_code (14 : Nat) (Option.some Jvm.ClassFile.FieldType.long)) ∈ wU := wu_6 96 rfl rfl
set_option maxRecDepth 20000 in
theorem u_1297 : (Jvm.Cond.methodLink "EnvelopePlannerModel" (118 : Nat) ({ cls := "EnvelopePlannerModel", name := "put", desc := "(IJ)J" } : Jvm.MethodName)) ∈ wU := wu_6 97 rfl rfl
set_option maxRecDepth 20000 in
theorem u_1299 : (Jvm.Cond.instanceMethod ({ cls := "EnvelopePlannerModel", name := "put", desc := "(IJ)J" } : Jvm.MethodName)) ∈ wU := wu_6 99 rfl rfl
set_option maxRecDepth 20000 in
theorem u_1300 : (Jvm.Cond.code ({ cls := "EnvelopePlannerModel", name := "put", desc := "(IJ)J" } : Jvm.MethodName) prog_11_method_14_code (6 : Nat) (Option.some Jvm.ClassFile.FieldType.long)) ∈ wU := wu_6 100 rfl rfl
set_option maxRecDepth 20000 in
theorem u_1301 : (Jvm.Cond.methodLink "EnvelopePlannerModel" (108 : Nat) ({ cls := "EnvelopePlannerModel", name := "roomIn", desc := "(I)J" } : Jvm.MethodName)) ∈ wU := wu_6 101 rfl rfl
set_option maxRecDepth 20000 in
theorem u_1303 : (Jvm.Cond.instanceMethod ({ cls := "EnvelopePlannerModel", name := "roomIn", desc := "(I)J" } : Jvm.MethodName)) ∈ wU := wu_6 103 rfl rfl
set_option maxRecDepth 20000 in
theorem u_1304 : (Jvm.Cond.code ({ cls := "EnvelopePlannerModel", name := "roomIn", desc := "(I)J" } : Jvm.MethodName) prog_11_method_13_code (4 : Nat) (Option.some Jvm.ClassFile.FieldType.long)) ∈ wU := wu_6 104 rfl rfl
set_option maxRecDepth 20000 in
theorem u_1305 : (Jvm.Cond.constantLong "EnvelopePlannerModel" (100 : Nat) (9223372036854775807 : Int64)) ∈ wU := wu_6 105 rfl rfl
set_option maxRecDepth 20000 in
theorem u_1306 : (Jvm.Cond.methodLink "EnvelopePlannerModel" (102 : Nat) ({ cls := "java/lang/Math", name := "max", desc := "(JJ)J" } : Jvm.MethodName)) ∈ wU := wu_6 106 rfl rfl
set_option maxRecDepth 20000 in
theorem u_1307 : (Jvm.Cond.methodLink "EnvelopePlannerModel" (111 : Nat) ({ cls := "java/lang/Math", name := "min", desc := "(JJ)J" } : Jvm.MethodName)) ∈ wU := wu_6 107 rfl rfl
set_option maxRecDepth 20000 in
theorem u_1308 : (Jvm.Cond.methodLink "EnvelopePlannerModel" (192 : Nat) ({ cls := "EnvelopePlannerModel", name := "settled", desc := "(J)I" } : Jvm.MethodName)) ∈ wU := wu_6 108 rfl rfl
set_option maxRecDepth 20000 in
theorem u_1310 : (Jvm.Cond.instanceMethod ({ cls := "EnvelopePlannerModel", name := "settled", desc := "(J)I" } : Jvm.MethodName)) ∈ wU := wu_6 110 rfl rfl
set_option maxRecDepth 20000 in
theorem u_1311 : (Jvm.Cond.code ({ cls := "EnvelopePlannerModel", name := "settled", desc := "(J)I" } : Jvm.MethodName) prog_11_method_33_code (3 : Nat) (Option.some Jvm.ClassFile.FieldType.int)) ∈ wU := wu_6 111 rfl rfl
set_option maxRecDepth 20000 in
theorem u_1312 : (Jvm.Cond.methodLink "EnvelopePlannerModel" (142 : Nat) ({ cls := "EnvelopePlannerModel", name := "settles", desc := "()V" } : Jvm.MethodName)) ∈ wU := wu_6 112 rfl rfl
set_option maxRecDepth 20000 in
theorem u_1314 : (Jvm.Cond.instanceMethod ({ cls := "EnvelopePlannerModel", name := "settles", desc := "()V" } : Jvm.MethodName)) ∈ wU := wu_6 114 rfl rfl
set_option maxRecDepth 20000 in
theorem u_1315 : (Jvm.Cond.code ({ cls := "EnvelopePlannerModel", name := "settles", desc := "()V" } : Jvm.MethodName) prog_11_method_19_code (9 : Nat) (Option.none : Option Jvm.ClassFile.FieldType)) ∈ wU := wu_6 115 rfl rfl
set_option maxRecDepth 20000 in
theorem u_1316 : (Jvm.Cond.methodLink "EnvelopePlannerModel" (135 : Nat) ({ cls := "EnvelopePlannerModel", name := "maySpend", desc := "(IJ)Z" } : Jvm.MethodName)) ∈ wU := wu_6 116 rfl rfl
set_option maxRecDepth 20000 in
theorem u_1318 : (Jvm.Cond.instanceMethod ({ cls := "EnvelopePlannerModel", name := "maySpend", desc := "(IJ)Z" } : Jvm.MethodName)) ∈ wU := wu_6 118 rfl rfl
set_option maxRecDepth 20000 in
theorem u_1319 : (Jvm.Cond.code ({ cls := "EnvelopePlannerModel", name := "maySpend", desc := "(IJ)Z" } : Jvm.MethodName) prog_11_method_17_code (4 : Nat) (Option.some Jvm.ClassFile.FieldType.boolean)) ∈ wU := wu_6 119 rfl rfl
set_option maxRecDepth 20000 in
theorem u_1320 : (Jvm.Cond.methodLink "EnvelopePlannerModel" (139 : Nat) ({ cls := "EnvelopePlannerModel", name := "spends", desc := "(IJ)J" } : Jvm.MethodName)) ∈ wU := wu_6 120 rfl rfl
set_option maxRecDepth 20000 in
theorem u_1322 : (Jvm.Cond.instanceMethod ({ cls := "EnvelopePlannerModel", name := "spends", desc := "(IJ)J" } : Jvm.MethodName)) ∈ wU := wu_6 122 rfl rfl
set_option maxRecDepth 20000 in
theorem u_1323 : (Jvm.Cond.code ({ cls := "EnvelopePlannerModel", name := "spends", desc := "(IJ)J" } : Jvm.MethodName) prog_11_method_18_code (6 : Nat) (Option.some Jvm.ClassFile.FieldType.long)) ∈ wU := wu_6 123 rfl rfl
set_option maxRecDepth 20000 in
theorem u_1324 : (Jvm.Cond.methodLink "EnvelopePlannerModel" (196 : Nat) ({ cls := "EnvelopePlannerModel", name := "isPlace", desc := "(I)Z" } : Jvm.MethodName)) ∈ wU := wu_6 124 rfl rfl
set_option maxRecDepth 20000 in
theorem u_1326 : (Jvm.Cond.instanceMethod ({ cls := "EnvelopePlannerModel", name := "isPlace", desc := "(I)Z" } : Jvm.MethodName)) ∈ wU := wu_6 126 rfl rfl
set_option maxRecDepth 20000 in
theorem u_1327 : (Jvm.Cond.code ({ cls := "EnvelopePlannerModel", name := "isPlace", desc := "(I)Z" } : Jvm.MethodName) prog_11_method_27_code (2 : Nat) (Option.some Jvm.ClassFile.FieldType.boolean)) ∈ wU := wu_6 127 rfl rfl
set_option maxRecDepth 20000 in
theorem u_1328 : (Jvm.Cond.methodLink "EnvelopePlannerModel" (199 : Nat) ({ cls := "EnvelopePlannerModel", name := "moneyIn", desc := "(I)J" } : Jvm.MethodName)) ∈ wU := wu_6 128 rfl rfl
set_option maxRecDepth 20000 in
theorem u_1330 : (Jvm.Cond.instanceMethod ({ cls := "EnvelopePlannerModel", name := "moneyIn", desc := "(I)J" } : Jvm.MethodName)) ∈ wU := wu_6 130 rfl rfl
set_option maxRecDepth 20000 in
theorem u_1331 : (Jvm.Cond.code ({ cls := "EnvelopePlannerModel", name := "moneyIn", desc := "(I)J" } : Jvm.MethodName) prog_11_method_28_code (2 : Nat) (Option.some Jvm.ClassFile.FieldType.long)) ∈ wU := wu_6 131 rfl rfl
set_option maxRecDepth 20000 in
theorem u_1332 : (Jvm.Cond.methodLink "EnvelopePlannerModel" (202 : Nat) ({ cls := "EnvelopePlannerModel", name := "moves", desc := "(III)I" } : Jvm.MethodName)) ∈ wU := wu_6 132 rfl rfl
set_option maxRecDepth 20000 in
theorem u_1334 : (Jvm.Cond.instanceMethod ({ cls := "EnvelopePlannerModel", name := "moves", desc := "(III)I" } : Jvm.MethodName)) ∈ wU := wu_6 134 rfl rfl
set_option maxRecDepth 20000 in
theorem u_1335 : (Jvm.Cond.code ({ cls := "EnvelopePlannerModel", name := "moves", desc := "(III)I" } : Jvm.MethodName) prog_11_method_29_code (6 : Nat) (Option.some Jvm.ClassFile.FieldType.int)) ∈ wU := wu_6 135 rfl rfl
set_option maxRecDepth 20000 in
theorem u_1336 : (Jvm.Cond.methodLink "EnvelopePlannerModel" (208 : Nat) ({ cls := "EnvelopePlannerModel", name := "day", desc := "()V" } : Jvm.MethodName)) ∈ wU := wu_6 136 rfl rfl
set_option maxRecDepth 20000 in
theorem u_1338 : (Jvm.Cond.instanceMethod ({ cls := "EnvelopePlannerModel", name := "day", desc := "()V" } : Jvm.MethodName)) ∈ wU := wu_6 138 rfl rfl
set_option maxRecDepth 20000 in
theorem u_1339 : (Jvm.Cond.code ({ cls := "EnvelopePlannerModel", name := "day", desc := "()V" } : Jvm.MethodName) prog_11_method_21_code (6 : Nat) (Option.none : Option Jvm.ClassFile.FieldType)) ∈ wU := wu_6 139 rfl rfl
set_option maxRecDepth 20000 in
theorem u_1340 : (Jvm.Cond.methodLink "EnvelopePlannerModel" (145 : Nat) ({ cls := "EnvelopePlannerModel", name := "carriesOut", desc := "(I)V" } : Jvm.MethodName)) ∈ wU := wu_6 140 rfl rfl
set_option maxRecDepth 20000 in
theorem u_1342 : (Jvm.Cond.instanceMethod ({ cls := "EnvelopePlannerModel", name := "carriesOut", desc := "(I)V" } : Jvm.MethodName)) ∈ wU := wu_6 142 rfl rfl
set_option maxRecDepth 20000 in
theorem u_1343 : (Jvm.Cond.code ({ cls := "EnvelopePlannerModel", name := "carriesOut", desc := "(I)V" } : Jvm.MethodName) prog_11_method_20_code (5 : Nat) (Option.none : Option Jvm.ClassFile.FieldType)) ∈ wU := wu_6 143 rfl rfl
set_option maxRecDepth 20000 in
theorem u_1344 : (Jvm.Cond.constantLong "EnvelopePlannerModel" (149 : Nat) (30 : Int64)) ∈ wU := wu_6 144 rfl rfl
set_option maxRecDepth 20000 in
theorem u_1345 : (Jvm.Cond.methodLink "EnvelopePlannerModel" (218 : Nat) ({ cls := "EnvelopePlannerModel", name := "laysStep", desc := "(IIIIII)V" } : Jvm.MethodName)) ∈ wU := wu_6 145 rfl rfl
set_option maxRecDepth 20000 in
theorem u_1347 : (Jvm.Cond.instanceMethod ({ cls := "EnvelopePlannerModel", name := "laysStep", desc := "(IIIIII)V" } : Jvm.MethodName)) ∈ wU := wu_6 147 rfl rfl
set_option maxRecDepth 20000 in
theorem u_1348 : (Jvm.Cond.code ({ cls := "EnvelopePlannerModel", name := "laysStep", desc := "(IIIIII)V" } : Jvm.MethodName) prog_11_method_35_code (8 : Nat) (Option.none : Option Jvm.ClassFile.FieldType)) ∈ wU := wu_6 148 rfl rfl
set_option maxRecDepth 20000 in
theorem u_1349 : (Jvm.Cond.methodLink "EnvelopePlannerModel" (226 : Nat) ({ cls := "EnvelopePlannerModel", name := "told", desc := "(IIII)I" } : Jvm.MethodName)) ∈ wU := wu_6 149 rfl rfl
set_option maxRecDepth 20000 in
theorem u_1351 : (Jvm.Cond.instanceMethod ({ cls := "EnvelopePlannerModel", name := "told", desc := "(IIII)I" } : Jvm.MethodName)) ∈ wU := wu_6 151 rfl rfl
set_option maxRecDepth 20000 in
theorem u_1352 : (Jvm.Cond.code ({ cls := "EnvelopePlannerModel", name := "told", desc := "(IIII)I" } : Jvm.MethodName) prog_11_method_36_code (5 : Nat) (Option.some Jvm.ClassFile.FieldType.int)) ∈ wU := wu_6 152 rfl rfl
set_option maxRecDepth 20000 in
theorem u_1353 : (Jvm.Cond.methodLink "EnvelopePlannerLaw" (152 : Nat) ({ cls := "EnvelopePlannerModel", name := "setCap", desc := "(II)I" } : Jvm.MethodName)) ∈ wU := wu_6 153 rfl rfl
set_option maxRecDepth 20000 in
theorem u_1354 : (Jvm.Cond.instanceMethod ({ cls := "EnvelopePlannerModel", name := "setCap", desc := "(II)I" } : Jvm.MethodName)) ∈ wU := wu_6 154 rfl rfl
set_option maxRecDepth 20000 in
theorem u_1355 : (Jvm.Cond.selects "EnvelopePlannerModel" ({ cls := "EnvelopePlannerModel", name := "setCap", desc := "(II)I" } : Jvm.MethodName) ({ cls := "EnvelopePlannerModel", name := "setCap", desc := "(II)I" } : Jvm.MethodName)) ∈ wU := wu_6 155 rfl rfl
set_option maxRecDepth 20000 in
theorem u_1356 : (Jvm.Cond.code ({ cls := "EnvelopePlannerModel", name := "setCap", desc := "(II)I" } : Jvm.MethodName) prog_11_method_38_code (3 : Nat) (Option.some Jvm.ClassFile.FieldType.int)) ∈ wU := wu_6 156 rfl rfl
set_option maxRecDepth 20000 in
theorem u_1357 : (Jvm.Cond.methodLink "EnvelopePlannerLaw" (155 : Nat) ({ cls := "EnvelopePlannerModel", name := "setRollover", desc := "(II)I" } : Jvm.MethodName)) ∈ wU := wu_6 157 rfl rfl
set_option maxRecDepth 20000 in
theorem u_1358 : (Jvm.Cond.instanceMethod ({ cls := "EnvelopePlannerModel", name := "setRollover", desc := "(II)I" } : Jvm.MethodName)) ∈ wU := wu_6 158 rfl rfl
set_option maxRecDepth 20000 in
theorem u_1359 : (Jvm.Cond.selects "EnvelopePlannerModel" ({ cls := "EnvelopePlannerModel", name := "setRollover", desc := "(II)I" } : Jvm.MethodName) ({ cls := "EnvelopePlannerModel", name := "setRollover", desc := "(II)I" } : Jvm.MethodName)) ∈ wU := wu_6 159 rfl rfl
set_option maxRecDepth 20000 in
theorem u_1360 : (Jvm.Cond.code ({ cls := "EnvelopePlannerModel", name := "setRollover", desc := "(II)I" } : Jvm.MethodName) prog_11_method_39_code (3 : Nat) (Option.some Jvm.ClassFile.FieldType.int)) ∈ wU := wu_6 160 rfl rfl
set_option maxRecDepth 20000 in
theorem u_1361 : (Jvm.Cond.methodLink "EnvelopePlannerLaw" (159 : Nat) ({ cls := "EnvelopePlannerModel", name := "addRule", desc := "(III)I" } : Jvm.MethodName)) ∈ wU := wu_6 161 rfl rfl
set_option maxRecDepth 20000 in
theorem u_1362 : (Jvm.Cond.instanceMethod ({ cls := "EnvelopePlannerModel", name := "addRule", desc := "(III)I" } : Jvm.MethodName)) ∈ wU := wu_6 162 rfl rfl
set_option maxRecDepth 20000 in
theorem u_1363 : (Jvm.Cond.selects "EnvelopePlannerModel" ({ cls := "EnvelopePlannerModel", name := "addRule", desc := "(III)I" } : Jvm.MethodName) ({ cls := "EnvelopePlannerModel", name := "addRule", desc := "(III)I" } : Jvm.MethodName)) ∈ wU := wu_6 163 rfl rfl
set_option maxRecDepth 20000 in
theorem u_1364 : (Jvm.Cond.code ({ cls := "EnvelopePlannerModel", name := "addRule", desc := "(III)I" } : Jvm.MethodName) prog_11_method_40_code (4 : Nat) (Option.some Jvm.ClassFile.FieldType.int)) ∈ wU := wu_6 164 rfl rfl
set_option maxRecDepth 20000 in
theorem u_1365 : (Jvm.Cond.methodLink "EnvelopePlannerLaw" (163 : Nat) ({ cls := "EnvelopePlannerModel", name := "removeRule", desc := "(I)I" } : Jvm.MethodName)) ∈ wU := wu_6 165 rfl rfl
set_option maxRecDepth 20000 in
theorem u_1366 : (Jvm.Cond.instanceMethod ({ cls := "EnvelopePlannerModel", name := "removeRule", desc := "(I)I" } : Jvm.MethodName)) ∈ wU := wu_6 166 rfl rfl
set_option maxRecDepth 20000 in
theorem u_1367 : (Jvm.Cond.selects "EnvelopePlannerModel" ({ cls := "EnvelopePlannerModel", name := "removeRule", desc := "(I)I" } : Jvm.MethodName) ({ cls := "EnvelopePlannerModel", name := "removeRule", desc := "(I)I" } : Jvm.MethodName)) ∈ wU := wu_6 167 rfl rfl
set_option maxRecDepth 20000 in
theorem u_1368 : (Jvm.Cond.code ({ cls := "EnvelopePlannerModel", name := "removeRule", desc := "(I)I" } : Jvm.MethodName) prog_11_method_41_code (2 : Nat) (Option.some Jvm.ClassFile.FieldType.int)) ∈ wU := wu_6 168 rfl rfl
set_option maxRecDepth 20000 in
theorem u_1369 : (Jvm.Cond.methodLink "EnvelopePlannerLaw" (167 : Nat) ({ cls := "EnvelopePlannerModel", name := "addLink", desc := "(IIII)I" } : Jvm.MethodName)) ∈ wU := wu_6 169 rfl rfl
set_option maxRecDepth 20000 in
theorem u_1370 : (Jvm.Cond.instanceMethod ({ cls := "EnvelopePlannerModel", name := "addLink", desc := "(IIII)I" } : Jvm.MethodName)) ∈ wU := wu_6 170 rfl rfl
set_option maxRecDepth 20000 in
theorem u_1371 : (Jvm.Cond.selects "EnvelopePlannerModel" ({ cls := "EnvelopePlannerModel", name := "addLink", desc := "(IIII)I" } : Jvm.MethodName) ({ cls := "EnvelopePlannerModel", name := "addLink", desc := "(IIII)I" } : Jvm.MethodName)) ∈ wU := wu_6 171 rfl rfl
set_option maxRecDepth 20000 in
theorem u_1372 : (Jvm.Cond.code ({ cls := "EnvelopePlannerModel", name := "addLink", desc := "(IIII)I" } : Jvm.MethodName) prog_11_method_42_code (5 : Nat) (Option.some Jvm.ClassFile.FieldType.int)) ∈ wU := wu_6 172 rfl rfl
set_option maxRecDepth 20000 in
theorem u_1373 : (Jvm.Cond.methodLink "EnvelopePlannerLaw" (170 : Nat) ({ cls := "EnvelopePlannerModel", name := "removeLink", desc := "(I)I" } : Jvm.MethodName)) ∈ wU := wu_6 173 rfl rfl
set_option maxRecDepth 20000 in
theorem u_1374 : (Jvm.Cond.instanceMethod ({ cls := "EnvelopePlannerModel", name := "removeLink", desc := "(I)I" } : Jvm.MethodName)) ∈ wU := wu_6 174 rfl rfl
set_option maxRecDepth 20000 in
theorem u_1375 : (Jvm.Cond.selects "EnvelopePlannerModel" ({ cls := "EnvelopePlannerModel", name := "removeLink", desc := "(I)I" } : Jvm.MethodName) ({ cls := "EnvelopePlannerModel", name := "removeLink", desc := "(I)I" } : Jvm.MethodName)) ∈ wU := wu_6 175 rfl rfl
set_option maxRecDepth 20000 in
theorem u_1376 : (Jvm.Cond.code ({ cls := "EnvelopePlannerModel", name := "removeLink", desc := "(I)I" } : Jvm.MethodName) prog_11_method_43_code (2 : Nat) (Option.some Jvm.ClassFile.FieldType.int)) ∈ wU := wu_6 176 rfl rfl
set_option maxRecDepth 20000 in
theorem u_1377 : (Jvm.Cond.methodLink "EnvelopePlannerLaw" (173 : Nat) ({ cls := "EnvelopePlannerModel", name := "addItem", desc := "(IIII)I" } : Jvm.MethodName)) ∈ wU := wu_6 177 rfl rfl
set_option maxRecDepth 20000 in
theorem u_1378 : (Jvm.Cond.instanceMethod ({ cls := "EnvelopePlannerModel", name := "addItem", desc := "(IIII)I" } : Jvm.MethodName)) ∈ wU := wu_6 178 rfl rfl
set_option maxRecDepth 20000 in
theorem u_1379 : (Jvm.Cond.selects "EnvelopePlannerModel" ({ cls := "EnvelopePlannerModel", name := "addItem", desc := "(IIII)I" } : Jvm.MethodName) ({ cls := "EnvelopePlannerModel", name := "addItem", desc := "(IIII)I" } : Jvm.MethodName)) ∈ wU := wu_6 179 rfl rfl
set_option maxRecDepth 20000 in
theorem u_1380 : (Jvm.Cond.code ({ cls := "EnvelopePlannerModel", name := "addItem", desc := "(IIII)I" } : Jvm.MethodName) prog_11_method_44_code (5 : Nat) (Option.some Jvm.ClassFile.FieldType.int)) ∈ wU := wu_6 180 rfl rfl
set_option maxRecDepth 20000 in
theorem u_1381 : (Jvm.Cond.methodLink "EnvelopePlannerLaw" (176 : Nat) ({ cls := "EnvelopePlannerModel", name := "removeItem", desc := "(I)I" } : Jvm.MethodName)) ∈ wU := wu_6 181 rfl rfl
set_option maxRecDepth 20000 in
theorem u_1382 : (Jvm.Cond.instanceMethod ({ cls := "EnvelopePlannerModel", name := "removeItem", desc := "(I)I" } : Jvm.MethodName)) ∈ wU := wu_6 182 rfl rfl
set_option maxRecDepth 20000 in
theorem u_1383 : (Jvm.Cond.selects "EnvelopePlannerModel" ({ cls := "EnvelopePlannerModel", name := "removeItem", desc := "(I)I" } : Jvm.MethodName) ({ cls := "EnvelopePlannerModel", name := "removeItem", desc := "(I)I" } : Jvm.MethodName)) ∈ wU := wu_6 183 rfl rfl
set_option maxRecDepth 20000 in
theorem u_1384 : (Jvm.Cond.code ({ cls := "EnvelopePlannerModel", name := "removeItem", desc := "(I)I" } : Jvm.MethodName) prog_11_method_45_code (2 : Nat) (Option.some Jvm.ClassFile.FieldType.int)) ∈ wU := wu_6 184 rfl rfl
set_option maxRecDepth 20000 in
theorem u_1385 : (Jvm.Cond.methodLink "EnvelopePlannerLaw" (179 : Nat) ({ cls := "EnvelopePlannerModel", name := "receive", desc := "(I)I" } : Jvm.MethodName)) ∈ wU := wu_6 185 rfl rfl
set_option maxRecDepth 20000 in
theorem u_1386 : (Jvm.Cond.instanceMethod ({ cls := "EnvelopePlannerModel", name := "receive", desc := "(I)I" } : Jvm.MethodName)) ∈ wU := wu_6 186 rfl rfl
set_option maxRecDepth 20000 in
theorem u_1387 : (Jvm.Cond.selects "EnvelopePlannerModel" ({ cls := "EnvelopePlannerModel", name := "receive", desc := "(I)I" } : Jvm.MethodName) ({ cls := "EnvelopePlannerModel", name := "receive", desc := "(I)I" } : Jvm.MethodName)) ∈ wU := wu_6 187 rfl rfl
set_option maxRecDepth 20000 in
theorem u_1388 : (Jvm.Cond.code ({ cls := "EnvelopePlannerModel", name := "receive", desc := "(I)I" } : Jvm.MethodName) prog_11_method_46_code (2 : Nat) (Option.some Jvm.ClassFile.FieldType.int)) ∈ wU := wu_6 188 rfl rfl
set_option maxRecDepth 20000 in
theorem u_1389 : (Jvm.Cond.methodLink "EnvelopePlannerLaw" (182 : Nat) ({ cls := "EnvelopePlannerModel", name := "spend", desc := "(II)I" } : Jvm.MethodName)) ∈ wU := wu_6 189 rfl rfl
set_option maxRecDepth 20000 in
theorem u_1390 : (Jvm.Cond.instanceMethod ({ cls := "EnvelopePlannerModel", name := "spend", desc := "(II)I" } : Jvm.MethodName)) ∈ wU := wu_6 190 rfl rfl
set_option maxRecDepth 20000 in
theorem u_1391 : (Jvm.Cond.selects "EnvelopePlannerModel" ({ cls := "EnvelopePlannerModel", name := "spend", desc := "(II)I" } : Jvm.MethodName) ({ cls := "EnvelopePlannerModel", name := "spend", desc := "(II)I" } : Jvm.MethodName)) ∈ wU := wu_6 191 rfl rfl
set_option maxRecDepth 20000 in
theorem u_1392 : (Jvm.Cond.code ({ cls := "EnvelopePlannerModel", name := "spend", desc := "(II)I" } : Jvm.MethodName) prog_11_method_47_code (3 : Nat) (Option.some Jvm.ClassFile.FieldType.int)) ∈ wU := wu_6 192 rfl rfl
set_option maxRecDepth 20000 in
theorem u_1393 : (Jvm.Cond.methodLink "EnvelopePlannerLaw" (185 : Nat) ({ cls := "EnvelopePlannerModel", name := "move", desc := "(III)I" } : Jvm.MethodName)) ∈ wU := wu_6 193 rfl rfl
set_option maxRecDepth 20000 in
theorem u_1394 : (Jvm.Cond.instanceMethod ({ cls := "EnvelopePlannerModel", name := "move", desc := "(III)I" } : Jvm.MethodName)) ∈ wU := wu_6 194 rfl rfl
set_option maxRecDepth 20000 in
theorem u_1395 : (Jvm.Cond.selects "EnvelopePlannerModel" ({ cls := "EnvelopePlannerModel", name := "move", desc := "(III)I" } : Jvm.MethodName) ({ cls := "EnvelopePlannerModel", name := "move", desc := "(III)I" } : Jvm.MethodName)) ∈ wU := wu_6 195 rfl rfl
set_option maxRecDepth 20000 in
theorem u_1396 : (Jvm.Cond.code ({ cls := "EnvelopePlannerModel", name := "move", desc := "(III)I" } : Jvm.MethodName) prog_11_method_48_code (4 : Nat) (Option.some Jvm.ClassFile.FieldType.int)) ∈ wU := wu_6 196 rfl rfl
set_option maxRecDepth 20000 in
theorem u_1397 : (Jvm.Cond.methodLink "EnvelopePlannerLaw" (188 : Nat) ({ cls := "EnvelopePlannerModel", name := "advance", desc := "(I)I" } : Jvm.MethodName)) ∈ wU := wu_6 197 rfl rfl
set_option maxRecDepth 20000 in
theorem u_1398 : (Jvm.Cond.instanceMethod ({ cls := "EnvelopePlannerModel", name := "advance", desc := "(I)I" } : Jvm.MethodName)) ∈ wU := wu_6 198 rfl rfl
set_option maxRecDepth 20000 in
theorem u_1399 : (Jvm.Cond.selects "EnvelopePlannerModel" ({ cls := "EnvelopePlannerModel", name := "advance", desc := "(I)I" } : Jvm.MethodName) ({ cls := "EnvelopePlannerModel", name := "advance", desc := "(I)I" } : Jvm.MethodName)) ∈ wU := wu_6 199 rfl rfl
set_option maxRecDepth 20000 in
theorem u_1400 : (Jvm.Cond.code ({ cls := "EnvelopePlannerModel", name := "advance", desc := "(I)I" } : Jvm.MethodName) prog_11_method_49_code (2 : Nat) (Option.some Jvm.ClassFile.FieldType.int)) ∈ wU := wu_6 200 rfl rfl
set_option maxRecDepth 20000 in
theorem u_1401 : (Jvm.Cond.methodLink "EnvelopePlannerLaw" (191 : Nat) ({ cls := "EnvelopePlannerModel", name := "envelope", desc := "(II)J" } : Jvm.MethodName)) ∈ wU := wu_6 201 rfl rfl
set_option maxRecDepth 20000 in
theorem u_1402 : (Jvm.Cond.instanceMethod ({ cls := "EnvelopePlannerModel", name := "envelope", desc := "(II)J" } : Jvm.MethodName)) ∈ wU := wu_6 202 rfl rfl
set_option maxRecDepth 20000 in
theorem u_1403 : (Jvm.Cond.selects "EnvelopePlannerModel" ({ cls := "EnvelopePlannerModel", name := "envelope", desc := "(II)J" } : Jvm.MethodName) ({ cls := "EnvelopePlannerModel", name := "envelope", desc := "(II)J" } : Jvm.MethodName)) ∈ wU := wu_6 203 rfl rfl
set_option maxRecDepth 20000 in
theorem u_1404 : (Jvm.Cond.code ({ cls := "EnvelopePlannerModel", name := "envelope", desc := "(II)J" } : Jvm.MethodName) prog_11_method_51_code (3 : Nat) (Option.some Jvm.ClassFile.FieldType.long)) ∈ wU := wu_6 204 rfl rfl
set_option maxRecDepth 20000 in
theorem u_1405 : (Jvm.Cond.methodLink "EnvelopePlannerModel" (229 : Nat) ({ cls := "EnvelopePlannerModel", name := "begins", desc := "()V" } : Jvm.MethodName)) ∈ wU := wu_6 205 rfl rfl
set_option maxRecDepth 20000 in
theorem u_1407 : (Jvm.Cond.instanceMethod ({ cls := "EnvelopePlannerModel", name := "begins", desc := "()V" } : Jvm.MethodName)) ∈ wU := wu_6 207 rfl rfl
set_option maxRecDepth 20000 in
theorem u_1408 : (Jvm.Cond.code ({ cls := "EnvelopePlannerModel", name := "begins", desc := "()V" } : Jvm.MethodName) prog_11_method_50_code (1 : Nat) (Option.none : Option Jvm.ClassFile.FieldType)) ∈ wU := wu_6 208 rfl rfl
set_option maxRecDepth 20000 in
theorem u_1409 : (Jvm.Cond.methodLink "EnvelopePlannerModel" (232 : Nat) ({ cls := "EnvelopePlannerModel", name := "fails", desc := "(I)I" } : Jvm.MethodName)) ∈ wU := wu_6 209 rfl rfl
set_option maxRecDepth 20000 in
theorem u_1411 : (Jvm.Cond.instanceMethod ({ cls := "EnvelopePlannerModel", name := "fails", desc := "(I)I" } : Jvm.MethodName)) ∈ wU := wu_6 211 rfl rfl
set_option maxRecDepth 20000 in
theorem u_1412 : (Jvm.Cond.code ({ cls := "EnvelopePlannerModel", name := "fails", desc := "(I)I" } : Jvm.MethodName) prog_11_method_3_code (2 : Nat) (Option.some Jvm.ClassFile.FieldType.int)) ∈ wU := wu_6 212 rfl rfl
set_option maxRecDepth 20000 in
theorem u_1413 : (Jvm.Cond.constantLong "EnvelopePlannerModel" (235 : Nat) (4 : Int64)) ∈ wU := wu_6 213 rfl rfl
set_option maxRecDepth 20000 in
theorem u_1414 : (Jvm.Cond.methodLink "EnvelopePlannerLaw" (194 : Nat) ({ cls := "EnvelopePlannerModel", name := "rule", desc := "(II)I" } : Jvm.MethodName)) ∈ wU := wu_6 214 rfl rfl
set_option maxRecDepth 20000 in
theorem u_1415 : (Jvm.Cond.instanceMethod ({ cls := "EnvelopePlannerModel", name := "rule", desc := "(II)I" } : Jvm.MethodName)) ∈ wU := wu_6 215 rfl rfl
set_option maxRecDepth 20000 in
theorem u_1416 : (Jvm.Cond.selects "EnvelopePlannerModel" ({ cls := "EnvelopePlannerModel", name := "rule", desc := "(II)I" } : Jvm.MethodName) ({ cls := "EnvelopePlannerModel", name := "rule", desc := "(II)I" } : Jvm.MethodName)) ∈ wU := wu_6 216 rfl rfl
set_option maxRecDepth 20000 in
theorem u_1417 : (Jvm.Cond.code ({ cls := "EnvelopePlannerModel", name := "rule", desc := "(II)I" } : Jvm.MethodName) prog_11_method_52_code (3 : Nat) (Option.some Jvm.ClassFile.FieldType.int)) ∈ wU := wu_6 217 rfl rfl
set_option maxRecDepth 20000 in
theorem u_1418 : (Jvm.Cond.methodLink "EnvelopePlannerLaw" (197 : Nat) ({ cls := "EnvelopePlannerModel", name := "split", desc := "(II)I" } : Jvm.MethodName)) ∈ wU := wu_6 218 rfl rfl
set_option maxRecDepth 20000 in
theorem u_1419 : (Jvm.Cond.instanceMethod ({ cls := "EnvelopePlannerModel", name := "split", desc := "(II)I" } : Jvm.MethodName)) ∈ wU := wu_6 219 rfl rfl
set_option maxRecDepth 20000 in
theorem u_1420 : (Jvm.Cond.selects "EnvelopePlannerModel" ({ cls := "EnvelopePlannerModel", name := "split", desc := "(II)I" } : Jvm.MethodName) ({ cls := "EnvelopePlannerModel", name := "split", desc := "(II)I" } : Jvm.MethodName)) ∈ wU := wu_6 220 rfl rfl
set_option maxRecDepth 20000 in
theorem u_1421 : (Jvm.Cond.code ({ cls := "EnvelopePlannerModel", name := "split", desc := "(II)I" } : Jvm.MethodName) prog_11_method_53_code (7 : Nat) (Option.some Jvm.ClassFile.FieldType.int)) ∈ wU := wu_6 221 rfl rfl
set_option maxRecDepth 20000 in
theorem u_1422 : (Jvm.Cond.methodLink "EnvelopePlannerModel" (237 : Nat) ({ cls := "EnvelopePlannerModel", name := "copies", desc := "(II)V" } : Jvm.MethodName)) ∈ wU := wu_6 222 rfl rfl
set_option maxRecDepth 20000 in
theorem u_1424 : (Jvm.Cond.instanceMethod ({ cls := "EnvelopePlannerModel", name := "copies", desc := "(II)V" } : Jvm.MethodName)) ∈ wU := wu_6 224 rfl rfl
set_option maxRecDepth 20000 in
theorem u_1425 : (Jvm.Cond.code ({ cls := "EnvelopePlannerModel", name := "copies", desc := "(II)V" } : Jvm.MethodName) prog_11_method_9_code (4 : Nat) (Option.none : Option Jvm.ClassFile.FieldType)) ∈ wU := wu_6 225 rfl rfl
set_option maxRecDepth 20000 in
theorem u_1426 : (Jvm.Cond.methodLink "EnvelopePlannerLaw" (200 : Nat) ({ cls := "EnvelopePlannerModel", name := "link", desc := "(II)J" } : Jvm.MethodName)) ∈ wU := wu_6 226 rfl rfl
set_option maxRecDepth 20000 in
theorem u_1427 : (Jvm.Cond.instanceMethod ({ cls := "EnvelopePlannerModel", name := "link", desc := "(II)J" } : Jvm.MethodName)) ∈ wU := wu_6 227 rfl rfl
set_option maxRecDepth 20000 in
theorem u_1428 : (Jvm.Cond.selects "EnvelopePlannerModel" ({ cls := "EnvelopePlannerModel", name := "link", desc := "(II)J" } : Jvm.MethodName) ({ cls := "EnvelopePlannerModel", name := "link", desc := "(II)J" } : Jvm.MethodName)) ∈ wU := wu_6 228 rfl rfl
set_option maxRecDepth 20000 in
theorem u_1429 : (Jvm.Cond.code ({ cls := "EnvelopePlannerModel", name := "link", desc := "(II)J" } : Jvm.MethodName) prog_11_method_54_code (3 : Nat) (Option.some Jvm.ClassFile.FieldType.long)) ∈ wU := wu_6 229 rfl rfl
set_option maxRecDepth 20000 in
theorem u_1430 : (Jvm.Cond.methodLink "EnvelopePlannerLaw" (203 : Nat) ({ cls := "EnvelopePlannerModel", name := "item", desc := "(II)I" } : Jvm.MethodName)) ∈ wU := wu_6 230 rfl rfl
set_option maxRecDepth 20000 in
theorem u_1431 : (Jvm.Cond.instanceMethod ({ cls := "EnvelopePlannerModel", name := "item", desc := "(II)I" } : Jvm.MethodName)) ∈ wU := wu_6 231 rfl rfl
set_option maxRecDepth 20000 in
theorem u_1432 : (Jvm.Cond.selects "EnvelopePlannerModel" ({ cls := "EnvelopePlannerModel", name := "item", desc := "(II)I" } : Jvm.MethodName) ({ cls := "EnvelopePlannerModel", name := "item", desc := "(II)I" } : Jvm.MethodName)) ∈ wU := wu_6 232 rfl rfl
set_option maxRecDepth 20000 in
theorem u_1433 : (Jvm.Cond.code ({ cls := "EnvelopePlannerModel", name := "item", desc := "(II)I" } : Jvm.MethodName) prog_11_method_55_code (3 : Nat) (Option.some Jvm.ClassFile.FieldType.int)) ∈ wU := wu_6 233 rfl rfl
set_option maxRecDepth 20000 in
theorem u_1434 : (Jvm.Cond.constantLong "EnvelopePlannerModel" (241 : Nat) (5 : Int64)) ∈ wU := wu_6 234 rfl rfl
set_option maxRecDepth 20000 in
theorem u_1435 : (Jvm.Cond.methodLink "EnvelopePlannerLaw" (206 : Nat) ({ cls := "EnvelopePlannerModel", name := "total", desc := "(I)J" } : Jvm.MethodName)) ∈ wU := wu_6 235 rfl rfl
set_option maxRecDepth 20000 in
theorem u_1436 : (Jvm.Cond.instanceMethod ({ cls := "EnvelopePlannerModel", name := "total", desc := "(I)J" } : Jvm.MethodName)) ∈ wU := wu_6 236 rfl rfl
set_option maxRecDepth 20000 in
theorem u_1437 : (Jvm.Cond.selects "EnvelopePlannerModel" ({ cls := "EnvelopePlannerModel", name := "total", desc := "(I)J" } : Jvm.MethodName) ({ cls := "EnvelopePlannerModel", name := "total", desc := "(I)J" } : Jvm.MethodName)) ∈ wU := wu_6 237 rfl rfl
set_option maxRecDepth 20000 in
theorem u_1438 : (Jvm.Cond.code ({ cls := "EnvelopePlannerModel", name := "total", desc := "(I)J" } : Jvm.MethodName) prog_11_method_58_code (2 : Nat) (Option.some Jvm.ClassFile.FieldType.long)) ∈ wU := wu_6 238 rfl rfl
set_option maxRecDepth 20000 in
theorem u_1439 : (Jvm.Cond.constantLong "EnvelopePlannerModel" (247 : Nat) (11 : Int64)) ∈ wU := wu_6 239 rfl rfl
set_option maxRecDepth 20000 in
theorem u_1440 : (Jvm.Cond.methodLink "EnvelopePlannerModel" (249 : Nat) ({ cls := "EnvelopePlannerModel", name := "totalOf", desc := "(I)J" } : Jvm.MethodName)) ∈ wU := wu_7 0 rfl rfl
set_option maxRecDepth 20000 in
theorem u_1442 : (Jvm.Cond.instanceMethod ({ cls := "EnvelopePlannerModel", name := "totalOf", desc := "(I)J" } : Jvm.MethodName)) ∈ wU := wu_7 2 rfl rfl
set_option maxRecDepth 20000 in
theorem u_1443 : (Jvm.Cond.code ({ cls := "EnvelopePlannerModel", name := "totalOf", desc := "(I)J" } : Jvm.MethodName) prog_11_method_57_code (2 : Nat) (Option.some Jvm.ClassFile.FieldType.long)) ∈ wU := wu_7 3 rfl rfl
set_option maxRecDepth 20000 in
theorem u_1444 : (Jvm.Cond.methodLink "EnvelopePlannerModel" (243 : Nat) ({ cls := "EnvelopePlannerModel", name := "balances", desc := "()J" } : Jvm.MethodName)) ∈ wU := wu_7 4 rfl rfl
set_option maxRecDepth 20000 in
theorem u_1446 : (Jvm.Cond.instanceMethod ({ cls := "EnvelopePlannerModel", name := "balances", desc := "()J" } : Jvm.MethodName)) ∈ wU := wu_7 6 rfl rfl
set_option maxRecDepth 20000 in
theorem u_1447 : (Jvm.Cond.code ({ cls := "EnvelopePlannerModel", name := "balances", desc := "()J" } : Jvm.MethodName) prog_11_method_56_code (4 : Nat) (Option.some Jvm.ClassFile.FieldType.long)) ∈ wU := wu_7 7 rfl rfl
set_option maxRecDepth 20000 in
theorem u_1448 : (Jvm.Cond.methodLink "EnvelopePlannerLaw" (210 : Nat) ({ cls := "EnvelopePlannerModel", name := "savedShare", desc := "()D" } : Jvm.MethodName)) ∈ wU := wu_7 8 rfl rfl
set_option maxRecDepth 20000 in
theorem u_1449 : (Jvm.Cond.instanceMethod ({ cls := "EnvelopePlannerModel", name := "savedShare", desc := "()D" } : Jvm.MethodName)) ∈ wU := wu_7 9 rfl rfl
set_option maxRecDepth 20000 in
theorem u_1450 : (Jvm.Cond.selects "EnvelopePlannerModel" ({ cls := "EnvelopePlannerModel", name := "savedShare", desc := "()D" } : Jvm.MethodName) ({ cls := "EnvelopePlannerModel", name := "savedShare", desc := "()D" } : Jvm.MethodName)) ∈ wU := wu_7 10 rfl rfl
set_option maxRecDepth 20000 in
theorem u_1451 : (Jvm.Cond.code ({ cls := "EnvelopePlannerModel", name := "savedShare", desc := "()D" } : Jvm.MethodName) prog_11_method_59_code (1 : Nat) (Option.some Jvm.ClassFile.FieldType.double)) ∈ wU := wu_7 11 rfl rfl
set_option maxRecDepth 20000 in
theorem u_1452 : (Jvm.Cond.methodLink "EnvelopePlannerLaw" (213 : Nat) ({ cls := "EnvelopePlannerModel", name := "forecast", desc := "(II)J" } : Jvm.MethodName)) ∈ wU := wu_7 12 rfl rfl
set_option maxRecDepth 20000 in
theorem u_1453 : (Jvm.Cond.instanceMethod ({ cls := "EnvelopePlannerModel", name := "forecast", desc := "(II)J" } : Jvm.MethodName)) ∈ wU := wu_7 13 rfl rfl
set_option maxRecDepth 20000 in
theorem u_1454 : (Jvm.Cond.selects "EnvelopePlannerModel" ({ cls := "EnvelopePlannerModel", name := "forecast", desc := "(II)J" } : Jvm.MethodName) ({ cls := "EnvelopePlannerModel", name := "forecast", desc := "(II)J" } : Jvm.MethodName)) ∈ wU := wu_7 14 rfl rfl
set_option maxRecDepth 20000 in
theorem u_1455 : (Jvm.Cond.code ({ cls := "EnvelopePlannerModel", name := "forecast", desc := "(II)J" } : Jvm.MethodName) prog_11_method_61_code (10 : Nat) (Option.some Jvm.ClassFile.FieldType.long)) ∈ wU := wu_7 15 rfl rfl
set_option maxRecDepth 20000 in
theorem u_1456 : (Jvm.Cond.methodLink "EnvelopePlannerModel" (252 : Nat) ({ cls := "EnvelopePlannerModel", name := "thinks", desc := "()V" } : Jvm.MethodName)) ∈ wU := wu_7 16 rfl rfl
set_option maxRecDepth 20000 in
theorem u_1458 : (Jvm.Cond.instanceMethod ({ cls := "EnvelopePlannerModel", name := "thinks", desc := "()V" } : Jvm.MethodName)) ∈ wU := wu_7 18 rfl rfl
set_option maxRecDepth 20000 in
theorem u_1459 : (Jvm.Cond.code ({ cls := "EnvelopePlannerModel", name := "thinks", desc := "()V" } : Jvm.MethodName) prog_11_method_60_code (1 : Nat) (Option.none : Option Jvm.ClassFile.FieldType)) ∈ wU := wu_7 19 rfl rfl
set_option maxRecDepth 20000 in
theorem u_1460 : (Jvm.Cond.constantLong "EnvelopePlannerModel" (255 : Nat) (200 : Int64)) ∈ wU := wu_7 20 rfl rfl
set_option maxRecDepth 20000 in
theorem u_1461 : (Jvm.Cond.constantLong "EnvelopePlannerModel" (257 : Nat) (9 : Int64)) ∈ wU := wu_7 21 rfl rfl
set_option maxRecDepth 20000 in
theorem u_1462 : (Jvm.Cond.methodLink "EnvelopePlannerLaw" (216 : Nat) ({ cls := "EnvelopePlannerModel", name := "daysUntil", desc := "(II)I" } : Jvm.MethodName)) ∈ wU := wu_7 22 rfl rfl
set_option maxRecDepth 20000 in
theorem u_1463 : (Jvm.Cond.instanceMethod ({ cls := "EnvelopePlannerModel", name := "daysUntil", desc := "(II)I" } : Jvm.MethodName)) ∈ wU := wu_7 23 rfl rfl
set_option maxRecDepth 20000 in
theorem u_1464 : (Jvm.Cond.selects "EnvelopePlannerModel" ({ cls := "EnvelopePlannerModel", name := "daysUntil", desc := "(II)I" } : Jvm.MethodName) ({ cls := "EnvelopePlannerModel", name := "daysUntil", desc := "(II)I" } : Jvm.MethodName)) ∈ wU := wu_7 24 rfl rfl
set_option maxRecDepth 20000 in
theorem u_1465 : (Jvm.Cond.code ({ cls := "EnvelopePlannerModel", name := "daysUntil", desc := "(II)I" } : Jvm.MethodName) prog_11_method_62_code (4 : Nat) (Option.some Jvm.ClassFile.FieldType.int)) ∈ wU := wu_7 25 rfl rfl
set_option maxRecDepth 20000 in
theorem u_1466 : (Jvm.Cond.methodLink "EnvelopePlannerLaw" (219 : Nat) ({ cls := "EnvelopePlannerModel", name := "spare", desc := "(II)I" } : Jvm.MethodName)) ∈ wU := wu_7 26 rfl rfl
set_option maxRecDepth 20000 in
theorem u_1467 : (Jvm.Cond.instanceMethod ({ cls := "EnvelopePlannerModel", name := "spare", desc := "(II)I" } : Jvm.MethodName)) ∈ wU := wu_7 27 rfl rfl
set_option maxRecDepth 20000 in
theorem u_1468 : (Jvm.Cond.selects "EnvelopePlannerModel" ({ cls := "EnvelopePlannerModel", name := "spare", desc := "(II)I" } : Jvm.MethodName) ({ cls := "EnvelopePlannerModel", name := "spare", desc := "(II)I" } : Jvm.MethodName)) ∈ wU := wu_7 28 rfl rfl
set_option maxRecDepth 20000 in
theorem u_1469 : (Jvm.Cond.code ({ cls := "EnvelopePlannerModel", name := "spare", desc := "(II)I" } : Jvm.MethodName) prog_11_method_64_code (6 : Nat) (Option.some Jvm.ClassFile.FieldType.int)) ∈ wU := wu_7 29 rfl rfl
set_option maxRecDepth 20000 in
theorem u_1470 : (Jvm.Cond.constant "EnvelopePlannerModel" (259 : Nat) (1000001 : Int32)) ∈ wU := wu_7 30 rfl rfl
set_option maxRecDepth 20000 in
theorem u_1471 : (Jvm.Cond.methodLink "EnvelopePlannerModel" (260 : Nat) ({ cls := "EnvelopePlannerModel", name := "isSpared", desc := "(III)Z" } : Jvm.MethodName)) ∈ wU := wu_7 31 rfl rfl
set_option maxRecDepth 20000 in
theorem u_1473 : (Jvm.Cond.instanceMethod ({ cls := "EnvelopePlannerModel", name := "isSpared", desc := "(III)Z" } : Jvm.MethodName)) ∈ wU := wu_7 33 rfl rfl
set_option maxRecDepth 20000 in
theorem u_1474 : (Jvm.Cond.code ({ cls := "EnvelopePlannerModel", name := "isSpared", desc := "(III)Z" } : Jvm.MethodName) prog_11_method_63_code (8 : Nat) (Option.some Jvm.ClassFile.FieldType.boolean)) ∈ wU := wu_7 34 rfl rfl
set_option maxRecDepth 20000 in
theorem u_1475 : (Jvm.Cond.methodLink "EnvelopePlannerLaw" (223 : Nat) ({ cls := "EnvelopePlannerModel", name := "fork", desc := "()I" } : Jvm.MethodName)) ∈ wU := wu_7 35 rfl rfl
set_option maxRecDepth 20000 in
theorem u_1476 : (Jvm.Cond.instanceMethod ({ cls := "EnvelopePlannerModel", name := "fork", desc := "()I" } : Jvm.MethodName)) ∈ wU := wu_7 36 rfl rfl
set_option maxRecDepth 20000 in
theorem u_1477 : (Jvm.Cond.selects "EnvelopePlannerModel" ({ cls := "EnvelopePlannerModel", name := "fork", desc := "()I" } : Jvm.MethodName) ({ cls := "EnvelopePlannerModel", name := "fork", desc := "()I" } : Jvm.MethodName)) ∈ wU := wu_7 37 rfl rfl
set_option maxRecDepth 20000 in
theorem u_1478 : (Jvm.Cond.code ({ cls := "EnvelopePlannerModel", name := "fork", desc := "()I" } : Jvm.MethodName) prog_11_method_68_code (2 : Nat) (Option.some Jvm.ClassFile.FieldType.int)) ∈ wU := wu_7 38 rfl rfl
set_option maxRecDepth 20000 in
theorem u_1479 : (Jvm.Cond.methodLink "EnvelopePlannerModel" (264 : Nat) ({ cls := "EnvelopePlannerModel", name := "startOf", desc := "(I)I" } : Jvm.MethodName)) ∈ wU := wu_7 39 rfl rfl
set_option maxRecDepth 20000 in
theorem u_1480 : (Jvm.Cond.static ({ cls := "EnvelopePlannerModel", name := "startOf", desc := "(I)I" } : Jvm.MethodName)) ∈ wU := wu_7 40 rfl rfl
set_option maxRecDepth 20000 in
theorem u_1481 : (Jvm.Cond.code ({ cls := "EnvelopePlannerModel", name := "startOf", desc := "(I)I" } : Jvm.MethodName) prog_11_method_11_code (1 : Nat) (Option.some Jvm.ClassFile.FieldType.int)) ∈ wU := wu_7 41 rfl rfl
set_option maxRecDepth 20000 in
theorem u_1482 : (Jvm.Cond.methodLink "EnvelopePlannerLaw" (226 : Nat) ({ cls := "EnvelopePlannerModel", name := "select", desc := "(I)I" } : Jvm.MethodName)) ∈ wU := wu_7 42 rfl rfl
set_option maxRecDepth 20000 in
theorem u_1483 : (Jvm.Cond.instanceMethod ({ cls := "EnvelopePlannerModel", name := "select", desc := "(I)I" } : Jvm.MethodName)) ∈ wU := wu_7 43 rfl rfl
set_option maxRecDepth 20000 in
theorem u_1484 : (Jvm.Cond.selects "EnvelopePlannerModel" ({ cls := "EnvelopePlannerModel", name := "select", desc := "(I)I" } : Jvm.MethodName) ({ cls := "EnvelopePlannerModel", name := "select", desc := "(I)I" } : Jvm.MethodName)) ∈ wU := wu_7 44 rfl rfl
set_option maxRecDepth 20000 in
theorem u_1485 : (Jvm.Cond.code ({ cls := "EnvelopePlannerModel", name := "select", desc := "(I)I" } : Jvm.MethodName) prog_11_method_69_code (3 : Nat) (Option.some Jvm.ClassFile.FieldType.int)) ∈ wU := wu_7 45 rfl rfl
set_option maxRecDepth 20000 in
theorem u_1486 : (Jvm.Cond.methodLink "EnvelopePlannerModel" (267 : Nat) ({ cls := "EnvelopePlannerModel", name := "isBranch", desc := "(I)Z" } : Jvm.MethodName)) ∈ wU := wu_7 46 rfl rfl
set_option maxRecDepth 20000 in
theorem u_1488 : (Jvm.Cond.instanceMethod ({ cls := "EnvelopePlannerModel", name := "isBranch", desc := "(I)Z" } : Jvm.MethodName)) ∈ wU := wu_7 48 rfl rfl
set_option maxRecDepth 20000 in
theorem u_1489 : (Jvm.Cond.code ({ cls := "EnvelopePlannerModel", name := "isBranch", desc := "(I)Z" } : Jvm.MethodName) prog_11_method_65_code (2 : Nat) (Option.some Jvm.ClassFile.FieldType.boolean)) ∈ wU := wu_7 49 rfl rfl
set_option maxRecDepth 20000 in
theorem u_1490 : (Jvm.Cond.methodLink "EnvelopePlannerLaw" (229 : Nat) ({ cls := "EnvelopePlannerModel", name := "discard", desc := "(I)I" } : Jvm.MethodName)) ∈ wU := wu_7 50 rfl rfl
set_option maxRecDepth 20000 in
theorem u_1491 : (Jvm.Cond.instanceMethod ({ cls := "EnvelopePlannerModel", name := "discard", desc := "(I)I" } : Jvm.MethodName)) ∈ wU := wu_7 51 rfl rfl
set_option maxRecDepth 20000 in
theorem u_1492 : (Jvm.Cond.selects "EnvelopePlannerModel" ({ cls := "EnvelopePlannerModel", name := "discard", desc := "(I)I" } : Jvm.MethodName) ({ cls := "EnvelopePlannerModel", name := "discard", desc := "(I)I" } : Jvm.MethodName)) ∈ wU := wu_7 52 rfl rfl
set_option maxRecDepth 20000 in
theorem u_1493 : (Jvm.Cond.code ({ cls := "EnvelopePlannerModel", name := "discard", desc := "(I)I" } : Jvm.MethodName) prog_11_method_71_code (3 : Nat) (Option.some Jvm.ClassFile.FieldType.int)) ∈ wU := wu_7 53 rfl rfl
set_option maxRecDepth 20000 in
theorem u_1494 : (Jvm.Cond.methodLink "EnvelopePlannerModel" (273 : Nat) ({ cls := "EnvelopePlannerModel", name := "isHeld", desc := "(I)Z" } : Jvm.MethodName)) ∈ wU := wu_7 54 rfl rfl
set_option maxRecDepth 20000 in
theorem u_1496 : (Jvm.Cond.instanceMethod ({ cls := "EnvelopePlannerModel", name := "isHeld", desc := "(I)Z" } : Jvm.MethodName)) ∈ wU := wu_7 56 rfl rfl
set_option maxRecDepth 20000 in
theorem u_1497 : (Jvm.Cond.code ({ cls := "EnvelopePlannerModel", name := "isHeld", desc := "(I)Z" } : Jvm.MethodName) prog_11_method_70_code (2 : Nat) (Option.some Jvm.ClassFile.FieldType.boolean)) ∈ wU := wu_7 57 rfl rfl
set_option maxRecDepth 20000 in
theorem u_1498 : (Jvm.Cond.methodLink "EnvelopePlannerModel" (270 : Nat) ({ cls := "EnvelopePlannerModel", name := "children", desc := "(I)I" } : Jvm.MethodName)) ∈ wU := wu_7 58 rfl rfl
set_option maxRecDepth 20000 in
theorem u_1500 : (Jvm.Cond.instanceMethod ({ cls := "EnvelopePlannerModel", name := "children", desc := "(I)I" } : Jvm.MethodName)) ∈ wU := wu_7 60 rfl rfl
set_option maxRecDepth 20000 in
theorem u_1501 : (Jvm.Cond.code ({ cls := "EnvelopePlannerModel", name := "children", desc := "(I)I" } : Jvm.MethodName) prog_11_method_66_code (4 : Nat) (Option.some Jvm.ClassFile.FieldType.int)) ∈ wU := wu_7 61 rfl rfl
set_option maxRecDepth 20000 in
theorem u_1502 : (Jvm.Cond.methodLink "EnvelopePlannerLaw" (232 : Nat) ({ cls := "EnvelopePlannerModel", name := "merge", desc := "(I)I" } : Jvm.MethodName)) ∈ wU := wu_7 62 rfl rfl
set_option maxRecDepth 20000 in
theorem u_1503 : (Jvm.Cond.instanceMethod ({ cls := "EnvelopePlannerModel", name := "merge", desc := "(I)I" } : Jvm.MethodName)) ∈ wU := wu_7 63 rfl rfl
set_option maxRecDepth 20000 in
theorem u_1504 : (Jvm.Cond.selects "EnvelopePlannerModel" ({ cls := "EnvelopePlannerModel", name := "merge", desc := "(I)I" } : Jvm.MethodName) ({ cls := "EnvelopePlannerModel", name := "merge", desc := "(I)I" } : Jvm.MethodName)) ∈ wU := wu_7 64 rfl rfl
set_option maxRecDepth 20000 in
theorem u_1505 : (Jvm.Cond.code ({ cls := "EnvelopePlannerModel", name := "merge", desc := "(I)I" } : Jvm.MethodName) prog_11_method_73_code (6 : Nat) (Option.some Jvm.ClassFile.FieldType.int)) ∈ wU := wu_7 65 rfl rfl
set_option maxRecDepth 20000 in
theorem u_1506 : (Jvm.Cond.methodLink "EnvelopePlannerModel" (276 : Nat) ({ cls := "EnvelopePlannerModel", name := "replays", desc := "(IIZ)I" } : Jvm.MethodName)) ∈ wU := wu_7 66 rfl rfl
set_option maxRecDepth 20000 in
theorem u_1508 : (Jvm.Cond.instanceMethod ({ cls := "EnvelopePlannerModel", name := "replays", desc := "(IIZ)I" } : Jvm.MethodName)) ∈ wU := wu_7 68 rfl rfl
set_option maxRecDepth 20000 in
theorem u_1509 : (Jvm.Cond.code ({ cls := "EnvelopePlannerModel", name := "replays", desc := "(IIZ)I" } : Jvm.MethodName) prog_11_method_72_code (5 : Nat) (Option.some Jvm.ClassFile.FieldType.int)) ∈ wU := wu_7 69 rfl rfl
set_option maxRecDepth 20000 in
theorem u_1510 : (Jvm.Cond.methodLink "EnvelopePlannerLaw" (236 : Nat) ({ cls := "EnvelopePlannerModel", name := "conflict", desc := "(Z)I" } : Jvm.MethodName)) ∈ wU := wu_7 70 rfl rfl
set_option maxRecDepth 20000 in
theorem u_1511 : (Jvm.Cond.instanceMethod ({ cls := "EnvelopePlannerModel", name := "conflict", desc := "(Z)I" } : Jvm.MethodName)) ∈ wU := wu_7 71 rfl rfl
set_option maxRecDepth 20000 in
theorem u_1512 : (Jvm.Cond.selects "EnvelopePlannerModel" ({ cls := "EnvelopePlannerModel", name := "conflict", desc := "(Z)I" } : Jvm.MethodName) ({ cls := "EnvelopePlannerModel", name := "conflict", desc := "(Z)I" } : Jvm.MethodName)) ∈ wU := wu_7 72 rfl rfl
set_option maxRecDepth 20000 in
theorem u_1513 : (Jvm.Cond.code ({ cls := "EnvelopePlannerModel", name := "conflict", desc := "(Z)I" } : Jvm.MethodName) prog_11_method_74_code (2 : Nat) (Option.some Jvm.ClassFile.FieldType.int)) ∈ wU := wu_7 73 rfl rfl
set_option maxRecDepth 20000 in
theorem u_1514 : (Jvm.Cond.methodLink "EnvelopePlannerLaw" (239 : Nat) ({ cls := "EnvelopePlannerModel", name := "branch", desc := "(II)J" } : Jvm.MethodName)) ∈ wU := wu_7 74 rfl rfl
set_option maxRecDepth 20000 in
theorem u_1515 : (Jvm.Cond.instanceMethod ({ cls := "EnvelopePlannerModel", name := "branch", desc := "(II)J" } : Jvm.MethodName)) ∈ wU := wu_7 75 rfl rfl
set_option maxRecDepth 20000 in
theorem u_1516 : (Jvm.Cond.selects "EnvelopePlannerModel" ({ cls := "EnvelopePlannerModel", name := "branch", desc := "(II)J" } : Jvm.MethodName) ({ cls := "EnvelopePlannerModel", name := "branch", desc := "(II)J" } : Jvm.MethodName)) ∈ wU := wu_7 76 rfl rfl
set_option maxRecDepth 20000 in
theorem u_1517 : (Jvm.Cond.code ({ cls := "EnvelopePlannerModel", name := "branch", desc := "(II)J" } : Jvm.MethodName) prog_11_method_75_code (3 : Nat) (Option.some Jvm.ClassFile.FieldType.long)) ∈ wU := wu_7 77 rfl rfl
set_option maxRecDepth 20000 in
theorem u_1518 : (Jvm.Cond.methodLink "EnvelopePlannerLaw" (242 : Nat) ({ cls := "EnvelopePlannerModel", name := "difference", desc := "(III)J" } : Jvm.MethodName)) ∈ wU := wu_7 78 rfl rfl
set_option maxRecDepth 20000 in
theorem u_1519 : (Jvm.Cond.instanceMethod ({ cls := "EnvelopePlannerModel", name := "difference", desc := "(III)J" } : Jvm.MethodName)) ∈ wU := wu_7 79 rfl rfl
set_option maxRecDepth 20000 in
theorem u_1520 : (Jvm.Cond.selects "EnvelopePlannerModel" ({ cls := "EnvelopePlannerModel", name := "difference", desc := "(III)J" } : Jvm.MethodName) ({ cls := "EnvelopePlannerModel", name := "difference", desc := "(III)J" } : Jvm.MethodName)) ∈ wU := wu_7 80 rfl rfl
set_option maxRecDepth 20000 in
theorem u_1521 : (Jvm.Cond.code ({ cls := "EnvelopePlannerModel", name := "difference", desc := "(III)J" } : Jvm.MethodName) prog_11_method_77_code (4 : Nat) (Option.some Jvm.ClassFile.FieldType.long)) ∈ wU := wu_7 81 rfl rfl
set_option maxRecDepth 20000 in
theorem u_1522 : (Jvm.Cond.methodLink "EnvelopePlannerModel" (280 : Nat) ({ cls := "EnvelopePlannerModel", name := "moneyOf", desc := "(II)J" } : Jvm.MethodName)) ∈ wU := wu_7 82 rfl rfl
set_option maxRecDepth 20000 in
theorem u_1524 : (Jvm.Cond.instanceMethod ({ cls := "EnvelopePlannerModel", name := "moneyOf", desc := "(II)J" } : Jvm.MethodName)) ∈ wU := wu_7 84 rfl rfl
set_option maxRecDepth 20000 in
theorem u_1525 : (Jvm.Cond.code ({ cls := "EnvelopePlannerModel", name := "moneyOf", desc := "(II)J" } : Jvm.MethodName) prog_11_method_76_code (3 : Nat) (Option.some Jvm.ClassFile.FieldType.long)) ∈ wU := wu_7 85 rfl rfl
set_option maxRecDepth 20000 in
theorem u_1526 : (Jvm.Cond.methodLink "EnvelopePlannerLaw" (245 : Nat) ({ cls := "EnvelopePlannerModel", name := "step", desc := "(II)I" } : Jvm.MethodName)) ∈ wU := wu_7 86 rfl rfl
set_option maxRecDepth 20000 in
theorem u_1527 : (Jvm.Cond.instanceMethod ({ cls := "EnvelopePlannerModel", name := "step", desc := "(II)I" } : Jvm.MethodName)) ∈ wU := wu_7 87 rfl rfl
set_option maxRecDepth 20000 in
theorem u_1528 : (Jvm.Cond.selects "EnvelopePlannerModel" ({ cls := "EnvelopePlannerModel", name := "step", desc := "(II)I" } : Jvm.MethodName) ({ cls := "EnvelopePlannerModel", name := "step", desc := "(II)I" } : Jvm.MethodName)) ∈ wU := wu_7 88 rfl rfl
set_option maxRecDepth 20000 in
theorem u_1529 : (Jvm.Cond.code ({ cls := "EnvelopePlannerModel", name := "step", desc := "(II)I" } : Jvm.MethodName) prog_11_method_78_code (3 : Nat) (Option.some Jvm.ClassFile.FieldType.int)) ∈ wU := wu_7 89 rfl rfl
set_option maxRecDepth 20000 in
theorem u_1530 : (Jvm.Cond.methodLink "EnvelopePlannerLaw" (248 : Nat) ({ cls := "EnvelopePlannerModel", name := "undo", desc := "()I" } : Jvm.MethodName)) ∈ wU := wu_7 90 rfl rfl
set_option maxRecDepth 20000 in
theorem u_1531 : (Jvm.Cond.instanceMethod ({ cls := "EnvelopePlannerModel", name := "undo", desc := "()I" } : Jvm.MethodName)) ∈ wU := wu_7 91 rfl rfl
set_option maxRecDepth 20000 in
theorem u_1532 : (Jvm.Cond.selects "EnvelopePlannerModel" ({ cls := "EnvelopePlannerModel", name := "undo", desc := "()I" } : Jvm.MethodName) ({ cls := "EnvelopePlannerModel", name := "undo", desc := "()I" } : Jvm.MethodName)) ∈ wU := wu_7 92 rfl rfl
set_option maxRecDepth 20000 in
theorem u_1533 : (Jvm.Cond.code ({ cls := "EnvelopePlannerModel", name := "undo", desc := "()I" } : Jvm.MethodName) prog_11_method_80_code (2 : Nat) (Option.some Jvm.ClassFile.FieldType.int)) ∈ wU := wu_7 93 rfl rfl
set_option maxRecDepth 20000 in
theorem u_1534 : (Jvm.Cond.methodLink "EnvelopePlannerModel" (284 : Nat) ({ cls := "EnvelopePlannerModel", name := "isRemade", desc := "(I)Z" } : Jvm.MethodName)) ∈ wU := wu_7 94 rfl rfl
set_option maxRecDepth 20000 in
theorem u_1536 : (Jvm.Cond.instanceMethod ({ cls := "EnvelopePlannerModel", name := "isRemade", desc := "(I)Z" } : Jvm.MethodName)) ∈ wU := wu_7 96 rfl rfl
set_option maxRecDepth 20000 in
theorem u_1537 : (Jvm.Cond.code ({ cls := "EnvelopePlannerModel", name := "isRemade", desc := "(I)Z" } : Jvm.MethodName) prog_11_method_79_code (4 : Nat) (Option.some Jvm.ClassFile.FieldType.boolean)) ∈ wU := wu_7 97 rfl rfl
set_option maxRecDepth 20000 in
theorem u_1538 : (Jvm.Cond.methodLink "EnvelopePlannerLaw" (251 : Nat) ({ cls := "EnvelopePlannerModel", name := "dropStep", desc := "(I)I" } : Jvm.MethodName)) ∈ wU := wu_7 98 rfl rfl
set_option maxRecDepth 20000 in
theorem u_1539 : (Jvm.Cond.instanceMethod ({ cls := "EnvelopePlannerModel", name := "dropStep", desc := "(I)I" } : Jvm.MethodName)) ∈ wU := wu_7 99 rfl rfl
set_option maxRecDepth 20000 in
theorem u_1540 : (Jvm.Cond.selects "EnvelopePlannerModel" ({ cls := "EnvelopePlannerModel", name := "dropStep", desc := "(I)I" } : Jvm.MethodName) ({ cls := "EnvelopePlannerModel", name := "dropStep", desc := "(I)I" } : Jvm.MethodName)) ∈ wU := wu_7 100 rfl rfl
set_option maxRecDepth 20000 in
theorem u_1541 : (Jvm.Cond.code ({ cls := "EnvelopePlannerModel", name := "dropStep", desc := "(I)I" } : Jvm.MethodName) prog_11_method_81_code (2 : Nat) (Option.some Jvm.ClassFile.FieldType.int)) ∈ wU := wu_7 101 rfl rfl
set_option maxRecDepth 20000 in
theorem u_1542 : (Jvm.Cond.methodLink "EnvelopePlannerLaw" (255 : Nat) ({ cls := "EnvelopePlannerModel", name := "clearReason", desc := "()I" } : Jvm.MethodName)) ∈ wU := wu_7 102 rfl rfl
set_option maxRecDepth 20000 in
theorem u_1543 : (Jvm.Cond.instanceMethod ({ cls := "EnvelopePlannerModel", name := "clearReason", desc := "()I" } : Jvm.MethodName)) ∈ wU := wu_7 103 rfl rfl
set_option maxRecDepth 20000 in
theorem u_1544 : (Jvm.Cond.selects "EnvelopePlannerModel" ({ cls := "EnvelopePlannerModel", name := "clearReason", desc := "()I" } : Jvm.MethodName) ({ cls := "EnvelopePlannerModel", name := "clearReason", desc := "()I" } : Jvm.MethodName)) ∈ wU := wu_7 104 rfl rfl
set_option maxRecDepth 20000 in
theorem u_1545 : (Jvm.Cond.code ({ cls := "EnvelopePlannerModel", name := "clearReason", desc := "()I" } : Jvm.MethodName) prog_11_method_82_code (2 : Nat) (Option.some Jvm.ClassFile.FieldType.int)) ∈ wU := wu_7 105 rfl rfl
set_option maxRecDepth 20000 in
theorem u_1546 : (Jvm.Cond.methodLink "EnvelopePlannerLaw" (259 : Nat) ({ cls := "EnvelopePlannerModel", name := "feed", desc := "(C)I" } : Jvm.MethodName)) ∈ wU := wu_7 106 rfl rfl
set_option maxRecDepth 20000 in
theorem u_1547 : (Jvm.Cond.instanceMethod ({ cls := "EnvelopePlannerModel", name := "feed", desc := "(C)I" } : Jvm.MethodName)) ∈ wU := wu_7 107 rfl rfl
set_option maxRecDepth 20000 in
theorem u_1548 : (Jvm.Cond.selects "EnvelopePlannerModel" ({ cls := "EnvelopePlannerModel", name := "feed", desc := "(C)I" } : Jvm.MethodName) ({ cls := "EnvelopePlannerModel", name := "feed", desc := "(C)I" } : Jvm.MethodName)) ∈ wU := wu_7 108 rfl rfl
set_option maxRecDepth 20000 in
theorem u_1549 : (Jvm.Cond.code ({ cls := "EnvelopePlannerModel", name := "feed", desc := "(C)I" } : Jvm.MethodName) prog_11_method_83_code (2 : Nat) (Option.some Jvm.ClassFile.FieldType.int)) ∈ wU := wu_7 109 rfl rfl
set_option maxRecDepth 20000 in
theorem u_1550 : (Jvm.Cond.methodLink "EnvelopePlannerLaw" (263 : Nat) ({ cls := "EnvelopePlannerModel", name := "readPlan", desc := "()I" } : Jvm.MethodName)) ∈ wU := wu_7 110 rfl rfl
set_option maxRecDepth 20000 in
theorem u_1551 : (Jvm.Cond.instanceMethod ({ cls := "EnvelopePlannerModel", name := "readPlan", desc := "()I" } : Jvm.MethodName)) ∈ wU := wu_7 111 rfl rfl
set_option maxRecDepth 20000 in
theorem u_1552 : (Jvm.Cond.selects "EnvelopePlannerModel" ({ cls := "EnvelopePlannerModel", name := "readPlan", desc := "()I" } : Jvm.MethodName) ({ cls := "EnvelopePlannerModel", name := "readPlan", desc := "()I" } : Jvm.MethodName)) ∈ wU := wu_7 112 rfl rfl
set_option maxRecDepth 20000 in
theorem u_1553 : (Jvm.Cond.code ({ cls := "EnvelopePlannerModel", name := "readPlan", desc := "()I" } : Jvm.MethodName) prog_11_method_90_code (3 : Nat) (Option.some Jvm.ClassFile.FieldType.int)) ∈ wU := wu_7 113 rfl rfl
set_option maxRecDepth 20000 in
theorem u_1554 : (Jvm.Cond.methodLink "EnvelopePlannerModel" (306 : Nat) ({ cls := "EnvelopePlannerModel", name := "isFaulty", desc := "()Z" } : Jvm.MethodName)) ∈ wU := wu_7 114 rfl rfl
set_option maxRecDepth 20000 in
theorem u_1556 : (Jvm.Cond.instanceMethod ({ cls := "EnvelopePlannerModel", name := "isFaulty", desc := "()Z" } : Jvm.MethodName)) ∈ wU := wu_7 116 rfl rfl
set_option maxRecDepth 20000 in
theorem u_1557 : (Jvm.Cond.code ({ cls := "EnvelopePlannerModel", name := "isFaulty", desc := "()Z" } : Jvm.MethodName) prog_11_method_89_code (1 : Nat) (Option.some Jvm.ClassFile.FieldType.boolean)) ∈ wU := wu_7 117 rfl rfl
set_option maxRecDepth 20000 in
theorem u_1558 : (Jvm.Cond.methodLink "EnvelopePlannerModel" (304 : Nat) ({ cls := "EnvelopePlannerModel", name := "command", desc := "()V" } : Jvm.MethodName)) ∈ wU := wu_7 118 rfl rfl
set_option maxRecDepth 20000 in
theorem u_1560 : (Jvm.Cond.instanceMethod ({ cls := "EnvelopePlannerModel", name := "command", desc := "()V" } : Jvm.MethodName)) ∈ wU := wu_7 120 rfl rfl
set_option maxRecDepth 20000 in
theorem u_1561 : (Jvm.Cond.code ({ cls := "EnvelopePlannerModel", name := "command", desc := "()V" } : Jvm.MethodName) prog_11_method_88_code (2 : Nat) (Option.none : Option Jvm.ClassFile.FieldType)) ∈ wU := wu_7 121 rfl rfl
set_option maxRecDepth 20000 in
theorem u_1562 : (Jvm.Cond.methodLink "EnvelopePlannerModel" (287 : Nat) ({ cls := "EnvelopePlannerModel", name := "sign", desc := "()I" } : Jvm.MethodName)) ∈ wU := wu_7 122 rfl rfl
set_option maxRecDepth 20000 in
theorem u_1564 : (Jvm.Cond.instanceMethod ({ cls := "EnvelopePlannerModel", name := "sign", desc := "()I" } : Jvm.MethodName)) ∈ wU := wu_7 124 rfl rfl
set_option maxRecDepth 20000 in
theorem u_1565 : (Jvm.Cond.code ({ cls := "EnvelopePlannerModel", name := "sign", desc := "()I" } : Jvm.MethodName) prog_11_method_84_code (1 : Nat) (Option.some Jvm.ClassFile.FieldType.int)) ∈ wU := wu_7 125 rfl rfl
set_option maxRecDepth 20000 in
theorem u_1566 : (Jvm.Cond.methodLink "EnvelopePlannerModel" (295 : Nat) ({ cls := "EnvelopePlannerModel", name := "number", desc := "(I)I" } : Jvm.MethodName)) ∈ wU := wu_7 126 rfl rfl
set_option maxRecDepth 20000 in
theorem u_1568 : (Jvm.Cond.instanceMethod ({ cls := "EnvelopePlannerModel", name := "number", desc := "(I)I" } : Jvm.MethodName)) ∈ wU := wu_7 128 rfl rfl
set_option maxRecDepth 20000 in
theorem u_1569 : (Jvm.Cond.code ({ cls := "EnvelopePlannerModel", name := "number", desc := "(I)I" } : Jvm.MethodName) prog_11_method_86_code (4 : Nat) (Option.some Jvm.ClassFile.FieldType.int)) ∈ wU := wu_7 129 rfl rfl
set_option maxRecDepth 20000 in
theorem u_1570 : (Jvm.Cond.constantLong "EnvelopePlannerModel" (291 : Nat) (48 : Int64)) ∈ wU := wu_7 130 rfl rfl
set_option maxRecDepth 20000 in
theorem u_1571 : (Jvm.Cond.constantLong "EnvelopePlannerModel" (293 : Nat) (57 : Int64)) ∈ wU := wu_7 131 rfl rfl
set_option maxRecDepth 20000 in
theorem u_1572 : (Jvm.Cond.methodLink "EnvelopePlannerModel" (298 : Nat) ({ cls := "EnvelopePlannerModel", name := "place", desc := "()I" } : Jvm.MethodName)) ∈ wU := wu_7 132 rfl rfl
set_option maxRecDepth 20000 in
theorem u_1574 : (Jvm.Cond.instanceMethod ({ cls := "EnvelopePlannerModel", name := "place", desc := "()I" } : Jvm.MethodName)) ∈ wU := wu_7 134 rfl rfl
set_option maxRecDepth 20000 in
theorem u_1575 : (Jvm.Cond.code ({ cls := "EnvelopePlannerModel", name := "place", desc := "()I" } : Jvm.MethodName) prog_11_method_87_code (1 : Nat) (Option.some Jvm.ClassFile.FieldType.int)) ∈ wU := wu_7 135 rfl rfl
set_option maxRecDepth 20000 in
theorem u_1576 : (Jvm.Cond.methodLink "EnvelopePlannerModel" (301 : Nat) ({ cls := "EnvelopePlannerModel", name := "takes", desc := "(I)V" } : Jvm.MethodName)) ∈ wU := wu_7 136 rfl rfl
set_option maxRecDepth 20000 in
theorem u_1578 : (Jvm.Cond.instanceMethod ({ cls := "EnvelopePlannerModel", name := "takes", desc := "(I)V" } : Jvm.MethodName)) ∈ wU := wu_7 138 rfl rfl
set_option maxRecDepth 20000 in
theorem u_1579 : (Jvm.Cond.code ({ cls := "EnvelopePlannerModel", name := "takes", desc := "(I)V" } : Jvm.MethodName) prog_11_method_85_code (2 : Nat) (Option.none : Option Jvm.ClassFile.FieldType)) ∈ wU := wu_7 139 rfl rfl
set_option maxRecDepth 20000 in
theorem u_1580 : (Jvm.Cond.methodLink "EnvelopePlannerLaw" (267 : Nat) ({ cls := "EnvelopePlannerModel", name := "save", desc := "()I" } : Jvm.MethodName)) ∈ wU := wu_7 140 rfl rfl
set_option maxRecDepth 20000 in
theorem u_1581 : (Jvm.Cond.instanceMethod ({ cls := "EnvelopePlannerModel", name := "save", desc := "()I" } : Jvm.MethodName)) ∈ wU := wu_7 141 rfl rfl
set_option maxRecDepth 20000 in
theorem u_1582 : (Jvm.Cond.selects "EnvelopePlannerModel" ({ cls := "EnvelopePlannerModel", name := "save", desc := "()I" } : Jvm.MethodName) ({ cls := "EnvelopePlannerModel", name := "save", desc := "()I" } : Jvm.MethodName)) ∈ wU := wu_7 142 rfl rfl
set_option maxRecDepth 20000 in
theorem u_1583 : (Jvm.Cond.code ({ cls := "EnvelopePlannerModel", name := "save", desc := "()I" } : Jvm.MethodName) prog_11_method_93_code (1 : Nat) (Option.some Jvm.ClassFile.FieldType.int)) ∈ wU := wu_7 143 rfl rfl
set_option maxRecDepth 20000 in
theorem u_1584 : (Jvm.Cond.methodLink "EnvelopePlannerModel" (310 : Nat) ({ cls := "EnvelopePlannerModel", name := "copiesAll", desc := "([J[J)V" } : Jvm.MethodName)) ∈ wU := wu_7 144 rfl rfl
set_option maxRecDepth 20000 in
theorem u_1585 : (Jvm.Cond.static ({ cls := "EnvelopePlannerModel", name := "copiesAll", desc := "([J[J)V" } : Jvm.MethodName)) ∈ wU := wu_7 145 rfl rfl
set_option maxRecDepth 20000 in
theorem u_1586 : (Jvm.Cond.code ({ cls := "EnvelopePlannerModel", name := "copiesAll", desc := "([J[J)V" } : Jvm.MethodName) prog_11_method_91_code (3 : Nat) (Option.none : Option Jvm.ClassFile.FieldType)) ∈ wU := wu_7 146 rfl rfl
set_option maxRecDepth 20000 in
theorem u_1587 : (Jvm.Cond.methodLink "EnvelopePlannerModel" (314 : Nat) ({ cls := "EnvelopePlannerModel", name := "copiesAll", desc := "([I[I)V" } : Jvm.MethodName)) ∈ wU := wu_7 147 rfl rfl
set_option maxRecDepth 20000 in
theorem u_1588 : (Jvm.Cond.static ({ cls := "EnvelopePlannerModel", name := "copiesAll", desc := "([I[I)V" } : Jvm.MethodName)) ∈ wU := wu_7 148 rfl rfl
set_option maxRecDepth 20000 in
theorem u_1589 : (Jvm.Cond.code ({ cls := "EnvelopePlannerModel", name := "copiesAll", desc := "([I[I)V" } : Jvm.MethodName) prog_11_method_92_code (3 : Nat) (Option.none : Option Jvm.ClassFile.FieldType)) ∈ wU := wu_7 149 rfl rfl
set_option maxRecDepth 20000 in
theorem u_1590 : (Jvm.Cond.methodLink "EnvelopePlannerModel" (317 : Nat) ({ cls := "EnvelopePlannerModel", name := "branches", desc := "()I" } : Jvm.MethodName)) ∈ wU := wu_7 150 rfl rfl
set_option maxRecDepth 20000 in
theorem u_1592 : (Jvm.Cond.instanceMethod ({ cls := "EnvelopePlannerModel", name := "branches", desc := "()I" } : Jvm.MethodName)) ∈ wU := wu_7 152 rfl rfl
set_option maxRecDepth 20000 in
theorem u_1593 : (Jvm.Cond.code ({ cls := "EnvelopePlannerModel", name := "branches", desc := "()I" } : Jvm.MethodName) prog_11_method_67_code (3 : Nat) (Option.some Jvm.ClassFile.FieldType.int)) ∈ wU := wu_7 153 rfl rfl
set_option maxRecDepth 20000 in
theorem u_1594 : (Jvm.Cond.methodLink "EnvelopePlannerLaw" (270 : Nat) ({ cls := "EnvelopePlannerModel", name := "restore", desc := "()I" } : Jvm.MethodName)) ∈ wU := wu_7 154 rfl rfl
set_option maxRecDepth 20000 in
theorem u_1595 : (Jvm.Cond.instanceMethod ({ cls := "EnvelopePlannerModel", name := "restore", desc := "()I" } : Jvm.MethodName)) ∈ wU := wu_7 155 rfl rfl
set_option maxRecDepth 20000 in
theorem u_1596 : (Jvm.Cond.selects "EnvelopePlannerModel" ({ cls := "EnvelopePlannerModel", name := "restore", desc := "()I" } : Jvm.MethodName) ({ cls := "EnvelopePlannerModel", name := "restore", desc := "()I" } : Jvm.MethodName)) ∈ wU := wu_7 156 rfl rfl
set_option maxRecDepth 20000 in
theorem u_1597 : (Jvm.Cond.code ({ cls := "EnvelopePlannerModel", name := "restore", desc := "()I" } : Jvm.MethodName) prog_11_method_94_code (1 : Nat) (Option.some Jvm.ClassFile.FieldType.int)) ∈ wU := wu_7 157 rfl rfl
set_option maxRecDepth 20000 in
theorem u_1598 : (Jvm.Cond.arrayClass Jvm.ClassFile.FieldType.double) ∈ wU := wu_7 158 rfl rfl
set_option maxRecDepth 20000 in
theorem iU_X0 : ∀ w ∈ u_ws RX0 TX0 6, w ∈ wU := by decide +kernel
set_option maxRecDepth 20000 in
theorem iU_X1 : ∀ w ∈ u_ws RX1 TX1 3, w ∈ wU := by decide +kernel
set_option maxRecDepth 20000 in
theorem iU_X2 : ∀ w ∈ u_ws RX2 TX2 5, w ∈ wU := by decide +kernel
set_option maxRecDepth 20000 in
theorem iU_X3 : ∀ w ∈ u_ws RX3 TX3 7, w ∈ wU := by decide +kernel
set_option maxRecDepth 20000 in
theorem iU_X4 : ∀ w ∈ u_ws RX4 TX4 6, w ∈ wU := by decide +kernel
set_option maxRecDepth 20000 in
theorem iU_X5 : ∀ w ∈ u_ws RX5 TX5 11, w ∈ wU := by decide +kernel
set_option maxRecDepth 20000 in
theorem iU_X6 : ∀ w ∈ u_ws RX6 TX6 6, w ∈ wU := by decide +kernel
set_option maxRecDepth 20000 in
theorem iU_X7 : ∀ w ∈ u_ws RX7 TX7 4, w ∈ wU := by decide +kernel
set_option maxRecDepth 20000 in
theorem iU_X8 : ∀ w ∈ u_ws RX8 TX8 9, w ∈ wU := by decide +kernel
set_option maxRecDepth 20000 in
theorem iU_X9 : ∀ w ∈ u_ws RX9 TX9 24, w ∈ wU := by decide +kernel
