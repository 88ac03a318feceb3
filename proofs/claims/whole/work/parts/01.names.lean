-- ===== PART A: goes FIRST, ahead of the names: the tables' words, and 'selects' of the private methods out of them =====
/-- a private method of a class that the tables say can be made, by its rows of tables_1 -/
def lw_okq (q : MethodName × Nat) : Prop := (q.1.cls ≠ "java/lang/invoke/MethodHandle" ∧ q.1.cls ≠ "java/lang/invoke/VarHandle") ∧ Cond.instantiable q.1.cls q.2 ∈ tables_1 ∧ Cond.privateMethod q.1 ∈ tables_1 ∧ Cond.instanceMethod q.1 ∈ tables_1
theorem lw_p0 : lw_okq (⟨"java/lang/Throwable", "fillInStackTrace", "(I)Ljava/lang/Throwable;"⟩, 6) := ⟨⟨by decide +kernel, by decide +kernel⟩, List.mem_of_getElem? (i := 241) (by decide +kernel), List.mem_of_getElem? (i := 239) (by decide +kernel), List.mem_of_getElem? (i := 240) (by decide +kernel)⟩
theorem lw_p1 : lw_okq (⟨"ResidueFlows", "checkLogs", "()V"⟩, 12) := ⟨⟨by decide +kernel, by decide +kernel⟩, List.mem_of_getElem? (i := 15) (by decide +kernel), List.mem_of_getElem? (i := 325) (by decide +kernel), List.mem_of_getElem? (i := 326) (by decide +kernel)⟩
theorem lw_p2 : lw_okq (⟨"ResidueFlows", "binAt", "(I)LResidueFlows$Bin;"⟩, 12) := ⟨⟨by decide +kernel, by decide +kernel⟩, List.mem_of_getElem? (i := 15) (by decide +kernel), List.mem_of_getElem? (i := 373) (by decide +kernel), List.mem_of_getElem? (i := 374) (by decide +kernel)⟩
theorem lw_p3 : lw_okq (⟨"ResidueFlows", "pourInto", "(LResidueFlows$Bin;II)V"⟩, 12) := ⟨⟨by decide +kernel, by decide +kernel⟩, List.mem_of_getElem? (i := 15) (by decide +kernel), List.mem_of_getElem? (i := 391) (by decide +kernel), List.mem_of_getElem? (i := 392) (by decide +kernel)⟩
theorem lw_p4 : lw_okq (⟨"ResidueFlows", "screenAt", "(I)LResidueFlows$Screen;"⟩, 12) := ⟨⟨by decide +kernel, by decide +kernel⟩, List.mem_of_getElem? (i := 15) (by decide +kernel), List.mem_of_getElem? (i := 416) (by decide +kernel), List.mem_of_getElem? (i := 417) (by decide +kernel)⟩
theorem lw_p5 : lw_okq (⟨"ResidueFlows", "gramsLost", "()J"⟩, 12) := ⟨⟨by decide +kernel, by decide +kernel⟩, List.mem_of_getElem? (i := 15) (by decide +kernel), List.mem_of_getElem? (i := 453) (by decide +kernel), List.mem_of_getElem? (i := 454) (by decide +kernel)⟩
theorem lw_p6 : lw_okq (⟨"ResidueFlows", "takeAway", "(LResidueFlows$Bin;JJ)V"⟩, 12) := ⟨⟨by decide +kernel, by decide +kernel⟩, List.mem_of_getElem? (i := 15) (by decide +kernel), List.mem_of_getElem? (i := 504) (by decide +kernel), List.mem_of_getElem? (i := 505) (by decide +kernel)⟩
theorem lw_p7 : lw_okq (⟨"ResidueFlowsModel", "noBin", "(I)Z"⟩, 25) := ⟨⟨by decide +kernel, by decide +kernel⟩, List.mem_of_getElem? (i := 544) (by decide +kernel), List.mem_of_getElem? (i := 665) (by decide +kernel), List.mem_of_getElem? (i := 666) (by decide +kernel)⟩
theorem lw_p8 : lw_okq (⟨"ResidueFlowsModel", "hasRoom", "(IJ)Z"⟩, 25) := ⟨⟨by decide +kernel, by decide +kernel⟩, List.mem_of_getElem? (i := 544) (by decide +kernel), List.mem_of_getElem? (i := 672) (by decide +kernel), List.mem_of_getElem? (i := 673) (by decide +kernel)⟩
theorem lw_p9 : lw_okq (⟨"ResidueFlowsModel", "all", "(I)J"⟩, 25) := ⟨⟨by decide +kernel, by decide +kernel⟩, List.mem_of_getElem? (i := 544) (by decide +kernel), List.mem_of_getElem? (i := 676) (by decide +kernel), List.mem_of_getElem? (i := 677) (by decide +kernel)⟩
theorem lw_p10 : lw_okq (⟨"ResidueFlowsModel", "add", "(IJI)V"⟩, 25) := ⟨⟨by decide +kernel, by decide +kernel⟩, List.mem_of_getElem? (i := 544) (by decide +kernel), List.mem_of_getElem? (i := 680) (by decide +kernel), List.mem_of_getElem? (i := 681) (by decide +kernel)⟩
theorem lw_p11 : lw_okq (⟨"ResidueFlowsModel", "part", "(IIJ)J"⟩, 25) := ⟨⟨by decide +kernel, by decide +kernel⟩, List.mem_of_getElem? (i := 544) (by decide +kernel), List.mem_of_getElem? (i := 697) (by decide +kernel), List.mem_of_getElem? (i := 698) (by decide +kernel)⟩
theorem lw_p12 : lw_okq (⟨"ResidueFlowsModel", "others", "(IJ)J"⟩, 25) := ⟨⟨by decide +kernel, by decide +kernel⟩, List.mem_of_getElem? (i := 544) (by decide +kernel), List.mem_of_getElem? (i := 701) (by decide +kernel), List.mem_of_getElem? (i := 702) (by decide +kernel)⟩
theorem lw_p13 : lw_okq (⟨"ResidueFlowsModel", "has", "(II)Z"⟩, 25) := ⟨⟨by decide +kernel, by decide +kernel⟩, List.mem_of_getElem? (i := 544) (by decide +kernel), List.mem_of_getElem? (i := 728) (by decide +kernel), List.mem_of_getElem? (i := 729) (by decide +kernel)⟩
theorem lw_p14 : lw_okq (⟨"ResidueFlowsModel", "take", "(II)V"⟩, 25) := ⟨⟨by decide +kernel, by decide +kernel⟩, List.mem_of_getElem? (i := 544) (by decide +kernel), List.mem_of_getElem? (i := 732) (by decide +kernel), List.mem_of_getElem? (i := 733) (by decide +kernel)⟩
theorem lw_p15 : lw_okq (⟨"ResidueFlowsModel", "goes", "(I)V"⟩, 25) := ⟨⟨by decide +kernel, by decide +kernel⟩, List.mem_of_getElem? (i := 544) (by decide +kernel), List.mem_of_getElem? (i := 736) (by decide +kernel), List.mem_of_getElem? (i := 737) (by decide +kernel)⟩
def lw_privs_1 : List (MethodName × Nat) := [(⟨"java/lang/Throwable", "fillInStackTrace", "(I)Ljava/lang/Throwable;"⟩, 6), (⟨"ResidueFlows", "checkLogs", "()V"⟩, 12), (⟨"ResidueFlows", "binAt", "(I)LResidueFlows$Bin;"⟩, 12), (⟨"ResidueFlows", "pourInto", "(LResidueFlows$Bin;II)V"⟩, 12), (⟨"ResidueFlows", "screenAt", "(I)LResidueFlows$Screen;"⟩, 12), (⟨"ResidueFlows", "gramsLost", "()J"⟩, 12), (⟨"ResidueFlows", "takeAway", "(LResidueFlows$Bin;JJ)V"⟩, 12), (⟨"ResidueFlowsModel", "noBin", "(I)Z"⟩, 25), (⟨"ResidueFlowsModel", "hasRoom", "(IJ)Z"⟩, 25), (⟨"ResidueFlowsModel", "all", "(I)J"⟩, 25), (⟨"ResidueFlowsModel", "add", "(IJI)V"⟩, 25), (⟨"ResidueFlowsModel", "part", "(IIJ)J"⟩, 25), (⟨"ResidueFlowsModel", "others", "(IJ)J"⟩, 25), (⟨"ResidueFlowsModel", "has", "(II)Z"⟩, 25), (⟨"ResidueFlowsModel", "take", "(II)V"⟩, 25), (⟨"ResidueFlowsModel", "goes", "(I)V"⟩, 25)]
theorem lw_r1 : ∀ q ∈ lw_privs_1, lw_okq q := List.forall_mem_cons.mpr ⟨lw_p0, List.forall_mem_cons.mpr ⟨lw_p1, List.forall_mem_cons.mpr ⟨lw_p2, List.forall_mem_cons.mpr ⟨lw_p3, List.forall_mem_cons.mpr ⟨lw_p4, List.forall_mem_cons.mpr ⟨lw_p5, List.forall_mem_cons.mpr ⟨lw_p6, List.forall_mem_cons.mpr ⟨lw_p7, List.forall_mem_cons.mpr ⟨lw_p8, List.forall_mem_cons.mpr ⟨lw_p9, List.forall_mem_cons.mpr ⟨lw_p10, List.forall_mem_cons.mpr ⟨lw_p11, List.forall_mem_cons.mpr ⟨lw_p12, List.forall_mem_cons.mpr ⟨lw_p13, List.forall_mem_cons.mpr ⟨lw_p14, List.forall_mem_cons.mpr ⟨lw_p15, fun _ h => absurd h List.not_mem_nil⟩⟩⟩⟩⟩⟩⟩⟩⟩⟩⟩⟩⟩⟩⟩⟩
def lw_privs : List (MethodName × Nat) := lw_privs_1
def lw_tbl : List Cond := k2_sels lw_privs ++ tables_1
theorem lw_privs_ok : ∀ q ∈ lw_privs, lw_okq q := lw_r1
/-! NAMES: by gen/names.py -/
def xTw : List Cond := lw_tbl.filter goodWord
theorem xTw_good : ∀ w ∈ xTw, (w.onTables && w.keeps) = true ∨ ∃ ty, w = .arrayClass ty := fun w h => good_of_word (List.mem_filter.mp h).2
theorem xTw_mem {w : Cond} (i : Nat) (h : lw_tbl[i]? = some w) (hg : goodWord w = true) : w ∈ xTw := List.mem_filter.mpr ⟨List.mem_of_getElem? h, hg⟩
theorem xTw_p {w : Cond} (i : Nat) (h : (k2_sels lw_privs)[i]? = some w) (hg : goodWord w = true) : w ∈ xTw := List.mem_filter.mpr ⟨List.mem_append_left _ (List.mem_of_getElem? h), hg⟩
theorem xTw_t {w : Cond} (h : w ∈ tables_1) (hg : goodWord w = true) : w ∈ xTw := List.mem_filter.mpr ⟨List.mem_append_right _ h, hg⟩
theorem xTw_1 {w : Cond} (i : Nat) (h : tables_1_1[i]? = some w) (hg : goodWord w = true) : w ∈ xTw := xTw_t (List.mem_append_left _ (List.mem_of_getElem? h)) hg
theorem xTw_2 {w : Cond} (i : Nat) (h : tables_1_2[i]? = some w) (hg : goodWord w = true) : w ∈ xTw := xTw_t (List.mem_append_right _ (List.mem_append_left _ (List.mem_of_getElem? h))) hg
theorem xTw_3 {w : Cond} (i : Nat) (h : tables_1_3[i]? = some w) (hg : goodWord w = true) : w ∈ xTw := xTw_t (List.mem_append_right _ (List.mem_append_right _ (List.mem_append_left _ (List.mem_of_getElem? h)))) hg
theorem xTw_4 {w : Cond} (i : Nat) (h : tables_1_4[i]? = some w) (hg : goodWord w = true) : w ∈ xTw := xTw_t (List.mem_append_right _ (List.mem_append_right _ (List.mem_append_right _ (List.mem_of_getElem? h)))) hg
theorem xTw_tbl : ∀ w ∈ xTw, w ∈ lw_tbl := fun w h => (List.mem_filter.mp h).1
def xTn : List (String × Nat × MethodName × String) := [("ResidueFlows$Share", 16, ⟨"ResidueFlows", "portion", "(JJJ)J"⟩, "ResidueFlows"), ("ResidueFlows$Bin", 36, ⟨"ResidueFlows", "portion", "(JJJ)J"⟩, "ResidueFlows")]
theorem xTn_tbl : ∀ q ∈ xTn, Cond.methodLinkNest q.1 q.2.1 q.2.2.1 q.2.2.2 ∈ lw_tbl := by decide +kernel
def xTc : List (String × String) := [("java/lang/IllegalArgumentException", "java/lang/IndexOutOfBoundsException"), ("java/lang/IllegalStateException", "java/lang/IndexOutOfBoundsException"), ("java/lang/IllegalStateException", "java/lang/IllegalArgumentException")]
def xTs : List (String × Nat × String) := [("ResidueFlows", 54, "no such share"), ("ResidueFlows", 61, "not a share"), ("ResidueFlows", 71, "not a log"), ("ResidueFlows", 81, "boards and kerf are more than the log"), ("ResidueFlows", 110, "not what a bin can hold"), ("ResidueFlows", 117, "no room for a bin more"), ("ResidueFlows", 154, "nothing such is told of a bin"), ("ResidueFlows", 160, "two bins are one"), ("ResidueFlows", 162, "bins of unlike kinds"), ("ResidueFlows", 166, "a share is below 0"), ("ResidueFlows", 175, "the screen was not told"), ("ResidueFlows", 194, "not a reading"), ("ResidueFlows", 208, "nothing such is told of a shift"), ("ResidueFlows", 219, "not a row behind the one before"), ("ResidueFlows", 224, "no room for a row more"), ("ResidueFlows", 256, "not a price"), ("ResidueFlows", 260, "not a span"), ("ResidueFlows", 268, "both bins are one"), ("ResidueFlows", 280, "no such kind"), ("ResidueFlows", 282, "there was no log"), ("ResidueFlows", 284, "not what can be poured"), ("ResidueFlows", 286, "not what can be taken"), ("ResidueFlows", 288, "not a day"), ("ResidueFlows", 292, "there is not so much"), ("ResidueFlows", 294, "no such bin"), ("ResidueFlows", 296, "no such screen")]
theorem xTs_tbl : ∀ q ∈ xTs, Cond.stringRef q.1 q.2.1 q.2.2 ∈ lw_tbl := by decide +kernel
def xTk : List (String × String) := [("java/lang/IndexOutOfBoundsException", "java/lang/IndexOutOfBoundsException"), ("java/lang/IllegalArgumentException", "java/lang/IllegalArgumentException"), ("java/lang/IllegalStateException", "java/lang/IllegalStateException")]
theorem xTk_tbl : ∀ q ∈ xTk, Cond.castable q.1 q.2 ∈ lw_tbl := by decide +kernel
def xTd : List MethodName := [⟨"java/lang/RuntimeException", "<init>", "()V"⟩, ⟨"java/lang/RuntimeException", "<init>", "(Ljava/lang/String;)V"⟩, ⟨"java/lang/Exception", "<init>", "()V"⟩, ⟨"java/lang/Exception", "<init>", "(Ljava/lang/String;)V"⟩, ⟨"java/lang/Throwable", "<init>", "()V"⟩, ⟨"java/lang/Throwable", "<init>", "(Ljava/lang/String;)V"⟩]
theorem xTd_tbl : ∀ q ∈ xTd, Cond.declares q ∈ lw_tbl := by decide +kernel
def xTo : List String := ["ResidueFlows$Bin", "ResidueFlows$Screen"]
theorem xTo_tbl : ∀ q ∈ xTo, Cond.arrayOver (.object q) ∈ lw_tbl := by decide +kernel
def T_RF : u_T := fun k => match k with
  | 0 => ("ResidueFlows", "barkShare", "LResidueFlows$Share;", true)
  | 1 => ("ResidueFlows", "offcutsShare", "LResidueFlows$Share;", true)
  | 2 => ("ResidueFlows", "latest", "LResidueFlows$Parts;", true)
  | 3 => ("ResidueFlows", "total", "LResidueFlows$Parts;", true)
  | 4 => ("ResidueFlows", "logs", "I", false)
  | 5 => ("ResidueFlows", "bins", "[LResidueFlows$Bin;", true)
  | 6 => ("ResidueFlows", "binCount", "I", false)
  | 7 => ("ResidueFlows", "screens", "[LResidueFlows$Screen;", true)
  | 8 => ("ResidueFlows", "boiler", "LResidueFlows$Boiler;", true)
  | 9 => ("ResidueFlows", "gramsIn", "J", false)
  | 10 => ("ResidueFlows", "gramsOut", "J", false)
  | _ => ("ResidueFlows", "shiftsBegun", "I", false)
def t_RF : Nat → FieldType := fun k => match k with
  | 0 => (.object "ResidueFlows$Share")
  | 1 => (.object "ResidueFlows$Share")
  | 2 => (.object "ResidueFlows$Parts")
  | 3 => (.object "ResidueFlows$Parts")
  | 4 => .int
  | 5 => (.array (.object "ResidueFlows$Bin"))
  | 6 => .int
  | 7 => (.array (.object "ResidueFlows$Screen"))
  | 8 => (.object "ResidueFlows$Boiler")
  | 9 => .long
  | 10 => .long
  | _ => .int
def T_Sh : u_T := fun k => match k with
  | 0 => ("ResidueFlows$Share", "above", "I", false)
  | _ => ("ResidueFlows$Share", "below", "I", false)
def t_Sh : Nat → FieldType := fun k => match k with
  | 0 => .int
  | _ => .int
def T_Pa : u_T := fun k => match k with
  | 0 => ("ResidueFlows$Parts", "barkParts", "J", false)
  | 1 => ("ResidueFlows$Parts", "chipParts", "J", false)
  | 2 => ("ResidueFlows$Parts", "dustParts", "J", false)
  | 3 => ("ResidueFlows$Parts", "offcutParts", "J", false)
  | _ => ("ResidueFlows$Parts", "boardParts", "J", false)
def t_Pa : Nat → FieldType := fun k => match k with
  | 0 => .long
  | 1 => .long
  | 2 => .long
  | 3 => .long
  | _ => .long
def T_Bi : u_T := fun k => match k with
  | 0 => ("ResidueFlows$Bin", "kind", "I", false)
  | 1 => ("ResidueFlows$Bin", "most", "I", false)
  | 2 => ("ResidueFlows$Bin", "dry", "J", false)
  | 3 => ("ResidueFlows$Bin", "water", "J", false)
  | 4 => ("ResidueFlows$Bin", "reading", "J", false)
  | 5 => ("ResidueFlows$Bin", "low", "I", false)
  | _ => ("ResidueFlows$Bin", "high", "I", false)
def t_Bi : Nat → FieldType := fun k => match k with
  | 0 => .int
  | 1 => .int
  | 2 => .long
  | 3 => .long
  | 4 => .long
  | 5 => .int
  | _ => .int
def T_Sc : u_T := fun k => match k with
  | 0 => ("ResidueFlows$Screen", "told", "Z", false)
  | 1 => ("ResidueFlows$Screen", "bin0", "I", false)
  | 2 => ("ResidueFlows$Screen", "bin1", "I", false)
  | 3 => ("ResidueFlows$Screen", "bin2", "I", false)
  | 4 => ("ResidueFlows$Screen", "share1", "I", false)
  | _ => ("ResidueFlows$Screen", "share2", "I", false)
def t_Sc : Nat → FieldType := fun k => match k with
  | 0 => .boolean
  | 1 => .int
  | 2 => .int
  | 3 => .int
  | 4 => .int
  | _ => .int
def T_Bo : u_T := fun k => match k with
  | 0 => ("ResidueFlows$Boiler", "rows", "I", false)
  | 1 => ("ResidueFlows$Boiler", "days", "[I", true)
  | _ => ("ResidueFlows$Boiler", "percents", "[I", true)
def t_Bo : Nat → FieldType := fun k => match k with
  | 0 => .int
  | 1 => (.array .int)
  | _ => (.array .int)
def T_Mo : u_T := fun k => match k with
  | 0 => ("ResidueFlowsModel", "thrown", "I", false)
  | 1 => ("ResidueFlowsModel", "aboves", "[I", true)
  | 2 => ("ResidueFlowsModel", "belows", "[I", true)
  | 3 => ("ResidueFlowsModel", "logs", "I", false)
  | 4 => ("ResidueFlowsModel", "latest", "[J", true)
  | 5 => ("ResidueFlowsModel", "sums", "[J", true)
  | 6 => ("ResidueFlowsModel", "bins", "I", false)
  | 7 => ("ResidueFlowsModel", "kinds", "[I", true)
  | 8 => ("ResidueFlowsModel", "mosts", "[J", true)
  | 9 => ("ResidueFlowsModel", "dry", "[J", true)
  | 10 => ("ResidueFlowsModel", "water", "[J", true)
  | 11 => ("ResidueFlowsModel", "readings", "[J", true)
  | 12 => ("ResidueFlowsModel", "lows", "[I", true)
  | 13 => ("ResidueFlowsModel", "highs", "[I", true)
  | 14 => ("ResidueFlowsModel", "screens", "[Z", true)
  | 15 => ("ResidueFlowsModel", "outs", "[I", true)
  | 16 => ("ResidueFlowsModel", "shares", "[I", true)
  | 17 => ("ResidueFlowsModel", "in", "J", false)
  | 18 => ("ResidueFlowsModel", "out", "J", false)
  | 19 => ("ResidueFlowsModel", "shifts", "J", false)
  | 20 => ("ResidueFlowsModel", "rows", "I", false)
  | 21 => ("ResidueFlowsModel", "days", "[I", true)
  | 22 => ("ResidueFlowsModel", "percents", "[I", true)
  | 23 => ("ResidueFlowsModel", "takenDry", "J", false)
  | _ => ("ResidueFlowsModel", "takenWater", "J", false)
def t_Mo : Nat → FieldType := fun k => match k with
  | 0 => .int
  | 1 => (.array .int)
  | 2 => (.array .int)
  | 3 => .int
  | 4 => (.array .long)
  | 5 => (.array .long)
  | 6 => .int
  | 7 => (.array .int)
  | 8 => (.array .long)
  | 9 => (.array .long)
  | 10 => (.array .long)
  | 11 => (.array .long)
  | 12 => (.array .int)
  | 13 => (.array .int)
  | 14 => (.array .boolean)
  | 15 => (.array .int)
  | 16 => (.array .int)
  | 17 => .long
  | 18 => .long
  | 19 => .long
  | 20 => .int
  | 21 => (.array .int)
  | 22 => (.array .int)
  | 23 => .long
  | _ => .long
abbrev xcl : List vw_C := [("ResidueFlows", T_RF, 12), ("ResidueFlows$Share", T_Sh, 2), ("ResidueFlows$Parts", T_Pa, 5), ("ResidueFlows$Bin", T_Bi, 7), ("ResidueFlows$Screen", T_Sc, 6), ("ResidueFlows$Boiler", T_Bo, 3), ("ResidueFlowsModel", T_Mo, 25)]
theorem xu_RF : ∀ w ∈ u_ws "ResidueFlows" T_RF 12, w ∈ xTw := by decide +kernel
theorem xk_RF : ∀ k, k < 12 → parseFieldDescriptor (T_RF k).2.2.1 = some (t_RF k) := by decide +kernel
theorem xn_RF : ∀ a, a < 12 → ∀ b, b < 12 → a ≠ b → (T_RF a).2.1 ≠ (T_RF b).2.1 := by decide +kernel
theorem xu_Sh : ∀ w ∈ u_ws "ResidueFlows$Share" T_Sh 2, w ∈ xTw := by decide +kernel
theorem xk_Sh : ∀ k, k < 2 → parseFieldDescriptor (T_Sh k).2.2.1 = some (t_Sh k) := by decide +kernel
theorem xn_Sh : ∀ a, a < 2 → ∀ b, b < 2 → a ≠ b → (T_Sh a).2.1 ≠ (T_Sh b).2.1 := by decide +kernel
theorem xu_Pa : ∀ w ∈ u_ws "ResidueFlows$Parts" T_Pa 5, w ∈ xTw := by decide +kernel
theorem xk_Pa : ∀ k, k < 5 → parseFieldDescriptor (T_Pa k).2.2.1 = some (t_Pa k) := by decide +kernel
theorem xn_Pa : ∀ a, a < 5 → ∀ b, b < 5 → a ≠ b → (T_Pa a).2.1 ≠ (T_Pa b).2.1 := by decide +kernel
theorem xu_Bi : ∀ w ∈ u_ws "ResidueFlows$Bin" T_Bi 7, w ∈ xTw := by decide +kernel
theorem xk_Bi : ∀ k, k < 7 → parseFieldDescriptor (T_Bi k).2.2.1 = some (t_Bi k) := by decide +kernel
theorem xn_Bi : ∀ a, a < 7 → ∀ b, b < 7 → a ≠ b → (T_Bi a).2.1 ≠ (T_Bi b).2.1 := by decide +kernel
theorem xu_Sc : ∀ w ∈ u_ws "ResidueFlows$Screen" T_Sc 6, w ∈ xTw := by decide +kernel
theorem xk_Sc : ∀ k, k < 6 → parseFieldDescriptor (T_Sc k).2.2.1 = some (t_Sc k) := by decide +kernel
theorem xn_Sc : ∀ a, a < 6 → ∀ b, b < 6 → a ≠ b → (T_Sc a).2.1 ≠ (T_Sc b).2.1 := by decide +kernel
theorem xu_Bo : ∀ w ∈ u_ws "ResidueFlows$Boiler" T_Bo 3, w ∈ xTw := by decide +kernel
theorem xk_Bo : ∀ k, k < 3 → parseFieldDescriptor (T_Bo k).2.2.1 = some (t_Bo k) := by decide +kernel
theorem xn_Bo : ∀ a, a < 3 → ∀ b, b < 3 → a ≠ b → (T_Bo a).2.1 ≠ (T_Bo b).2.1 := by decide +kernel
theorem xu_Mo : ∀ w ∈ u_ws "ResidueFlowsModel" T_Mo 25, w ∈ xTw := by decide +kernel
theorem xk_Mo : ∀ k, k < 25 → parseFieldDescriptor (T_Mo k).2.2.1 = some (t_Mo k) := by decide +kernel
theorem xn_Mo : ∀ a, a < 25 → ∀ b, b < 25 → a ≠ b → (T_Mo a).2.1 ≠ (T_Mo b).2.1 := by decide +kernel
def Y_RF_init : MethodName × ByteArray × Nat × Option FieldType × Room × List (Nat × Nat × Nat × Nat) := (⟨"ResidueFlows", "<init>", "()V"⟩, prog_1_method_1_code, 2, none, { frames := 10, cells := 21, slots := 140, locals := 387 }, [])
def Y_Sh_init : MethodName × ByteArray × Nat × Option FieldType × Room × List (Nat × Nat × Nat × Nat) := (⟨"ResidueFlows$Share", "<init>", "(II)V"⟩, prog_6_method_1_code, 3, none, { frames := 9, cells := 0, slots := 0, locals := 365 }, [])
def Y_Pa_init : MethodName × ByteArray × Nat × Option FieldType × Room × List (Nat × Nat × Nat × Nat) := (⟨"ResidueFlows$Parts", "<init>", "()V"⟩, prog_4_method_1_code, 1, none, { frames := 9, cells := 0, slots := 0, locals := 367 }, [])
def Y_Bi_init : MethodName × ByteArray × Nat × Option FieldType × Room × List (Nat × Nat × Nat × Nat) := (⟨"ResidueFlows$Bin", "<init>", "()V"⟩, prog_2_method_1_code, 1, none, { frames := 9, cells := 0, slots := 0, locals := 367 }, [])
def Y_Sc_init : MethodName × ByteArray × Nat × Option FieldType × Room × List (Nat × Nat × Nat × Nat) := (⟨"ResidueFlows$Screen", "<init>", "()V"⟩, prog_5_method_1_code, 1, none, { frames := 9, cells := 0, slots := 0, locals := 367 }, [])
def Y_Bo_init : MethodName × ByteArray × Nat × Option FieldType × Room × List (Nat × Nat × Nat × Nat) := (⟨"ResidueFlows$Boiler", "<init>", "()V"⟩, prog_3_method_1_code, 1, none, { frames := 9, cells := 2, slots := 16, locals := 367 }, [])
def Y_RF_begin : MethodName × ByteArray × Nat × Option FieldType × Room × List (Nat × Nat × Nat × Nat) := (⟨"ResidueFlows", "begin", "()V"⟩, prog_1_method_13_code, 2, none, { frames := 10, cells := 1, slots := 6, locals := 387 }, [])
def Y_RF_carbon : MethodName × ByteArray × Nat × Option FieldType × Room × List (Nat × Nat × Nat × Nat) := (⟨"ResidueFlows", "carbon", "()J"⟩, prog_1_method_19_code, 4, (some .long), { frames := 10, cells := 1, slots := 6, locals := 385 }, [])
def Y_La_share : MethodName × ByteArray × Nat × Option FieldType × Room × List (Nat × Nat × Nat × Nat) := (⟨"ResidueFlowsLaw", "share", "(LResidueFlows;III)I"⟩, method_3_code, 5, (some .int), { frames := 10, cells := 1, slots := 6, locals := 384 }, [(0, 7, 10, 13), (0, 7, 14, 15)])
def Y_RF_share : MethodName × ByteArray × Nat × Option FieldType × Room × List (Nat × Nat × Nat × Nat) := (⟨"ResidueFlows", "share", "(III)V"⟩, prog_1_method_2_code, 5, none, { frames := 9, cells := 1, slots := 6, locals := 360 }, [])
def Y_La_log : MethodName × ByteArray × Nat × Option FieldType × Room × List (Nat × Nat × Nat × Nat) := (⟨"ResidueFlowsLaw", "log", "(LResidueFlows;III[J)I"⟩, method_4_code, 6, (some .int), { frames := 10, cells := 1, slots := 6, locals := 383 }, [(0, 12, 15, 15)])
def Y_RF_log : MethodName × ByteArray × Nat × Option FieldType × Room × List (Nat × Nat × Nat × Nat) := (⟨"ResidueFlows", "log", "(III)I"⟩, prog_1_method_3_code, 15, (some .int), { frames := 9, cells := 1, slots := 6, locals := 349 }, [])
def Y_Sh_of : MethodName × ByteArray × Nat × Option FieldType × Room × List (Nat × Nat × Nat × Nat) := (⟨"ResidueFlows$Share", "of", "(J)J"⟩, prog_6_method_2_code, 3, (some .long), { frames := 8, cells := 1, slots := 6, locals := 327 }, [])
def Y_RF_portion : MethodName × ByteArray × Nat × Option FieldType × Room × List (Nat × Nat × Nat × Nat) := (⟨"ResidueFlows", "portion", "(JJJ)J"⟩, prog_1_method_31_code, 6, (some .long), { frames := 6, cells := 1, slots := 6, locals := 286 }, [])
def Y_Pa_tell : MethodName × ByteArray × Nat × Option FieldType × Room × List (Nat × Nat × Nat × Nat) := (⟨"ResidueFlows$Parts", "tell", "(JJJJJ)V"⟩, prog_4_method_2_code, 11, none, { frames := 8, cells := 1, slots := 6, locals := 319 }, [])
def Y_Pa_add : MethodName × ByteArray × Nat × Option FieldType × Room × List (Nat × Nat × Nat × Nat) := (⟨"ResidueFlows$Parts", "add", "(LResidueFlows$Parts;)V"⟩, prog_4_method_3_code, 2, none, { frames := 8, cells := 1, slots := 6, locals := 328 }, [])
def Y_La_volume : MethodName × ByteArray × Nat × Option FieldType × Room × List (Nat × Nat × Nat × Nat) := (⟨"ResidueFlowsLaw", "volume", "(LResidueFlows;IZ[J)I"⟩, method_5_code, 5, (some .int), { frames := 10, cells := 1, slots := 6, locals := 384 }, [(0, 9, 12, 13), (0, 9, 16, 25)])
def Y_RF_volume : MethodName × ByteArray × Nat × Option FieldType × Room × List (Nat × Nat × Nat × Nat) := (⟨"ResidueFlows", "volume", "(IZ)J"⟩, prog_1_method_4_code, 3, (some .long), { frames := 9, cells := 1, slots := 6, locals := 362 }, [])
def Y_RF_checkKind : MethodName × ByteArray × Nat × Option FieldType × Room × List (Nat × Nat × Nat × Nat) := (⟨"ResidueFlows", "checkKind", "(I)V"⟩, prog_1_method_20_code, 1, none, { frames := 8, cells := 1, slots := 6, locals := 341 }, [])
def Y_RF_checkLogs : MethodName × ByteArray × Nat × Option FieldType × Room × List (Nat × Nat × Nat × Nat) := (⟨"ResidueFlows", "checkLogs", "()V"⟩, prog_1_method_21_code, 1, none, { frames := 8, cells := 1, slots := 6, locals := 342 }, [])
def Y_Pa_ofKind : MethodName × ByteArray × Nat × Option FieldType × Room × List (Nat × Nat × Nat × Nat) := (⟨"ResidueFlows$Parts", "ofKind", "(I)J"⟩, prog_4_method_4_code, 2, (some .long), { frames := 8, cells := 1, slots := 6, locals := 341 }, [])
def Y_La_boards : MethodName × ByteArray × Nat × Option FieldType × Room × List (Nat × Nat × Nat × Nat) := (⟨"ResidueFlowsLaw", "boards", "(LResidueFlows;Z[J)I"⟩, method_6_code, 4, (some .int), { frames := 10, cells := 1, slots := 6, locals := 385 }, [(0, 8, 11, 25)])
def Y_RF_boards : MethodName × ByteArray × Nat × Option FieldType × Room × List (Nat × Nat × Nat × Nat) := (⟨"ResidueFlows", "boards", "(Z)J"⟩, prog_1_method_5_code, 2, (some .long), { frames := 9, cells := 1, slots := 6, locals := 364 }, [])
def Y_La_bin : MethodName × ByteArray × Nat × Option FieldType × Room × List (Nat × Nat × Nat × Nat) := (⟨"ResidueFlowsLaw", "bin", "(LResidueFlows;II[J)I"⟩, method_7_code, 5, (some .int), { frames := 10, cells := 1, slots := 6, locals := 384 }, [(0, 10, 13, 13), (0, 10, 17, 15), (0, 10, 21, 25)])
def Y_RF_bin : MethodName × ByteArray × Nat × Option FieldType × Room × List (Nat × Nat × Nat × Nat) := (⟨"ResidueFlows", "bin", "(II)I"⟩, prog_1_method_6_code, 4, (some .int), { frames := 9, cells := 1, slots := 6, locals := 361 }, [])
def Y_La_pour : MethodName × ByteArray × Nat × Option FieldType × Room × List (Nat × Nat × Nat × Nat) := (⟨"ResidueFlowsLaw", "pour", "(LResidueFlows;III[J)I"⟩, method_8_code, 6, (some .int), { frames := 10, cells := 1, slots := 6, locals := 383 }, [(0, 19, 22, 13), (0, 19, 26, 15)])
def Y_RF_pour : MethodName × ByteArray × Nat × Option FieldType × Room × List (Nat × Nat × Nat × Nat) := (⟨"ResidueFlows", "pour", "(III)Z"⟩, prog_1_method_7_code, 5, (some .boolean), { frames := 9, cells := 1, slots := 6, locals := 359 }, [])
def Y_RF_binAt : MethodName × ByteArray × Nat × Option FieldType × Room × List (Nat × Nat × Nat × Nat) := (⟨"ResidueFlows", "binAt", "(I)LResidueFlows$Bin;"⟩, prog_1_method_26_code, 2, (some (.object "ResidueFlows$Bin")), { frames := 8, cells := 1, slots := 6, locals := 330 }, [])
def Y_RF_checkPoured : MethodName × ByteArray × Nat × Option FieldType × Room × List (Nat × Nat × Nat × Nat) := (⟨"ResidueFlows", "checkPoured", "(II)V"⟩, prog_1_method_22_code, 2, none, { frames := 8, cells := 1, slots := 6, locals := 332 }, [])
def Y_Bi_hasRoom : MethodName × ByteArray × Nat × Option FieldType × Room × List (Nat × Nat × Nat × Nat) := (⟨"ResidueFlows$Bin", "hasRoom", "(I)Z"⟩, prog_2_method_3_code, 2, (some .boolean), { frames := 8, cells := 1, slots := 6, locals := 332 }, [])
def Y_Bi_grams : MethodName × ByteArray × Nat × Option FieldType × Room × List (Nat × Nat × Nat × Nat) := (⟨"ResidueFlows$Bin", "grams", "()J"⟩, prog_2_method_2_code, 1, (some .long), { frames := 6, cells := 1, slots := 6, locals := 291 }, [])
def Y_RF_pourInto : MethodName × ByteArray × Nat × Option FieldType × Room × List (Nat × Nat × Nat × Nat) := (⟨"ResidueFlows", "pourInto", "(LResidueFlows$Bin;II)V"⟩, prog_1_method_28_code, 4, none, { frames := 8, cells := 1, slots := 6, locals := 330 }, [])
def Y_Bi_change : MethodName × ByteArray × Nat × Option FieldType × Room × List (Nat × Nat × Nat × Nat) := (⟨"ResidueFlows$Bin", "change", "(JJ)V"⟩, prog_2_method_7_code, 5, none, { frames := 7, cells := 1, slots := 6, locals := 304 }, [])
def Y_La_about : MethodName × ByteArray × Nat × Option FieldType × Room × List (Nat × Nat × Nat × Nat) := (⟨"ResidueFlowsLaw", "about", "(LResidueFlows;II[J)I"⟩, method_9_code, 5, (some .int), { frames := 10, cells := 1, slots := 6, locals := 384 }, [(0, 9, 12, 13)])
def Y_RF_about : MethodName × ByteArray × Nat × Option FieldType × Room × List (Nat × Nat × Nat × Nat) := (⟨"ResidueFlows", "about", "(II)J"⟩, prog_1_method_8_code, 4, (some .long), { frames := 9, cells := 1, slots := 6, locals := 361 }, [])
def Y_La_screen : MethodName × ByteArray × Nat × Option FieldType × Room × List (Nat × Nat × Nat × Nat) := (⟨"ResidueFlowsLaw", "screen", "(LResidueFlows;IIIIII)I"⟩, method_10_code, 8, (some .int), { frames := 10, cells := 1, slots := 6, locals := 381 }, [(0, 13, 16, 13), (0, 13, 20, 15)])
def Y_RF_screen : MethodName × ByteArray × Nat × Option FieldType × Room × List (Nat × Nat × Nat × Nat) := (⟨"ResidueFlows", "screen", "(IIIIII)V"⟩, prog_1_method_9_code, 11, none, { frames := 9, cells := 1, slots := 6, locals := 351 }, [])
def Y_RF_screenAt : MethodName × ByteArray × Nat × Option FieldType × Room × List (Nat × Nat × Nat × Nat) := (⟨"ResidueFlows", "screenAt", "(I)LResidueFlows$Screen;"⟩, prog_1_method_27_code, 2, (some (.object "ResidueFlows$Screen")), { frames := 8, cells := 1, slots := 6, locals := 330 }, [])
def Y_Sc_tell : MethodName × ByteArray × Nat × Option FieldType × Room × List (Nat × Nat × Nat × Nat) := (⟨"ResidueFlows$Screen", "tell", "(IIIII)V"⟩, prog_5_method_2_code, 6, none, { frames := 8, cells := 1, slots := 6, locals := 326 }, [])
def Y_La_send : MethodName × ByteArray × Nat × Option FieldType × Room × List (Nat × Nat × Nat × Nat) := (⟨"ResidueFlowsLaw", "send", "(LResidueFlows;III[J)I"⟩, method_11_code, 6, (some .int), { frames := 10, cells := 1, slots := 6, locals := 383 }, [(0, 19, 22, 13), (0, 19, 26, 15), (0, 19, 30, 25)])
def Y_RF_send : MethodName × ByteArray × Nat × Option FieldType × Room × List (Nat × Nat × Nat × Nat) := (⟨"ResidueFlows", "send", "(III)Z"⟩, prog_1_method_10_code, 11, (some .boolean), { frames := 9, cells := 1, slots := 6, locals := 353 }, [])
def Y_La_scale : MethodName × ByteArray × Nat × Option FieldType × Room × List (Nat × Nat × Nat × Nat) := (⟨"ResidueFlowsLaw", "scale", "(LResidueFlows;IJ)I"⟩, method_12_code, 5, (some .int), { frames := 10, cells := 1, slots := 6, locals := 384 }, [(0, 6, 9, 13), (0, 6, 13, 15)])
def Y_RF_scale : MethodName × ByteArray × Nat × Option FieldType × Room × List (Nat × Nat × Nat × Nat) := (⟨"ResidueFlows", "scale", "(IJ)V"⟩, prog_1_method_11_code, 5, none, { frames := 9, cells := 1, slots := 6, locals := 360 }, [])
def Y_La_shift : MethodName × ByteArray × Nat × Option FieldType × Room × List (Nat × Nat × Nat × Nat) := (⟨"ResidueFlowsLaw", "shift", "(LResidueFlows;I[J)I"⟩, method_13_code, 4, (some .int), { frames := 10, cells := 1, slots := 6, locals := 385 }, [(0, 8, 11, 13)])
def Y_RF_shift : MethodName × ByteArray × Nat × Option FieldType × Room × List (Nat × Nat × Nat × Nat) := (⟨"ResidueFlows", "shift", "(I)J"⟩, prog_1_method_12_code, 2, (some .long), { frames := 9, cells := 1, slots := 6, locals := 364 }, [])
def Y_RF_gramsLost : MethodName × ByteArray × Nat × Option FieldType × Room × List (Nat × Nat × Nat × Nat) := (⟨"ResidueFlows", "gramsLost", "()J"⟩, prog_1_method_30_code, 4, (some .long), { frames := 8, cells := 1, slots := 6, locals := 341 }, [])
def Y_La_row : MethodName × ByteArray × Nat × Option FieldType × Room × List (Nat × Nat × Nat × Nat) := (⟨"ResidueFlowsLaw", "row", "(LResidueFlows;II[J)I"⟩, method_14_code, 5, (some .int), { frames := 10, cells := 1, slots := 6, locals := 384 }, [(0, 10, 13, 15), (0, 10, 17, 25)])
def Y_RF_row : MethodName × ByteArray × Nat × Option FieldType × Room × List (Nat × Nat × Nat × Nat) := (⟨"ResidueFlows", "row", "(II)I"⟩, prog_1_method_14_code, 3, (some .int), { frames := 9, cells := 1, slots := 6, locals := 362 }, [])
def Y_RF_checkDay : MethodName × ByteArray × Nat × Option FieldType × Room × List (Nat × Nat × Nat × Nat) := (⟨"ResidueFlows", "checkDay", "(I)V"⟩, prog_1_method_24_code, 1, none, { frames := 8, cells := 1, slots := 6, locals := 333 }, [])
def Y_Bo_lastDay : MethodName × ByteArray × Nat × Option FieldType × Room × List (Nat × Nat × Nat × Nat) := (⟨"ResidueFlows$Boiler", "lastDay", "()I"⟩, prog_3_method_2_code, 1, (some .int), { frames := 8, cells := 1, slots := 6, locals := 342 }, [])
def Y_Bo_add : MethodName × ByteArray × Nat × Option FieldType × Room × List (Nat × Nat × Nat × Nat) := (⟨"ResidueFlows$Boiler", "add", "(II)Z"⟩, prog_3_method_3_code, 3, (some .boolean), { frames := 8, cells := 1, slots := 6, locals := 340 }, [])
def Y_La_burn : MethodName × ByteArray × Nat × Option FieldType × Room × List (Nat × Nat × Nat × Nat) := (⟨"ResidueFlowsLaw", "burn", "(LResidueFlows;III[J)I"⟩, method_15_code, 6, (some .int), { frames := 10, cells := 1, slots := 6, locals := 383 }, [(0, 11, 14, 13), (0, 11, 18, 15), (0, 11, 22, 25)])
def Y_RF_burn : MethodName × ByteArray × Nat × Option FieldType × Room × List (Nat × Nat × Nat × Nat) := (⟨"ResidueFlows", "burn", "(III)J"⟩, prog_1_method_15_code, 11, (some .long), { frames := 9, cells := 1, slots := 6, locals := 353 }, [])
def Y_RF_checkTaken : MethodName × ByteArray × Nat × Option FieldType × Room × List (Nat × Nat × Nat × Nat) := (⟨"ResidueFlows", "checkTaken", "(I)V"⟩, prog_1_method_23_code, 1, none, { frames := 8, cells := 1, slots := 6, locals := 333 }, [])
def Y_RF_checkEnough : MethodName × ByteArray × Nat × Option FieldType × Room × List (Nat × Nat × Nat × Nat) := (⟨"ResidueFlows", "checkEnough", "(LResidueFlows$Bin;I)V"⟩, prog_1_method_25_code, 2, none, { frames := 8, cells := 1, slots := 6, locals := 332 }, [])
def Y_Bi_waterIn : MethodName × ByteArray × Nat × Option FieldType × Room × List (Nat × Nat × Nat × Nat) := (⟨"ResidueFlows$Bin", "waterIn", "(I)J"⟩, prog_2_method_4_code, 2, (some .long), { frames := 7, cells := 1, slots := 6, locals := 311 }, [])
def Y_Bi_dryIn : MethodName × ByteArray × Nat × Option FieldType × Room × List (Nat × Nat × Nat × Nat) := (⟨"ResidueFlows$Bin", "dryIn", "(I)J"⟩, prog_2_method_5_code, 2, (some .long), { frames := 8, cells := 1, slots := 6, locals := 332 }, [])
def Y_RF_takeAway : MethodName × ByteArray × Nat × Option FieldType × Room × List (Nat × Nat × Nat × Nat) := (⟨"ResidueFlows", "takeAway", "(LResidueFlows$Bin;JJ)V"⟩, prog_1_method_29_code, 6, none, { frames := 8, cells := 1, slots := 6, locals := 328 }, [])
def Y_Bo_percentAt : MethodName × ByteArray × Nat × Option FieldType × Room × List (Nat × Nat × Nat × Nat) := (⟨"ResidueFlows$Boiler", "percentAt", "(I)I"⟩, prog_3_method_4_code, 4, (some .int), { frames := 8, cells := 1, slots := 6, locals := 330 }, [])
def Y_La_sell : MethodName × ByteArray × Nat × Option FieldType × Room × List (Nat × Nat × Nat × Nat) := (⟨"ResidueFlowsLaw", "sell", "(LResidueFlows;III[J)I"⟩, method_16_code, 6, (some .int), { frames := 10, cells := 1, slots := 6, locals := 383 }, [(0, 11, 14, 13), (0, 11, 18, 15), (0, 11, 22, 25)])
def Y_RF_sell : MethodName × ByteArray × Nat × Option FieldType × Room × List (Nat × Nat × Nat × Nat) := (⟨"ResidueFlows", "sell", "(III)J"⟩, prog_1_method_16_code, 7, (some .long), { frames := 9, cells := 1, slots := 6, locals := 357 }, [])
def Y_La_span : MethodName × ByteArray × Nat × Option FieldType × Room × List (Nat × Nat × Nat × Nat) := (⟨"ResidueFlowsLaw", "span", "(LResidueFlows;III)I"⟩, method_17_code, 5, (some .int), { frames := 10, cells := 1, slots := 6, locals := 384 }, [(0, 7, 10, 13), (0, 7, 14, 15)])
def Y_RF_span : MethodName × ByteArray × Nat × Option FieldType × Room × List (Nat × Nat × Nat × Nat) := (⟨"ResidueFlows", "span", "(III)V"⟩, prog_1_method_17_code, 5, none, { frames := 9, cells := 1, slots := 6, locals := 360 }, [])
def Y_La_mix : MethodName × ByteArray × Nat × Option FieldType × Room × List (Nat × Nat × Nat × Nat) := (⟨"ResidueFlowsLaw", "mix", "(LResidueFlows;III[J)I"⟩, method_18_code, 6, (some .int), { frames := 10, cells := 1, slots := 6, locals := 383 }, [(0, 19, 22, 13), (0, 19, 26, 15), (0, 19, 30, 25)])
def Y_RF_mix : MethodName × ByteArray × Nat × Option FieldType × Room × List (Nat × Nat × Nat × Nat) := (⟨"ResidueFlows", "mix", "(III)Z"⟩, prog_1_method_18_code, 10, (some .boolean), { frames := 9, cells := 1, slots := 6, locals := 354 }, [])
def Y_Bi_spanAllows : MethodName × ByteArray × Nat × Option FieldType × Room × List (Nat × Nat × Nat × Nat) := (⟨"ResidueFlows$Bin", "spanAllows", "(JJ)Z"⟩, prog_2_method_6_code, 7, (some .boolean), { frames := 8, cells := 1, slots := 6, locals := 328 }, [])
def Y_Mo_init : MethodName × ByteArray × Nat × Option FieldType × Room × List (Nat × Nat × Nat × Nat) := (⟨"ResidueFlowsModel", "<init>", "()V"⟩, prog_8_method_1_code, 1, none, { frames := 10, cells := 16, slots := 200, locals := 388 }, [])
def Y_Mo_thrown : MethodName × ByteArray × Nat × Option FieldType × Room × List (Nat × Nat × Nat × Nat) := (⟨"ResidueFlowsModel", "thrown", "()I"⟩, prog_8_method_2_code, 1, (some .int), { frames := 10, cells := 1, slots := 6, locals := 388 }, [])
def Y_Mo_share : MethodName × ByteArray × Nat × Option FieldType × Room × List (Nat × Nat × Nat × Nat) := (⟨"ResidueFlowsModel", "share", "(III)V"⟩, prog_8_method_5_code, 4, none, { frames := 10, cells := 1, slots := 6, locals := 385 }, [])
def Y_Mo_isIn : MethodName × ByteArray × Nat × Option FieldType × Room × List (Nat × Nat × Nat × Nat) := (⟨"ResidueFlowsModel", "isIn", "(JJJ)Z"⟩, prog_8_method_3_code, 6, (some .boolean), { frames := 8, cells := 1, slots := 6, locals := 337 }, [])
def Y_Mo_log : MethodName × ByteArray × Nat × Option FieldType × Room × List (Nat × Nat × Nat × Nat) := (⟨"ResidueFlowsModel", "log", "(III)I"⟩, prog_8_method_6_code, 11, (some .int), { frames := 10, cells := 1, slots := 6, locals := 378 }, [])
def Y_Mo_volume : MethodName × ByteArray × Nat × Option FieldType × Room × List (Nat × Nat × Nat × Nat) := (⟨"ResidueFlowsModel", "volume", "(IZ)J"⟩, prog_8_method_7_code, 3, (some .long), { frames := 10, cells := 1, slots := 6, locals := 386 }, [])
def Y_Mo_boards : MethodName × ByteArray × Nat × Option FieldType × Room × List (Nat × Nat × Nat × Nat) := (⟨"ResidueFlowsModel", "boards", "(Z)J"⟩, prog_8_method_8_code, 2, (some .long), { frames := 10, cells := 1, slots := 6, locals := 387 }, [])
def Y_Mo_bin : MethodName × ByteArray × Nat × Option FieldType × Room × List (Nat × Nat × Nat × Nat) := (⟨"ResidueFlowsModel", "bin", "(II)I"⟩, prog_8_method_9_code, 3, (some .int), { frames := 10, cells := 1, slots := 6, locals := 386 }, [])
def Y_Mo_pour : MethodName × ByteArray × Nat × Option FieldType × Room × List (Nat × Nat × Nat × Nat) := (⟨"ResidueFlowsModel", "pour", "(III)Z"⟩, prog_8_method_14_code, 4, (some .boolean), { frames := 10, cells := 1, slots := 6, locals := 385 }, [])
def Y_Mo_noBin : MethodName × ByteArray × Nat × Option FieldType × Room × List (Nat × Nat × Nat × Nat) := (⟨"ResidueFlowsModel", "noBin", "(I)Z"⟩, prog_8_method_4_code, 2, (some .boolean), { frames := 9, cells := 1, slots := 6, locals := 357 }, [])
def Y_Mo_isPoured : MethodName × ByteArray × Nat × Option FieldType × Room × List (Nat × Nat × Nat × Nat) := (⟨"ResidueFlowsModel", "isPoured", "(II)Z"⟩, prog_8_method_13_code, 2, (some .boolean), { frames := 9, cells := 1, slots := 6, locals := 362 }, [])
def Y_Mo_hasRoom : MethodName × ByteArray × Nat × Option FieldType × Room × List (Nat × Nat × Nat × Nat) := (⟨"ResidueFlowsModel", "hasRoom", "(IJ)Z"⟩, prog_8_method_11_code, 4, (some .boolean), { frames := 9, cells := 1, slots := 6, locals := 358 }, [])
def Y_Mo_all : MethodName × ByteArray × Nat × Option FieldType × Room × List (Nat × Nat × Nat × Nat) := (⟨"ResidueFlowsModel", "all", "(I)J"⟩, prog_8_method_10_code, 2, (some .long), { frames := 8, cells := 1, slots := 6, locals := 336 }, [])
def Y_Mo_add : MethodName × ByteArray × Nat × Option FieldType × Room × List (Nat × Nat × Nat × Nat) := (⟨"ResidueFlowsModel", "add", "(IJI)V"⟩, prog_8_method_12_code, 5, none, { frames := 9, cells := 1, slots := 6, locals := 359 }, [])
def Y_Mo_about : MethodName × ByteArray × Nat × Option FieldType × Room × List (Nat × Nat × Nat × Nat) := (⟨"ResidueFlowsModel", "about", "(II)J"⟩, prog_8_method_15_code, 3, (some .long), { frames := 10, cells := 1, slots := 6, locals := 386 }, [])
def Y_Mo_screen : MethodName × ByteArray × Nat × Option FieldType × Room × List (Nat × Nat × Nat × Nat) := (⟨"ResidueFlowsModel", "screen", "(IIIIII)V"⟩, prog_8_method_16_code, 11, none, { frames := 10, cells := 1, slots := 6, locals := 378 }, [])
def Y_Mo_send : MethodName × ByteArray × Nat × Option FieldType × Room × List (Nat × Nat × Nat × Nat) := (⟨"ResidueFlowsModel", "send", "(III)Z"⟩, prog_8_method_19_code, 6, (some .boolean), { frames := 10, cells := 1, slots := 6, locals := 383 }, [])
def Y_Mo_part : MethodName × ByteArray × Nat × Option FieldType × Room × List (Nat × Nat × Nat × Nat) := (⟨"ResidueFlowsModel", "part", "(IIJ)J"⟩, prog_8_method_17_code, 5, (some .long), { frames := 9, cells := 1, slots := 6, locals := 359 }, [])
def Y_Mo_others : MethodName × ByteArray × Nat × Option FieldType × Room × List (Nat × Nat × Nat × Nat) := (⟨"ResidueFlowsModel", "others", "(IJ)J"⟩, prog_8_method_18_code, 4, (some .long), { frames := 8, cells := 1, slots := 6, locals := 336 }, [])
def Y_Mo_scale : MethodName × ByteArray × Nat × Option FieldType × Room × List (Nat × Nat × Nat × Nat) := (⟨"ResidueFlowsModel", "scale", "(IJ)V"⟩, prog_8_method_20_code, 4, none, { frames := 10, cells := 1, slots := 6, locals := 385 }, [])
def Y_Mo_shift : MethodName × ByteArray × Nat × Option FieldType × Room × List (Nat × Nat × Nat × Nat) := (⟨"ResidueFlowsModel", "shift", "(I)J"⟩, prog_8_method_21_code, 5, (some .long), { frames := 10, cells := 1, slots := 6, locals := 384 }, [])
def Y_Mo_begin : MethodName × ByteArray × Nat × Option FieldType × Room × List (Nat × Nat × Nat × Nat) := (⟨"ResidueFlowsModel", "begin", "()V"⟩, prog_8_method_22_code, 2, none, { frames := 10, cells := 1, slots := 6, locals := 387 }, [])
def Y_Mo_row : MethodName × ByteArray × Nat × Option FieldType × Room × List (Nat × Nat × Nat × Nat) := (⟨"ResidueFlowsModel", "row", "(II)I"⟩, prog_8_method_23_code, 4, (some .int), { frames := 10, cells := 1, slots := 6, locals := 385 }, [])
def Y_Mo_burn : MethodName × ByteArray × Nat × Option FieldType × Room × List (Nat × Nat × Nat × Nat) := (⟨"ResidueFlowsModel", "burn", "(III)J"⟩, prog_8_method_27_code, 8, (some .long), { frames := 10, cells := 1, slots := 6, locals := 381 }, [])
def Y_Mo_has : MethodName × ByteArray × Nat × Option FieldType × Room × List (Nat × Nat × Nat × Nat) := (⟨"ResidueFlowsModel", "has", "(II)Z"⟩, prog_8_method_24_code, 3, (some .boolean), { frames := 9, cells := 1, slots := 6, locals := 359 }, [])
def Y_Mo_take : MethodName × ByteArray × Nat × Option FieldType × Room × List (Nat × Nat × Nat × Nat) := (⟨"ResidueFlowsModel", "take", "(II)V"⟩, prog_8_method_25_code, 5, none, { frames := 9, cells := 1, slots := 6, locals := 357 }, [])
def Y_Mo_goes : MethodName × ByteArray × Nat × Option FieldType × Room × List (Nat × Nat × Nat × Nat) := (⟨"ResidueFlowsModel", "goes", "(I)V"⟩, prog_8_method_26_code, 2, none, { frames := 9, cells := 1, slots := 6, locals := 360 }, [])
def Y_Mo_sell : MethodName × ByteArray × Nat × Option FieldType × Room × List (Nat × Nat × Nat × Nat) := (⟨"ResidueFlowsModel", "sell", "(III)J"⟩, prog_8_method_28_code, 4, (some .long), { frames := 10, cells := 1, slots := 6, locals := 385 }, [])
def Y_Mo_span : MethodName × ByteArray × Nat × Option FieldType × Room × List (Nat × Nat × Nat × Nat) := (⟨"ResidueFlowsModel", "span", "(III)V"⟩, prog_8_method_29_code, 4, none, { frames := 10, cells := 1, slots := 6, locals := 385 }, [])
def Y_Mo_mix : MethodName × ByteArray × Nat × Option FieldType × Room × List (Nat × Nat × Nat × Nat) := (⟨"ResidueFlowsModel", "mix", "(III)Z"⟩, prog_8_method_30_code, 8, (some .boolean), { frames := 10, cells := 1, slots := 6, locals := 381 }, [])
def Y_Mo_carbon : MethodName × ByteArray × Nat × Option FieldType × Room × List (Nat × Nat × Nat × Nat) := (⟨"ResidueFlowsModel", "carbon", "()J"⟩, prog_8_method_31_code, 4, (some .long), { frames := 10, cells := 1, slots := 6, locals := 385 }, [])
def Y_La_law : MethodName × ByteArray × Nat × Option FieldType × Room × List (Nat × Nat × Nat × Nat) := (⟨"ResidueFlowsLaw", "law", "([I)Z"⟩, code, 8, (some .boolean), { frames := 11, cells := 663135, slots := 7106699, locals := 408 }, [])
