section
-- ===== PART A: goes FIRST, ahead of the names: the tables' words, and 'selects' of the private methods out of them =====
/-- a private method of a class that the tables say can be made, by its rows of tables_1 -/
def lw_okq (q : MethodName × Nat) : Prop := (q.1.cls ≠ "java/lang/invoke/MethodHandle" ∧ q.1.cls ≠ "java/lang/invoke/VarHandle") ∧ Cond.instantiable q.1.cls q.2 ∈ tables_1 ∧ Cond.privateMethod q.1 ∈ tables_1 ∧ Cond.instanceMethod q.1 ∈ tables_1
theorem lw_p0 : lw_okq (⟨"java/lang/Throwable", "fillInStackTrace", "(I)Ljava/lang/Throwable;"⟩, 6) := ⟨⟨by decide +kernel, by decide +kernel⟩, List.mem_of_getElem? (i := 241) (by decide +kernel), List.mem_of_getElem? (i := 239) (by decide +kernel), List.mem_of_getElem? (i := 240) (by decide +kernel)⟩
theorem lw_p1 : lw_okq (⟨"ResidueFlows", "checkLogs", "()V"⟩, 12) := ⟨⟨by decide +kernel, by decide +kernel⟩, List.mem_of_getElem? (i := 15) (by decide +kernel), List.mem_of_getElem? (i := 325) (by decide +kernel), List.mem_of_getElem? (i := 326) (by decide +kernel)⟩
theorem lw_p2 : lw_okq (⟨"ResidueFlows", "binAt", "(I)LResidueFlows$Bin;"⟩, 12) := ⟨⟨by decide +kernel, by decide +kernel⟩, List.mem_of_getElem? (i := 15) (by decide +kernel), List.mem_of_getElem? (i := 373) (by decide +kernel), List.mem_of_getElem? (i := 374) (by decide +kernel)⟩
theorem lw_p3 : lw_okq (⟨"ResidueFlows", "pourInto", "(LResidueFlows$Bin;II)V"⟩, 12) := ⟨⟨by decide +kernel, by decide +kernel⟩, List.mem_of_getElem? (i := 15) (by decide +kernel), List.mem_of_getElem? (i := 391) (by decide +kernel), List.mem_of_getElem? (i := 392) (by decide +kernel)⟩
theorem lw_p4 : lw_okq (⟨"ResidueFlows", "screenAt", "(I)LResidueFlows$Screen;"⟩, 12) := ⟨⟨by decide +kernel, by decide +kernel⟩, List.mem_of_getElem? (i := 15) (by decide +kernel), List.mem_of_getElem? (i := 416) (by decide +kernel), List.mem_of_getElem? (i := 417) (by decide +kernel)⟩
theorem lw_p5 : lw_okq (⟨"ResidueFlows", "gramsLost", "()J"⟩, 12) := ⟨⟨by decide +kernel, by decide +kernel⟩, List.mem_of_getElem? (i := 15) (by decide +kernel), List.mem_of_getElem? (i := 453) (by decide +kernel), List.mem_of_getElem? (i := 454) (by decide +kernel)⟩
theorem lw_p6 : lw_okq (⟨"ResidueFlows", "takeAway", "(LResidueFlows$Bin;JJ)V"⟩, 12) := ⟨⟨by decide +kernel, by decide +kernel⟩, List.mem_of_getElem? (i := 15) (by decide +kernel), List.mem_of_getElem? (i := 504) (by decide +kernel), List.mem_of_getElem? (i := 505) (by decide +kernel)⟩
theorem lw_p7 : lw_okq (⟨"ResidueFlowsModel", "noBin", "(I)Z"⟩, 25) := ⟨⟨by decide +kernel, by decide +kernel⟩, List.mem_of_getElem? (i := 544) (by decide +kernel), List.mem_of_getElem? (i := 665) (by decide +kernel), List.mem_of_getElem? (i := 666) (by decide +kernel)⟩
theorem lw_p8 : lw_okq (⟨"ResidueFlowsModel", "hasRoom", "(IJ)Z"⟩, 25) := ⟨⟨by decide +kernel, by decide +kernel⟩, List.mem_of_getElem? (i := 544) (by decide +kernel), List.mem_of_getElem? (i := 672) (by decide +kernel), List.mem_of_getElem? (i := 673) (by decide +kernel)⟩
theorem lw_p9 : lw_okq (⟨"ResidueFlowsModel", "all", "(I)J"⟩, 25) := ⟨⟨by decide +kernel, by decide +kernel⟩, List.mem_of_getElem? (i := 544) (by decide +kernel), List.mem_of_getElem? (i := 676) (by decide +kernel), List.mem_of_getElem? (i := 677) (by decide +kernel)⟩
theorem lw_p10 : lw_okq (⟨"ResidueFlowsModel", "add", "(IJI)V"⟩, 25) := ⟨⟨by decide +kernel, by decide +kernel⟩, List.mem_of_getElem? (i := 544) (by decide +kernel), List.mem_of_getElem? (i := 680) (by decide +kernel), List.mem_of_getElem? (i := 681) (by decide +kernel)⟩
theorem lw_p11 : lw_okq (⟨"ResidueFlowsModel", "part", "(IIJ)J"⟩, 25) := ⟨⟨by decide +kernel, by decide +kernel⟩, List.mem_of_getElem? (i := 544) (by decide +kernel), List.mem_of_getElem? (i := 697) (by decide +kernel), List.mem_of_getElem? (i := 698) (by decide +kernel)⟩
theorem lw_p12 : lw_okq (⟨"ResidueFlowsModel", "others", "(IJ)J"⟩, 25) := ⟨⟨by decide +kernel, by decide +kernel⟩, List.mem_of_getElem? (i := 544) (by decide +kernel), List.mem_of_getElem? (i := 701) (by decide +kernel), List.mem_of_getElem? (i := 702) (by decide +kernel)⟩
theorem lw_p13 : lw_okq (⟨"ResidueFlowsModel", "has", "(II)Z"⟩, 25) := ⟨⟨by decide +kernel, by decide +kernel⟩, List.mem_of_getElem? (i := 544) (by decide +kernel), List.mem_of_getElem? (i := 728) (by decide +kernel), List.mem_of_getElem? (i := 729) (by decide +kernel)⟩
theorem lw_p14 : lw_okq (⟨"ResidueFlowsModel", "take", "(II)V"⟩, 25) := ⟨⟨by decide +kernel, by decide +kernel⟩, List.mem_of_getElem? (i := 544) (by decide +kernel), List.mem_of_getElem? (i := 732) (by decide +kernel), List.mem_of_getElem? (i := 733) (by decide +kernel)⟩
theorem lw_p15 : lw_okq (⟨"ResidueFlowsModel", "goes", "(I)V"⟩, 25) := ⟨⟨by decide +kernel, by decide +kernel⟩, List.mem_of_getElem? (i := 544) (by decide +kernel), List.mem_of_getElem? (i := 736) (by decide +kernel), List.mem_of_getElem? (i := 737) (by decide +kernel)⟩
def lw_privs_1 : List (MethodName × Nat) := [(⟨"java/lang/Throwable", "fillInStackTrace", "(I)Ljava/lang/Throwable;"⟩, 6), (⟨"ResidueFlows", "checkLogs", "()V"⟩, 12), (⟨"ResidueFlows", "binAt", "(I)LResidueFlows$Bin;"⟩, 12), (⟨"ResidueFlows", "pourInto", "(LResidueFlows$Bin;II)V"⟩, 12), (⟨"ResidueFlows", "screenAt", "(I)LResidueFlows$Screen;"⟩, 12), (⟨"ResidueFlows", "gramsLost", "()J"⟩, 12), (⟨"ResidueFlows", "takeAway", "(LResidueFlows$Bin;JJ)V"⟩, 12), (⟨"ResidueFlowsModel", "noBin", "(I)Z"⟩, 25), (⟨"ResidueFlowsModel", "hasRoom", "(IJ)Z"⟩, 25), (⟨"ResidueFlowsModel", "all", "(I)J"⟩, 25), (⟨"ResidueFlowsModel", "add", "(IJI)V"⟩, 25), (⟨"ResidueFlowsModel", "part", "(IIJ)J"⟩, 25), (⟨"ResidueFlowsModel", "others", "(IJ)J"⟩, 25), (⟨"ResidueFlowsModel", "has", "(II)Z"⟩, 25), (⟨"ResidueFlowsModel", "take", "(II)V"⟩, 25), (⟨"ResidueFlowsModel", "goes", "(I)V"⟩, 25)]
theorem lw_r1 : ∀ q ∈ lw_privs_1, lw_okq q := List.forall_mem_cons.mpr ⟨lw_p0, List.forall_mem_cons.mpr ⟨lw_p1, List.forall_mem_cons.mpr ⟨lw_p2, List.forall_mem_cons.mpr ⟨lw_p3, List.forall_mem_cons.mpr ⟨lw_p4, List.forall_mem_cons.mpr ⟨lw_p5, List.forall_mem_cons.mpr ⟨lw_p6, List.forall_mem_cons.mpr ⟨lw_p7, List.forall_mem_cons.mpr ⟨lw_p8, List.forall_mem_cons.mpr ⟨lw_p9, List.forall_mem_cons.mpr ⟨lw_p10, List.forall_mem_cons.mpr ⟨lw_p11, List.forall_mem_cons.mpr ⟨lw_p12, List.forall_mem_cons.mpr ⟨lw_p13, List.forall_mem_cons.mpr ⟨lw_p14, List.forall_mem_cons.mpr ⟨lw_p15, fun _ h => absurd h List.not_mem_nil⟩⟩⟩⟩⟩⟩⟩⟩⟩⟩⟩⟩⟩⟩⟩⟩
def lw_privs : List (MethodName × Nat) := lw_privs_1
def lw_tbl : List Cond := k2_sels lw_privs ++ tables_1
theorem lw_privs_ok : ∀ q ∈ lw_privs, lw_okq q := lw_r1
/-! NAMES: by gen/names.py -/
def xTw : List Cond := lw_tbl.filter goodWord
theorem xTw_good : ∀ w ∈ xTw, (w.onTables && w.keeps) = true ∨ ∃ ty, w = .arrayClass ty := fun w h => good_of_word (List.mem_filter.mp h).2
theorem xTw_mem {w : Cond} (i : Nat) (h : lw_tbl[i]? = some w) (hg : goodWord w = true) : w ∈ xTw := List.mem_filter.mpr ⟨List.mem_of_getElem? h, hg⟩
theorem xTw_p {w : Cond} (i : Nat) (h : (k2_sels lw_privs)[i]? = some w) (hg : goodWord w = true) : w ∈ xTw := List.mem_filter.mpr ⟨List.mem_append_left _ (List.mem_of_getElem? h), hg⟩
theorem xTw_t {w : Cond} (h : w ∈ tables_1) (hg : goodWord w = true) : w ∈ xTw := List.mem_filter.mpr ⟨List.mem_append_right _ h, hg⟩
theorem xTw_1 {w : Cond} (i : Nat) (h : tables_1_1[i]? = some w) (hg : goodWord w = true) : w ∈ xTw := xTw_t (List.mem_append_left _ (List.mem_of_getElem? h)) hg
theorem xTw_2 {w : Cond} (i : Nat) (h : tables_1_2[i]? = some w) (hg : goodWord w = true) : w ∈ xTw := xTw_t (List.mem_append_right _ (List.mem_append_left _ (List.mem_of_getElem? h))) hg
theorem xTw_3 {w : Cond} (i : Nat) (h : tables_1_3[i]? = some w) (hg : goodWord w = true) : w ∈ xTw := xTw_t (List.mem_append_right _ (List.mem_append_right _ (List.mem_append_left _ (List.mem_of_getElem? h)))) hg
theorem xTw_4 {w : Cond} (i : Nat) (h : tables_1_4[i]? = some w) (hg : goodWord w = true) : w ∈ xTw := xTw_t (List.mem_append_right _ (List.mem_append_right _ (List.mem_append_right _ (List.mem_of_getElem? h)))) hg
theorem xTw_tbl : ∀ w ∈ xTw, w ∈ lw_tbl := fun w h => (List.mem_filter.mp h).1
def xTn : List (String × Nat × MethodName × String) := [("ResidueFlows$Share", 16, ⟨"ResidueFlows", "portion", "(JJJ)J"⟩, "ResidueFlows"), ("ResidueFlows$Bin", 36, ⟨"ResidueFlows", "portion", "(JJJ)J"⟩, "ResidueFlows")]
theorem xTn_tbl : ∀ q ∈ xTn, Cond.methodLinkNest q.1 q.2.1 q.2.2.1 q.2.2.2 ∈ lw_tbl := by decide +kernel
def xTc : List (String × String) := [("java/lang/IllegalArgumentException", "java/lang/IndexOutOfBoundsException"), ("java/lang/IllegalStateException", "java/lang/IndexOutOfBoundsException"), ("java/lang/IllegalStateException", "java/lang/IllegalArgumentException")]
def xTs : List (String × Nat × String) := [("ResidueFlows", 54, "no such share"), ("ResidueFlows", 61, "not a share"), ("ResidueFlows", 71, "not a log"), ("ResidueFlows", 81, "boards and kerf are more than the log"), ("ResidueFlows", 110, "not what a bin can hold"), ("ResidueFlows", 117, "no room for a bin more"), ("ResidueFlows", 154, "nothing such is told of a bin"), ("ResidueFlows", 160, "two bins are one"), ("ResidueFlows", 162, "bins of unlike kinds"), ("ResidueFlows", 166, "a share is below 0"), ("ResidueFlows", 175, "the screen was not told"), ("ResidueFlows", 194, "not a reading"), ("ResidueFlows", 208, "nothing such is told of a shift"), ("ResidueFlows", 219, "not a row behind the one before"), ("ResidueFlows", 224, "no room for a row more"), ("ResidueFlows", 256, "not a price"), ("ResidueFlows", 260, "not a span"), ("ResidueFlows", 268, "both bins are one"), ("ResidueFlows", 280, "no such kind"), ("ResidueFlows", 282, "there was no log"), ("ResidueFlows", 284, "not what can be poured"), ("ResidueFlows", 286, "not what can be taken"), ("ResidueFlows", 288, "not a day"), ("ResidueFlows", 292, "there is not so much"), ("ResidueFlows", 294, "no such bin"), ("ResidueFlows", 296, "no such screen")]
theorem xTs_tbl : ∀ q ∈ xTs, Cond.stringRef q.1 q.2.1 q.2.2 ∈ lw_tbl := by decide +kernel
def xTk : List (String × String) := [("java/lang/IndexOutOfBoundsException", "java/lang/IndexOutOfBoundsException"), ("java/lang/IllegalArgumentException", "java/lang/IllegalArgumentException"), ("java/lang/IllegalStateException", "java/lang/IllegalStateException")]
theorem xTk_tbl : ∀ q ∈ xTk, Cond.castable q.1 q.2 ∈ lw_tbl := by decide +kernel
def xTd : List MethodName := [⟨"java/lang/RuntimeException", "<init>", "()V"⟩, ⟨"java/lang/RuntimeException", "<init>", "(Ljava/lang/String;)V"⟩, ⟨"java/lang/Exception", "<init>", "()V"⟩, ⟨"java/lang/Exception", "<init>", "(Ljava/lang/String;)V"⟩, ⟨"java/lang/Throwable", "<init>", "()V"⟩, ⟨"java/lang/Throwable", "<init>", "(Ljava/lang/String;)V"⟩]
theorem xTd_tbl : ∀ q ∈ xTd, Cond.declares q ∈ lw_tbl := by decide +kernel
def xTo : List String := ["ResidueFlows$Bin", "ResidueFlows$Screen"]
theorem xTo_tbl : ∀ q ∈ xTo, Cond.arrayOver (.object q) ∈ lw_tbl := by decide +kernel
def T_RF : u_T := fun k => match k with
  | 0 => ("ResidueFlows", "barkShare", "LResidueFlows$Share;", true)
  | 1 => ("ResidueFlows", "offcutsShare", "LResidueFlows$Share;", true)
  | 2 => ("ResidueFlows", "latest", "LResidueFlows$Parts;", true)
  | 3 => ("ResidueFlows", "total", "LResidueFlows$Parts;", true)
  | 4 => ("ResidueFlows", "logs", "I", false)
  | 5 => ("ResidueFlows", "bins", "[LResidueFlows$Bin;", true)
  | 6 => ("ResidueFlows", "binCount", "I", false)
  | 7 => ("ResidueFlows", "screens", "[LResidueFlows$Screen;", true)
  | 8 => ("ResidueFlows", "boiler", "LResidueFlows$Boiler;", true)
  | 9 => ("ResidueFlows", "gramsIn", "J", false)
  | 10 => ("ResidueFlows", "gramsOut", "J", false)
  | _ => ("ResidueFlows", "shiftsBegun", "I", false)
def t_RF : Nat → FieldType := fun k => match k with
  | 0 => (.object "ResidueFlows$Share")
  | 1 => (.object "ResidueFlows$Share")
  | 2 => (.object "ResidueFlows$Parts")
  | 3 => (.object "ResidueFlows$Parts")
  | 4 => .int
  | 5 => (.array (.object "ResidueFlows$Bin"))
  | 6 => .int
  | 7 => (.array (.object "ResidueFlows$Screen"))
  | 8 => (.object "ResidueFlows$Boiler")
  | 9 => .long
  | 10 => .long
  | _ => .int
def T_Sh : u_T := fun k => match k with
  | 0 => ("ResidueFlows$Share", "above", "I", false)
  | _ => ("ResidueFlows$Share", "below", "I", false)
def t_Sh : Nat → FieldType := fun k => match k with
  | 0 => .int
  | _ => .int
def T_Pa : u_T := fun k => match k with
  | 0 => ("ResidueFlows$Parts", "barkParts", "J", false)
  | 1 => ("ResidueFlows$Parts", "chipParts", "J", false)
  | 2 => ("ResidueFlows$Parts", "dustParts", "J", false)
  | 3 => ("ResidueFlows$Parts", "offcutParts", "J", false)
  | _ => ("ResidueFlows$Parts", "boardParts", "J", false)
def t_Pa : Nat → FieldType := fun k => match k with
  | 0 => .long
  | 1 => .long
  | 2 => .long
  | 3 => .long
  | _ => .long
def T_Bi : u_T := fun k => match k with
  | 0 => ("ResidueFlows$Bin", "kind", "I", false)
  | 1 => ("ResidueFlows$Bin", "most", "I", false)
  | 2 => ("ResidueFlows$Bin", "dry", "J", false)
  | 3 => ("ResidueFlows$Bin", "water", "J", false)
  | 4 => ("ResidueFlows$Bin", "reading", "J", false)
  | 5 => ("ResidueFlows$Bin", "low", "I", false)
  | _ => ("ResidueFlows$Bin", "high", "I", false)
def t_Bi : Nat → FieldType := fun k => match k with
  | 0 => .int
  | 1 => .int
  | 2 => .long
  | 3 => .long
  | 4 => .long
  | 5 => .int
  | _ => .int
def T_Sc : u_T := fun k => match k with
  | 0 => ("ResidueFlows$Screen", "told", "Z", false)
  | 1 => ("ResidueFlows$Screen", "bin0", "I", false)
  | 2 => ("ResidueFlows$Screen", "bin1", "I", false)
  | 3 => ("ResidueFlows$Screen", "bin2", "I", false)
  | 4 => ("ResidueFlows$Screen", "share1", "I", false)
  | _ => ("ResidueFlows$Screen", "share2", "I", false)
def t_Sc : Nat → FieldType := fun k => match k with
  | 0 => .boolean
  | 1 => .int
  | 2 => .int
  | 3 => .int
  | 4 => .int
  | _ => .int
def T_Bo : u_T := fun k => match k with
  | 0 => ("ResidueFlows$Boiler", "rows", "I", false)
  | 1 => ("ResidueFlows$Boiler", "days", "[I", true)
  | _ => ("ResidueFlows$Boiler", "percents", "[I", true)
def t_Bo : Nat → FieldType := fun k => match k with
  | 0 => .int
  | 1 => (.array .int)
  | _ => (.array .int)
def T_Mo : u_T := fun k => match k with
  | 0 => ("ResidueFlowsModel", "thrown", "I", false)
  | 1 => ("ResidueFlowsModel", "aboves", "[I", true)
  | 2 => ("ResidueFlowsModel", "belows", "[I", true)
  | 3 => ("ResidueFlowsModel", "logs", "I", false)
  | 4 => ("ResidueFlowsModel", "latest", "[J", true)
  | 5 => ("ResidueFlowsModel", "sums", "[J", true)
  | 6 => ("ResidueFlowsModel", "bins", "I", false)
  | 7 => ("ResidueFlowsModel", "kinds", "[I", true)
  | 8 => ("ResidueFlowsModel", "mosts", "[J", true)
  | 9 => ("ResidueFlowsModel", "dry", "[J", true)
  | 10 => ("ResidueFlowsModel", "water", "[J", true)
  | 11 => ("ResidueFlowsModel", "readings", "[J", true)
  | 12 => ("ResidueFlowsModel", "lows", "[I", true)
  | 13 => ("ResidueFlowsModel", "highs", "[I", true)
  | 14 => ("ResidueFlowsModel", "screens", "[Z", true)
  | 15 => ("ResidueFlowsModel", "outs", "[I", true)
  | 16 => ("ResidueFlowsModel", "shares", "[I", true)
  | 17 => ("ResidueFlowsModel", "in", "J", false)
  | 18 => ("ResidueFlowsModel", "out", "J", false)
  | 19 => ("ResidueFlowsModel", "shifts", "J", false)
  | 20 => ("ResidueFlowsModel", "rows", "I", false)
  | 21 => ("ResidueFlowsModel", "days", "[I", true)
  | 22 => ("ResidueFlowsModel", "percents", "[I", true)
  | 23 => ("ResidueFlowsModel", "takenDry", "J", false)
  | _ => ("ResidueFlowsModel", "takenWater", "J", false)
def t_Mo : Nat → FieldType := fun k => match k with
  | 0 => .int
  | 1 => (.array .int)
  | 2 => (.array .int)
  | 3 => .int
  | 4 => (.array .long)
  | 5 => (.array .long)
  | 6 => .int
  | 7 => (.array .int)
  | 8 => (.array .long)
  | 9 => (.array .long)
  | 10 => (.array .long)
  | 11 => (.array .long)
  | 12 => (.array .int)
  | 13 => (.array .int)
  | 14 => (.array .boolean)
  | 15 => (.array .int)
  | 16 => (.array .int)
  | 17 => .long
  | 18 => .long
  | 19 => .long
  | 20 => .int
  | 21 => (.array .int)
  | 22 => (.array .int)
  | 23 => .long
  | _ => .long
abbrev xcl : List vw_C := [("ResidueFlows", T_RF, 12), ("ResidueFlows$Share", T_Sh, 2), ("ResidueFlows$Parts", T_Pa, 5), ("ResidueFlows$Bin", T_Bi, 7), ("ResidueFlows$Screen", T_Sc, 6), ("ResidueFlows$Boiler", T_Bo, 3), ("ResidueFlowsModel", T_Mo, 25)]
theorem xu_RF : ∀ w ∈ u_ws "ResidueFlows" T_RF 12, w ∈ xTw := by decide +kernel
theorem xk_RF : ∀ k, k < 12 → parseFieldDescriptor (T_RF k).2.2.1 = some (t_RF k) := by decide +kernel
theorem xn_RF : ∀ a, a < 12 → ∀ b, b < 12 → a ≠ b → (T_RF a).2.1 ≠ (T_RF b).2.1 := by decide +kernel
theorem xu_Sh : ∀ w ∈ u_ws "ResidueFlows$Share" T_Sh 2, w ∈ xTw := by decide +kernel
theorem xk_Sh : ∀ k, k < 2 → parseFieldDescriptor (T_Sh k).2.2.1 = some (t_Sh k) := by decide +kernel
theorem xn_Sh : ∀ a, a < 2 → ∀ b, b < 2 → a ≠ b → (T_Sh a).2.1 ≠ (T_Sh b).2.1 := by decide +kernel
theorem xu_Pa : ∀ w ∈ u_ws "ResidueFlows$Parts" T_Pa 5, w ∈ xTw := by decide +kernel
theorem xk_Pa : ∀ k, k < 5 → parseFieldDescriptor (T_Pa k).2.2.1 = some (t_Pa k) := by decide +kernel
theorem xn_Pa : ∀ a, a < 5 → ∀ b, b < 5 → a ≠ b → (T_Pa a).2.1 ≠ (T_Pa b).2.1 := by decide +kernel
theorem xu_Bi : ∀ w ∈ u_ws "ResidueFlows$Bin" T_Bi 7, w ∈ xTw := by decide +kernel
theorem xk_Bi : ∀ k, k < 7 → parseFieldDescriptor (T_Bi k).2.2.1 = some (t_Bi k) := by decide +kernel
theorem xn_Bi : ∀ a, a < 7 → ∀ b, b < 7 → a ≠ b → (T_Bi a).2.1 ≠ (T_Bi b).2.1 := by decide +kernel
theorem xu_Sc : ∀ w ∈ u_ws "ResidueFlows$Screen" T_Sc 6, w ∈ xTw := by decide +kernel
theorem xk_Sc : ∀ k, k < 6 → parseFieldDescriptor (T_Sc k).2.2.1 = some (t_Sc k) := by decide +kernel
theorem xn_Sc : ∀ a, a < 6 → ∀ b, b < 6 → a ≠ b → (T_Sc a).2.1 ≠ (T_Sc b).2.1 := by decide +kernel
theorem xu_Bo : ∀ w ∈ u_ws "ResidueFlows$Boiler" T_Bo 3, w ∈ xTw := by decide +kernel
theorem xk_Bo : ∀ k, k < 3 → parseFieldDescriptor (T_Bo k).2.2.1 = some (t_Bo k) := by decide +kernel
theorem xn_Bo : ∀ a, a < 3 → ∀ b, b < 3 → a ≠ b → (T_Bo a).2.1 ≠ (T_Bo b).2.1 := by decide +kernel
theorem xu_Mo : ∀ w ∈ u_ws "ResidueFlowsModel" T_Mo 25, w ∈ xTw := by decide +kernel
theorem xk_Mo : ∀ k, k < 25 → parseFieldDescriptor (T_Mo k).2.2.1 = some (t_Mo k) := by decide +kernel
theorem xn_Mo : ∀ a, a < 25 → ∀ b, b < 25 → a ≠ b → (T_Mo a).2.1 ≠ (T_Mo b).2.1 := by decide +kernel
def Y_RF_init : MethodName × ByteArray × Nat × Option FieldType × Room × List (Nat × Nat × Nat × Nat) := (⟨"ResidueFlows", "<init>", "()V"⟩, prog_1_method_1_code, 2, none, { frames := 10, cells := 21, slots := 140, locals := 387 }, [])
def Y_Sh_init : MethodName × ByteArray × Nat × Option FieldType × Room × List (Nat × Nat × Nat × Nat) := (⟨"ResidueFlows$Share", "<init>", "(II)V"⟩, prog_6_method_1_code, 3, none, { frames := 9, cells := 0, slots := 0, locals := 365 }, [])
def Y_Pa_init : MethodName × ByteArray × Nat × Option FieldType × Room × List (Nat × Nat × Nat × Nat) := (⟨"ResidueFlows$Parts", "<init>", "()V"⟩, prog_4_method_1_code, 1, none, { frames := 9, cells := 0, slots := 0, locals := 367 }, [])
def Y_Bi_init : MethodName × ByteArray × Nat × Option FieldType × Room × List (Nat × Nat × Nat × Nat) := (⟨"ResidueFlows$Bin", "<init>", "()V"⟩, prog_2_method_1_code, 1, none, { frames := 9, cells := 0, slots := 0, locals := 367 }, [])
def Y_Sc_init : MethodName × ByteArray × Nat × Option FieldType × Room × List (Nat × Nat × Nat × Nat) := (⟨"ResidueFlows$Screen", "<init>", "()V"⟩, prog_5_method_1_code, 1, none, { frames := 9, cells := 0, slots := 0, locals := 367 }, [])
def Y_Bo_init : MethodName × ByteArray × Nat × Option FieldType × Room × List (Nat × Nat × Nat × Nat) := (⟨"ResidueFlows$Boiler", "<init>", "()V"⟩, prog_3_method_1_code, 1, none, { frames := 9, cells := 2, slots := 16, locals := 367 }, [])
def Y_RF_begin : MethodName × ByteArray × Nat × Option FieldType × Room × List (Nat × Nat × Nat × Nat) := (⟨"ResidueFlows", "begin", "()V"⟩, prog_1_method_13_code, 2, none, { frames := 10, cells := 1, slots := 6, locals := 387 }, [])
def Y_RF_carbon : MethodName × ByteArray × Nat × Option FieldType × Room × List (Nat × Nat × Nat × Nat) := (⟨"ResidueFlows", "carbon", "()J"⟩, prog_1_method_19_code, 4, (some .long), { frames := 10, cells := 1, slots := 6, locals := 385 }, [])
def Y_La_share : MethodName × ByteArray × Nat × Option FieldType × Room × List (Nat × Nat × Nat × Nat) := (⟨"ResidueFlowsLaw", "share", "(LResidueFlows;III)I"⟩, method_3_code, 5, (some .int), { frames := 10, cells := 1, slots := 6, locals := 384 }, [(0, 7, 10, 13), (0, 7, 14, 15)])
def Y_RF_share : MethodName × ByteArray × Nat × Option FieldType × Room × List (Nat × Nat × Nat × Nat) := (⟨"ResidueFlows", "share", "(III)V"⟩, prog_1_method_2_code, 5, none, { frames := 9, cells := 1, slots := 6, locals := 360 }, [])
def Y_La_log : MethodName × ByteArray × Nat × Option FieldType × Room × List (Nat × Nat × Nat × Nat) := (⟨"ResidueFlowsLaw", "log", "(LResidueFlows;III[J)I"⟩, method_4_code, 6, (some .int), { frames := 10, cells := 1, slots := 6, locals := 383 }, [(0, 12, 15, 15)])
def Y_RF_log : MethodName × ByteArray × Nat × Option FieldType × Room × List (Nat × Nat × Nat × Nat) := (⟨"ResidueFlows", "log", "(III)I"⟩, prog_1_method_3_code, 15, (some .int), { frames := 9, cells := 1, slots := 6, locals := 349 }, [])
def Y_Sh_of : MethodName × ByteArray × Nat × Option FieldType × Room × List (Nat × Nat × Nat × Nat) := (⟨"ResidueFlows$Share", "of", "(J)J"⟩, prog_6_method_2_code, 3, (some .long), { frames := 8, cells := 1, slots := 6, locals := 327 }, [])
def Y_RF_portion : MethodName × ByteArray × Nat × Option FieldType × Room × List (Nat × Nat × Nat × Nat) := (⟨"ResidueFlows", "portion", "(JJJ)J"⟩, prog_1_method_31_code, 6, (some .long), { frames := 6, cells := 1, slots := 6, locals := 286 }, [])
def Y_Pa_tell : MethodName × ByteArray × Nat × Option FieldType × Room × List (Nat × Nat × Nat × Nat) := (⟨"ResidueFlows$Parts", "tell", "(JJJJJ)V"⟩, prog_4_method_2_code, 11, none, { frames := 8, cells := 1, slots := 6, locals := 319 }, [])
def Y_Pa_add : MethodName × ByteArray × Nat × Option FieldType × Room × List (Nat × Nat × Nat × Nat) := (⟨"ResidueFlows$Parts", "add", "(LResidueFlows$Parts;)V"⟩, prog_4_method_3_code, 2, none, { frames := 8, cells := 1, slots := 6, locals := 328 }, [])
def Y_La_volume : MethodName × ByteArray × Nat × Option FieldType × Room × List (Nat × Nat × Nat × Nat) := (⟨"ResidueFlowsLaw", "volume", "(LResidueFlows;IZ[J)I"⟩, method_5_code, 5, (some .int), { frames := 10, cells := 1, slots := 6, locals := 384 }, [(0, 9, 12, 13), (0, 9, 16, 25)])
def Y_RF_volume : MethodName × ByteArray × Nat × Option FieldType × Room × List (Nat × Nat × Nat × Nat) := (⟨"ResidueFlows", "volume", "(IZ)J"⟩, prog_1_method_4_code, 3, (some .long), { frames := 9, cells := 1, slots := 6, locals := 362 }, [])
def Y_RF_checkKind : MethodName × ByteArray × Nat × Option FieldType × Room × List (Nat × Nat × Nat × Nat) := (⟨"ResidueFlows", "checkKind", "(I)V"⟩, prog_1_method_20_code, 1, none, { frames := 8, cells := 1, slots := 6, locals := 341 }, [])
def Y_RF_checkLogs : MethodName × ByteArray × Nat × Option FieldType × Room × List (Nat × Nat × Nat × Nat) := (⟨"ResidueFlows", "checkLogs", "()V"⟩, prog_1_method_21_code, 1, none, { frames := 8, cells := 1, slots := 6, locals := 342 }, [])
def Y_Pa_ofKind : MethodName × ByteArray × Nat × Option FieldType × Room × List (Nat × Nat × Nat × Nat) := (⟨"ResidueFlows$Parts", "ofKind", "(I)J"⟩, prog_4_method_4_code, 2, (some .long), { frames := 8, cells := 1, slots := 6, locals := 341 }, [])
def Y_La_boards : MethodName × ByteArray × Nat × Option FieldType × Room × List (Nat × Nat × Nat × Nat) := (⟨"ResidueFlowsLaw", "boards", "(LResidueFlows;Z[J)I"⟩, method_6_code, 4, (some .int), { frames := 10, cells := 1, slots := 6, locals := 385 }, [(0, 8, 11, 25)])
def Y_RF_boards : MethodName × ByteArray × Nat × Option FieldType × Room × List (Nat × Nat × Nat × Nat) := (⟨"ResidueFlows", "boards", "(Z)J"⟩, prog_1_method_5_code, 2, (some .long), { frames := 9, cells := 1, slots := 6, locals := 364 }, [])
def Y_La_bin : MethodName × ByteArray × Nat × Option FieldType × Room × List (Nat × Nat × Nat × Nat) := (⟨"ResidueFlowsLaw", "bin", "(LResidueFlows;II[J)I"⟩, method_7_code, 5, (some .int), { frames := 10, cells := 1, slots := 6, locals := 384 }, [(0, 10, 13, 13), (0, 10, 17, 15), (0, 10, 21, 25)])
def Y_RF_bin : MethodName × ByteArray × Nat × Option FieldType × Room × List (Nat × Nat × Nat × Nat) := (⟨"ResidueFlows", "bin", "(II)I"⟩, prog_1_method_6_code, 4, (some .int), { frames := 9, cells := 1, slots := 6, locals := 361 }, [])
def Y_La_pour : MethodName × ByteArray × Nat × Option FieldType × Room × List (Nat × Nat × Nat × Nat) := (⟨"ResidueFlowsLaw", "pour", "(LResidueFlows;III[J)I"⟩, method_8_code, 6, (some .int), { frames := 10, cells := 1, slots := 6, locals := 383 }, [(0, 19, 22, 13), (0, 19, 26, 15)])
def Y_RF_pour : MethodName × ByteArray × Nat × Option FieldType × Room × List (Nat × Nat × Nat × Nat) := (⟨"ResidueFlows", "pour", "(III)Z"⟩, prog_1_method_7_code, 5, (some .boolean), { frames := 9, cells := 1, slots := 6, locals := 359 }, [])
def Y_RF_binAt : MethodName × ByteArray × Nat × Option FieldType × Room × List (Nat × Nat × Nat × Nat) := (⟨"ResidueFlows", "binAt", "(I)LResidueFlows$Bin;"⟩, prog_1_method_26_code, 2, (some (.object "ResidueFlows$Bin")), { frames := 8, cells := 1, slots := 6, locals := 330 }, [])
def Y_RF_checkPoured : MethodName × ByteArray × Nat × Option FieldType × Room × List (Nat × Nat × Nat × Nat) := (⟨"ResidueFlows", "checkPoured", "(II)V"⟩, prog_1_method_22_code, 2, none, { frames := 8, cells := 1, slots := 6, locals := 332 }, [])
def Y_Bi_hasRoom : MethodName × ByteArray × Nat × Option FieldType × Room × List (Nat × Nat × Nat × Nat) := (⟨"ResidueFlows$Bin", "hasRoom", "(I)Z"⟩, prog_2_method_3_code, 2, (some .boolean), { frames := 8, cells := 1, slots := 6, locals := 332 }, [])
def Y_Bi_grams : MethodName × ByteArray × Nat × Option FieldType × Room × List (Nat × Nat × Nat × Nat) := (⟨"ResidueFlows$Bin", "grams", "()J"⟩, prog_2_method_2_code, 1, (some .long), { frames := 6, cells := 1, slots := 6, locals := 291 }, [])
def Y_RF_pourInto : MethodName × ByteArray × Nat × Option FieldType × Room × List (Nat × Nat × Nat × Nat) := (⟨"ResidueFlows", "pourInto", "(LResidueFlows$Bin;II)V"⟩, prog_1_method_28_code, 4, none, { frames := 8, cells := 1, slots := 6, locals := 330 }, [])
def Y_Bi_change : MethodName × ByteArray × Nat × Option FieldType × Room × List (Nat × Nat × Nat × Nat) := (⟨"ResidueFlows$Bin", "change", "(JJ)V"⟩, prog_2_method_7_code, 5, none, { frames := 7, cells := 1, slots := 6, locals := 304 }, [])
def Y_La_about : MethodName × ByteArray × Nat × Option FieldType × Room × List (Nat × Nat × Nat × Nat) := (⟨"ResidueFlowsLaw", "about", "(LResidueFlows;II[J)I"⟩, method_9_code, 5, (some .int), { frames := 10, cells := 1, slots := 6, locals := 384 }, [(0, 9, 12, 13)])
def Y_RF_about : MethodName × ByteArray × Nat × Option FieldType × Room × List (Nat × Nat × Nat × Nat) := (⟨"ResidueFlows", "about", "(II)J"⟩, prog_1_method_8_code, 4, (some .long), { frames := 9, cells := 1, slots := 6, locals := 361 }, [])
def Y_La_screen : MethodName × ByteArray × Nat × Option FieldType × Room × List (Nat × Nat × Nat × Nat) := (⟨"ResidueFlowsLaw", "screen", "(LResidueFlows;IIIIII)I"⟩, method_10_code, 8, (some .int), { frames := 10, cells := 1, slots := 6, locals := 381 }, [(0, 13, 16, 13), (0, 13, 20, 15)])
def Y_RF_screen : MethodName × ByteArray × Nat × Option FieldType × Room × List (Nat × Nat × Nat × Nat) := (⟨"ResidueFlows", "screen", "(IIIIII)V"⟩, prog_1_method_9_code, 11, none, { frames := 9, cells := 1, slots := 6, locals := 351 }, [])
def Y_RF_screenAt : MethodName × ByteArray × Nat × Option FieldType × Room × List (Nat × Nat × Nat × Nat) := (⟨"ResidueFlows", "screenAt", "(I)LResidueFlows$Screen;"⟩, prog_1_method_27_code, 2, (some (.object "ResidueFlows$Screen")), { frames := 8, cells := 1, slots := 6, locals := 330 }, [])
def Y_Sc_tell : MethodName × ByteArray × Nat × Option FieldType × Room × List (Nat × Nat × Nat × Nat) := (⟨"ResidueFlows$Screen", "tell", "(IIIII)V"⟩, prog_5_method_2_code, 6, none, { frames := 8, cells := 1, slots := 6, locals := 326 }, [])
def Y_La_send : MethodName × ByteArray × Nat × Option FieldType × Room × List (Nat × Nat × Nat × Nat) := (⟨"ResidueFlowsLaw", "send", "(LResidueFlows;III[J)I"⟩, method_11_code, 6, (some .int), { frames := 10, cells := 1, slots := 6, locals := 383 }, [(0, 19, 22, 13), (0, 19, 26, 15), (0, 19, 30, 25)])
def Y_RF_send : MethodName × ByteArray × Nat × Option FieldType × Room × List (Nat × Nat × Nat × Nat) := (⟨"ResidueFlows", "send", "(III)Z"⟩, prog_1_method_10_code, 11, (some .boolean), { frames := 9, cells := 1, slots := 6, locals := 353 }, [])
def Y_La_scale : MethodName × ByteArray × Nat × Option FieldType × Room × List (Nat × Nat × Nat × Nat) := (⟨"ResidueFlowsLaw", "scale", "(LResidueFlows;IJ)I"⟩, method_12_code, 5, (some .int), { frames := 10, cells := 1, slots := 6, locals := 384 }, [(0, 6, 9, 13), (0, 6, 13, 15)])
def Y_RF_scale : MethodName × ByteArray × Nat × Option FieldType × Room × List (Nat × Nat × Nat × Nat) := (⟨"ResidueFlows", "scale", "(IJ)V"⟩, prog_1_method_11_code, 5, none, { frames := 9, cells := 1, slots := 6, locals := 360 }, [])
def Y_La_shift : MethodName × ByteArray × Nat × Option FieldType × Room × List (Nat × Nat × Nat × Nat) := (⟨"ResidueFlowsLaw", "shift", "(LResidueFlows;I[J)I"⟩, method_13_code, 4, (some .int), { frames := 10, cells := 1, slots := 6, locals := 385 }, [(0, 8, 11, 13)])
def Y_RF_shift : MethodName × ByteArray × Nat × Option FieldType × Room × List (Nat × Nat × Nat × Nat) := (⟨"ResidueFlows", "shift", "(I)J"⟩, prog_1_method_12_code, 2, (some .long), { frames := 9, cells := 1, slots := 6, locals := 364 }, [])
def Y_RF_gramsLost : MethodName × ByteArray × Nat × Option FieldType × Room × List (Nat × Nat × Nat × Nat) := (⟨"ResidueFlows", "gramsLost", "()J"⟩, prog_1_method_30_code, 4, (some .long), { frames := 8, cells := 1, slots := 6, locals := 341 }, [])
def Y_La_row : MethodName × ByteArray × Nat × Option FieldType × Room × List (Nat × Nat × Nat × Nat) := (⟨"ResidueFlowsLaw", "row", "(LResidueFlows;II[J)I"⟩, method_14_code, 5, (some .int), { frames := 10, cells := 1, slots := 6, locals := 384 }, [(0, 10, 13, 15), (0, 10, 17, 25)])
def Y_RF_row : MethodName × ByteArray × Nat × Option FieldType × Room × List (Nat × Nat × Nat × Nat) := (⟨"ResidueFlows", "row", "(II)I"⟩, prog_1_method_14_code, 3, (some .int), { frames := 9, cells := 1, slots := 6, locals := 362 }, [])
def Y_RF_checkDay : MethodName × ByteArray × Nat × Option FieldType × Room × List (Nat × Nat × Nat × Nat) := (⟨"ResidueFlows", "checkDay", "(I)V"⟩, prog_1_method_24_code, 1, none, { frames := 8, cells := 1, slots := 6, locals := 333 }, [])
def Y_Bo_lastDay : MethodName × ByteArray × Nat × Option FieldType × Room × List (Nat × Nat × Nat × Nat) := (⟨"ResidueFlows$Boiler", "lastDay", "()I"⟩, prog_3_method_2_code, 1, (some .int), { frames := 8, cells := 1, slots := 6, locals := 342 }, [])
def Y_Bo_add : MethodName × ByteArray × Nat × Option FieldType × Room × List (Nat × Nat × Nat × Nat) := (⟨"ResidueFlows$Boiler", "add", "(II)Z"⟩, prog_3_method_3_code, 3, (some .boolean), { frames := 8, cells := 1, slots := 6, locals := 340 }, [])
def Y_La_burn : MethodName × ByteArray × Nat × Option FieldType × Room × List (Nat × Nat × Nat × Nat) := (⟨"ResidueFlowsLaw", "burn", "(LResidueFlows;III[J)I"⟩, method_15_code, 6, (some .int), { frames := 10, cells := 1, slots := 6, locals := 383 }, [(0, 11, 14, 13), (0, 11, 18, 15), (0, 11, 22, 25)])
def Y_RF_burn : MethodName × ByteArray × Nat × Option FieldType × Room × List (Nat × Nat × Nat × Nat) := (⟨"ResidueFlows", "burn", "(III)J"⟩, prog_1_method_15_code, 11, (some .long), { frames := 9, cells := 1, slots := 6, locals := 353 }, [])
def Y_RF_checkTaken : MethodName × ByteArray × Nat × Option FieldType × Room × List (Nat × Nat × Nat × Nat) := (⟨"ResidueFlows", "checkTaken", "(I)V"⟩, prog_1_method_23_code, 1, none, { frames := 8, cells := 1, slots := 6, locals := 333 }, [])
def Y_RF_checkEnough : MethodName × ByteArray × Nat × Option FieldType × Room × List (Nat × Nat × Nat × Nat) := (⟨"ResidueFlows", "checkEnough", "(LResidueFlows$Bin;I)V"⟩, prog_1_method_25_code, 2, none, { frames := 8, cells := 1, slots := 6, locals := 332 }, [])
def Y_Bi_waterIn : MethodName × ByteArray × Nat × Option FieldType × Room × List (Nat × Nat × Nat × Nat) := (⟨"ResidueFlows$Bin", "waterIn", "(I)J"⟩, prog_2_method_4_code, 2, (some .long), { frames := 7, cells := 1, slots := 6, locals := 311 }, [])
def Y_Bi_dryIn : MethodName × ByteArray × Nat × Option FieldType × Room × List (Nat × Nat × Nat × Nat) := (⟨"ResidueFlows$Bin", "dryIn", "(I)J"⟩, prog_2_method_5_code, 2, (some .long), { frames := 8, cells := 1, slots := 6, locals := 332 }, [])
def Y_RF_takeAway : MethodName × ByteArray × Nat × Option FieldType × Room × List (Nat × Nat × Nat × Nat) := (⟨"ResidueFlows", "takeAway", "(LResidueFlows$Bin;JJ)V"⟩, prog_1_method_29_code, 6, none, { frames := 8, cells := 1, slots := 6, locals := 328 }, [])
def Y_Bo_percentAt : MethodName × ByteArray × Nat × Option FieldType × Room × List (Nat × Nat × Nat × Nat) := (⟨"ResidueFlows$Boiler", "percentAt", "(I)I"⟩, prog_3_method_4_code, 4, (some .int), { frames := 8, cells := 1, slots := 6, locals := 330 }, [])
def Y_La_sell : MethodName × ByteArray × Nat × Option FieldType × Room × List (Nat × Nat × Nat × Nat) := (⟨"ResidueFlowsLaw", "sell", "(LResidueFlows;III[J)I"⟩, method_16_code, 6, (some .int), { frames := 10, cells := 1, slots := 6, locals := 383 }, [(0, 11, 14, 13), (0, 11, 18, 15), (0, 11, 22, 25)])
def Y_RF_sell : MethodName × ByteArray × Nat × Option FieldType × Room × List (Nat × Nat × Nat × Nat) := (⟨"ResidueFlows", "sell", "(III)J"⟩, prog_1_method_16_code, 7, (some .long), { frames := 9, cells := 1, slots := 6, locals := 357 }, [])
def Y_La_span : MethodName × ByteArray × Nat × Option FieldType × Room × List (Nat × Nat × Nat × Nat) := (⟨"ResidueFlowsLaw", "span", "(LResidueFlows;III)I"⟩, method_17_code, 5, (some .int), { frames := 10, cells := 1, slots := 6, locals := 384 }, [(0, 7, 10, 13), (0, 7, 14, 15)])
def Y_RF_span : MethodName × ByteArray × Nat × Option FieldType × Room × List (Nat × Nat × Nat × Nat) := (⟨"ResidueFlows", "span", "(III)V"⟩, prog_1_method_17_code, 5, none, { frames := 9, cells := 1, slots := 6, locals := 360 }, [])
def Y_La_mix : MethodName × ByteArray × Nat × Option FieldType × Room × List (Nat × Nat × Nat × Nat) := (⟨"ResidueFlowsLaw", "mix", "(LResidueFlows;III[J)I"⟩, method_18_code, 6, (some .int), { frames := 10, cells := 1, slots := 6, locals := 383 }, [(0, 19, 22, 13), (0, 19, 26, 15), (0, 19, 30, 25)])
def Y_RF_mix : MethodName × ByteArray × Nat × Option FieldType × Room × List (Nat × Nat × Nat × Nat) := (⟨"ResidueFlows", "mix", "(III)Z"⟩, prog_1_method_18_code, 10, (some .boolean), { frames := 9, cells := 1, slots := 6, locals := 354 }, [])
def Y_Bi_spanAllows : MethodName × ByteArray × Nat × Option FieldType × Room × List (Nat × Nat × Nat × Nat) := (⟨"ResidueFlows$Bin", "spanAllows", "(JJ)Z"⟩, prog_2_method_6_code, 7, (some .boolean), { frames := 8, cells := 1, slots := 6, locals := 328 }, [])
def Y_Mo_init : MethodName × ByteArray × Nat × Option FieldType × Room × List (Nat × Nat × Nat × Nat) := (⟨"ResidueFlowsModel", "<init>", "()V"⟩, prog_8_method_1_code, 1, none, { frames := 10, cells := 16, slots := 200, locals := 388 }, [])
def Y_Mo_thrown : MethodName × ByteArray × Nat × Option FieldType × Room × List (Nat × Nat × Nat × Nat) := (⟨"ResidueFlowsModel", "thrown", "()I"⟩, prog_8_method_2_code, 1, (some .int), { frames := 10, cells := 1, slots := 6, locals := 388 }, [])
def Y_Mo_share : MethodName × ByteArray × Nat × Option FieldType × Room × List (Nat × Nat × Nat × Nat) := (⟨"ResidueFlowsModel", "share", "(III)V"⟩, prog_8_method_5_code, 4, none, { frames := 10, cells := 1, slots := 6, locals := 385 }, [])
def Y_Mo_isIn : MethodName × ByteArray × Nat × Option FieldType × Room × List (Nat × Nat × Nat × Nat) := (⟨"ResidueFlowsModel", "isIn", "(JJJ)Z"⟩, prog_8_method_3_code, 6, (some .boolean), { frames := 8, cells := 1, slots := 6, locals := 337 }, [])
def Y_Mo_log : MethodName × ByteArray × Nat × Option FieldType × Room × List (Nat × Nat × Nat × Nat) := (⟨"ResidueFlowsModel", "log", "(III)I"⟩, prog_8_method_6_code, 11, (some .int), { frames := 10, cells := 1, slots := 6, locals := 378 }, [])
def Y_Mo_volume : MethodName × ByteArray × Nat × Option FieldType × Room × List (Nat × Nat × Nat × Nat) := (⟨"ResidueFlowsModel", "volume", "(IZ)J"⟩, prog_8_method_7_code, 3, (some .long), { frames := 10, cells := 1, slots := 6, locals := 386 }, [])
def Y_Mo_boards : MethodName × ByteArray × Nat × Option FieldType × Room × List (Nat × Nat × Nat × Nat) := (⟨"ResidueFlowsModel", "boards", "(Z)J"⟩, prog_8_method_8_code, 2, (some .long), { frames := 10, cells := 1, slots := 6, locals := 387 }, [])
def Y_Mo_bin : MethodName × ByteArray × Nat × Option FieldType × Room × List (Nat × Nat × Nat × Nat) := (⟨"ResidueFlowsModel", "bin", "(II)I"⟩, prog_8_method_9_code, 3, (some .int), { frames := 10, cells := 1, slots := 6, locals := 386 }, [])
def Y_Mo_pour : MethodName × ByteArray × Nat × Option FieldType × Room × List (Nat × Nat × Nat × Nat) := (⟨"ResidueFlowsModel", "pour", "(III)Z"⟩, prog_8_method_14_code, 4, (some .boolean), { frames := 10, cells := 1, slots := 6, locals := 385 }, [])
def Y_Mo_noBin : MethodName × ByteArray × Nat × Option FieldType × Room × List (Nat × Nat × Nat × Nat) := (⟨"ResidueFlowsModel", "noBin", "(I)Z"⟩, prog_8_method_4_code, 2, (some .boolean), { frames := 9, cells := 1, slots := 6, locals := 357 }, [])
def Y_Mo_isPoured : MethodName × ByteArray × Nat × Option FieldType × Room × List (Nat × Nat × Nat × Nat) := (⟨"ResidueFlowsModel", "isPoured", "(II)Z"⟩, prog_8_method_13_code, 2, (some .boolean), { frames := 9, cells := 1, slots := 6, locals := 362 }, [])
def Y_Mo_hasRoom : MethodName × ByteArray × Nat × Option FieldType × Room × List (Nat × Nat × Nat × Nat) := (⟨"ResidueFlowsModel", "hasRoom", "(IJ)Z"⟩, prog_8_method_11_code, 4, (some .boolean), { frames := 9, cells := 1, slots := 6, locals := 358 }, [])
def Y_Mo_all : MethodName × ByteArray × Nat × Option FieldType × Room × List (Nat × Nat × Nat × Nat) := (⟨"ResidueFlowsModel", "all", "(I)J"⟩, prog_8_method_10_code, 2, (some .long), { frames := 8, cells := 1, slots := 6, locals := 336 }, [])
def Y_Mo_add : MethodName × ByteArray × Nat × Option FieldType × Room × List (Nat × Nat × Nat × Nat) := (⟨"ResidueFlowsModel", "add", "(IJI)V"⟩, prog_8_method_12_code, 5, none, { frames := 9, cells := 1, slots := 6, locals := 359 }, [])
def Y_Mo_about : MethodName × ByteArray × Nat × Option FieldType × Room × List (Nat × Nat × Nat × Nat) := (⟨"ResidueFlowsModel", "about", "(II)J"⟩, prog_8_method_15_code, 3, (some .long), { frames := 10, cells := 1, slots := 6, locals := 386 }, [])
def Y_Mo_screen : MethodName × ByteArray × Nat × Option FieldType × Room × List (Nat × Nat × Nat × Nat) := (⟨"ResidueFlowsModel", "screen", "(IIIIII)V"⟩, prog_8_method_16_code, 11, none, { frames := 10, cells := 1, slots := 6, locals := 378 }, [])
def Y_Mo_send : MethodName × ByteArray × Nat × Option FieldType × Room × List (Nat × Nat × Nat × Nat) := (⟨"ResidueFlowsModel", "send", "(III)Z"⟩, prog_8_method_19_code, 6, (some .boolean), { frames := 10, cells := 1, slots := 6, locals := 383 }, [])
def Y_Mo_part : MethodName × ByteArray × Nat × Option FieldType × Room × List (Nat × Nat × Nat × Nat) := (⟨"ResidueFlowsModel", "part", "(IIJ)J"⟩, prog_8_method_17_code, 5, (some .long), { frames := 9, cells := 1, slots := 6, locals := 359 }, [])
def Y_Mo_others : MethodName × ByteArray × Nat × Option FieldType × Room × List (Nat × Nat × Nat × Nat) := (⟨"ResidueFlowsModel", "others", "(IJ)J"⟩, prog_8_method_18_code, 4, (some .long), { frames := 8, cells := 1, slots := 6, locals := 336 }, [])
def Y_Mo_scale : MethodName × ByteArray × Nat × Option FieldType × Room × List (Nat × Nat × Nat × Nat) := (⟨"ResidueFlowsModel", "scale", "(IJ)V"⟩, prog_8_method_20_code, 4, none, { frames := 10, cells := 1, slots := 6, locals := 385 }, [])
def Y_Mo_shift : MethodName × ByteArray × Nat × Option FieldType × Room × List (Nat × Nat × Nat × Nat) := (⟨"ResidueFlowsModel", "shift", "(I)J"⟩, prog_8_method_21_code, 5, (some .long), { frames := 10, cells := 1, slots := 6, locals := 384 }, [])
def Y_Mo_begin : MethodName × ByteArray × Nat × Option FieldType × Room × List (Nat × Nat × Nat × Nat) := (⟨"ResidueFlowsModel", "begin", "()V"⟩, prog_8_method_22_code, 2, none, { frames := 10, cells := 1, slots := 6, locals := 387 }, [])
def Y_Mo_row : MethodName × ByteArray × Nat × Option FieldType × Room × List (Nat × Nat × Nat × Nat) := (⟨"ResidueFlowsModel", "row", "(II)I"⟩, prog_8_method_23_code, 4, (some .int), { frames := 10, cells := 1, slots := 6, locals := 385 }, [])
def Y_Mo_burn : MethodName × ByteArray × Nat × Option FieldType × Room × List (Nat × Nat × Nat × Nat) := (⟨"ResidueFlowsModel", "burn", "(III)J"⟩, prog_8_method_27_code, 8, (some .long), { frames := 10, cells := 1, slots := 6, locals := 381 }, [])
def Y_Mo_has : MethodName × ByteArray × Nat × Option FieldType × Room × List (Nat × Nat × Nat × Nat) := (⟨"ResidueFlowsModel", "has", "(II)Z"⟩, prog_8_method_24_code, 3, (some .boolean), { frames := 9, cells := 1, slots := 6, locals := 359 }, [])
def Y_Mo_take : MethodName × ByteArray × Nat × Option FieldType × Room × List (Nat × Nat × Nat × Nat) := (⟨"ResidueFlowsModel", "take", "(II)V"⟩, prog_8_method_25_code, 5, none, { frames := 9, cells := 1, slots := 6, locals := 357 }, [])
def Y_Mo_goes : MethodName × ByteArray × Nat × Option FieldType × Room × List (Nat × Nat × Nat × Nat) := (⟨"ResidueFlowsModel", "goes", "(I)V"⟩, prog_8_method_26_code, 2, none, { frames := 9, cells := 1, slots := 6, locals := 360 }, [])
def Y_Mo_sell : MethodName × ByteArray × Nat × Option FieldType × Room × List (Nat × Nat × Nat × Nat) := (⟨"ResidueFlowsModel", "sell", "(III)J"⟩, prog_8_method_28_code, 4, (some .long), { frames := 10, cells := 1, slots := 6, locals := 385 }, [])
def Y_Mo_span : MethodName × ByteArray × Nat × Option FieldType × Room × List (Nat × Nat × Nat × Nat) := (⟨"ResidueFlowsModel", "span", "(III)V"⟩, prog_8_method_29_code, 4, none, { frames := 10, cells := 1, slots := 6, locals := 385 }, [])
def Y_Mo_mix : MethodName × ByteArray × Nat × Option FieldType × Room × List (Nat × Nat × Nat × Nat) := (⟨"ResidueFlowsModel", "mix", "(III)Z"⟩, prog_8_method_30_code, 8, (some .boolean), { frames := 10, cells := 1, slots := 6, locals := 381 }, [])
def Y_Mo_carbon : MethodName × ByteArray × Nat × Option FieldType × Room × List (Nat × Nat × Nat × Nat) := (⟨"ResidueFlowsModel", "carbon", "()J"⟩, prog_8_method_31_code, 4, (some .long), { frames := 10, cells := 1, slots := 6, locals := 385 }, [])
def Y_La_law : MethodName × ByteArray × Nat × Option FieldType × Room × List (Nat × Nat × Nat × Nat) := (⟨"ResidueFlowsLaw", "law", "([I)Z"⟩, code, 8, (some .boolean), { frames := 11, cells := 663135, slots := 7106699, locals := 408 }, [])
end
section
/-! A LOGIC OVER THE MACHINE: one world for all (the law's own, the class's, the reference's cells), whose places are numbers from the law's start on.
A method is met by 'XM': from any heap that holds the picture w it ends as r says. 'JW' is the same from a frame. -/
abbrev xY : Type := MethodName × ByteArray × Nat × Option FieldType × Room × List (Nat × Nat × Nat × Nat)
abbrev xG : Type := Launch × va_G × List (ClassId × FieldType) × Nat × Nat × Nat × (Nat → Int32)
/-- a picture of the heap: its mode (1: nothing was written since the method's entry; 2: every cell made so far is in the picture; 0: neither) and its cells; a reference is a place in the list -/
abbrev xH : Type := Nat × List va_E
/-- an end: the answer, or the class of what is thrown; the picture; how many cells and slots came at most -/
abbrev xR : Type := (Option Value ⊕ String) × xH × Nat × Nat
abbrev gl (G : xG) : Launch := G.1
abbrev gD (G : xG) : va_G := G.2.1
abbrev gT (G : xG) : List (ClassId × FieldType) := G.2.2.1
abbrev gb (G : xG) : Nat := G.2.2.2.1
abbrev gs (G : xG) : Nat := G.2.2.2.2.1
abbrev gN (G : xG) : Nat := G.2.2.2.2.2.1
abbrev gx (G : xG) : Nat → Int32 := G.2.2.2.2.2.2
/-- a value of the picture as the machine has it: a reference's place counts from the law's start; '.float 0' stands for the script -/
def xv (G : xG) (v : Value) : Value := match v with
  | .ref i => .ref (gb G + i)
  | .float _ => .ref (gs G)
  | w => w
theorem xv_cat (G : xG) (v : Value) : (xv G v).category = v.category := by cases v <;> rfl
def xe (G : xG) (c : va_E) : va_E := match c with
  | .inl (t, n, .inr (.inr (.inr (.inr g)))) => .inl (((gT G).getD t (0, .int)).1, n, .inr (.inr (.inr (.inr (fun j => (g j).map (fun i => gb G + i))))))
  | .inl (t, n, f) => .inl (((gT G).getD t (0, .int)).1, n, f)
  | .inr (ci, fs) => .inr (ci, fs.map (xv G))
def xws (G : xG) (h : List va_E) : va_W := h.mapIdx (fun i c => (gb G + i, xe G c))
theorem xws_at (G : xG) (h : List va_E) (k : Nat) : (xws G h)[k]? = (h[k]?).map (fun c => (gb G + k, xe G c)) := by
  unfold xws
  rw [List.getElem?_mapIdx]
theorem xws_get {G : xG} {h : List va_E} {i : Nat} {c : va_E} (hc : h[i]? = some c) : (xws G h)[i]? = some (gb G + i, xe G c) := by
  rw [xws_at, hc]; rfl
theorem xws_inv {G : xG} {h : List va_E} {k : Nat} {q : Nat × va_E} (hq : (xws G h)[k]? = some q) : ∃ c, h[k]? = some c ∧ q = (gb G + k, xe G c) := by
  rw [xws_at] at hq
  cases hc : h[k]? with
  | none => rw [hc] at hq; cases hq
  | some c => rw [hc] at hq; exact ⟨c, rfl, (Option.some.inj hq).symm⟩
theorem xws_set (G : xG) (h : List va_E) (i : Nat) (c : va_E) : xws G (h.set i c) = (xws G h).set i (gb G + i, xe G c) := by
  apply List.ext_getElem?
  intro k
  rw [xws_at, List.getElem?_set, List.getElem?_set, xws_at]
  have hlen : (xws G h).length = h.length := by unfold xws; simp
  rw [hlen]
  by_cases hk : i = k
  · subst hk
    by_cases hl : i < h.length
    · simp [hl]
    · simp [hl]
  · simp [hk]
theorem xws_app (G : xG) (h : List va_E) (c : va_E) : xws G (h ++ [c]) = xws G h ++ [(gb G + h.length, xe G c)] := by
  apply List.ext_getElem?
  intro k
  have hlen : (xws G h).length = h.length := by unfold xws; simp
  rw [xws_at]
  rcases Nat.lt_trichotomy k h.length with hk | hk | hk
  · rw [List.getElem?_append_left hk, List.getElem?_append_left (by rw [hlen]; exact hk), xws_at]
  · subst hk
    rw [List.getElem?_append_right (Nat.le_refl _), List.getElem?_append_right (by rw [hlen]; exact Nat.le_refl _), hlen]
    simp
  · rw [List.getElem?_eq_none (by simp; omega), List.getElem?_eq_none (by simp [hlen]; omega)]
    rfl
def xA (G : xG) : Nat → Prop := fun q => gb G ≤ q
theorem xD (G : xG) (h : List va_E) : va_D (xA G) (xws G h) := by
  refine ⟨fun i j p q hi hj he => ?_, fun k q hk => ?_⟩
  · obtain ⟨c, -, rfl⟩ := xws_inv hi
    obtain ⟨d, -, rfl⟩ := xws_inv hj
    exact Nat.add_left_cancel he
  · obtain ⟨c, -, rfl⟩ := xws_inv hk
    exact Nat.le_add_right _ _
/-- the heap holds the picture -/
def xW (G : xG) (h : List va_E) (H : Heap) : Prop := va_P (gD G) xcl (xws G h) H
theorem xW_len {G : xG} {h : List va_E} {H : Heap} (hW : xW G h H) (hb : gb G ≤ H.size) : gb G + h.length ≤ H.size := by
  cases hn : h.length with
  | zero => exact hb
  | succ n =>
    have hi : n < h.length := by omega
    have h1 : h[n]? = some h[n] := List.getElem?_eq_getElem hi
    have h2 := (hW n _ (xws_get (G := G) h1)).lt
    have h3 : gb G + n < H.size := h2
    omega
/-- what holds at every state: the flags, the tables' numbers, the two statics of Throwable, the nest's words, the script -/
def xKx (U : State) : Prop := (∀ q ∈ xTs, (Cond.stringRef q.1 q.2.1 q.2.2).before #[] U = true) ∧ (∀ q ∈ xTk, (Cond.castable q.1 q.2).before #[] U = true) ∧ (∀ q ∈ xTd, (Cond.declares q).before #[] U = true) ∧ (Cond.laysStatic "java/lang/Throwable" "UNASSIGNED_STACK" "[Ljava/lang/StackTraceElement;").before #[] U = true ∧ (Cond.laysStatic "java/lang/Throwable" "SUPPRESSED_SENTINEL" "Ljava/util/List;").before #[] U = true ∧ ∀ q ∈ xTo, va_AO q U
def xK (G : xG) (U : State) : Prop := (gl G).stackTraces = false ∧ gb G ≤ U.heap.size ∧ va_K (gD G) xcl (gT G) U ∧ va_Zq "java/lang/Throwable" "UNASSIGNED_STACK" "[Ljava/lang/StackTraceElement;" (xA G) U U.heap ∧ va_Zq "java/lang/Throwable" "SUPPRESSED_SENTINEL" "Ljava/util/List;" (xA G) U U.heap ∧ (∀ q ∈ xTn, va_Nw (.methodLinkNest q.1 q.2.1 q.2.2.1 q.2.2.2) U) ∧ va_X (gs G) (gN G) (gx G) U U.heap ∧ gs G < gb G ∧ (∀ q ∈ xTc, ∀ c t : ClassId, U.vm.findClass q.1 = some c → U.vm.findClass q.2 = some t → U.vm.assignable c t = false) ∧ xKx U
theorem xLS {A : Nat → Prop} {C n d : String} {s U : State} (hvm : s.vm.Alike U.vm) (hH : ∀ q : Nat, q < s.heap.size → ¬ A q → U.heap[q]? = s.heap[q]?) (hz : va_Zq C n d A s s.heap) (h : (Cond.laysStatic C n d).before #[] s = true) : (Cond.laysStatic C n d).before #[] U = true := by
  obtain ⟨c, k, i, f, a, cell, h1, h2, h3, h4, h5, h6, h7, h8, h9⟩ := Cond.laysStatic_spec h
  have hA : ¬ A a := by
    rcases hz with ⟨cf, kf, fi, f', a', cell', g1, g2, g3, g4, g5, g6, g7, g8⟩ | ⟨t, cf, kf, fi, f', a', cell', g1, g2, g3, g4, g5, g6, g7, g8⟩
    · cases h2.symm.trans g1
      cases h4.symm.trans g4
      exact g8
    · cases h2.symm.trans g1
      cases h4.symm.trans g4
      exact g8
  obtain ⟨k', hi', he⟩ := State.fieldFound?_setVm hvm h2
  exact Cond.laysStatic_of (s := U) (by rw [hvm.findClass]; exact h1) hi' h3 (by rw [he]; exact h4) (by rw [hH a (Array.getElem?_eq_some_iff.mp h5).1 hA]; exact h5) h6 h7 h8 (by rw [he]; exact h9)
theorem xK.moved {G : xG} {s U : State} (h : xK G s) (hW : s.WarmedH U.vm) (hz : s.heap.size ≤ U.heap.size) (hH : ∀ q : Nat, q < s.heap.size → ¬ xA G q → U.heap[q]? = s.heap[q]?) : xK G U := by
  obtain ⟨h1, h2, h3, h4, h5, h6, h7, h8, h9, k1, k2, k3, k4, k5, k6⟩ := h
  refine ⟨h1, Nat.le_trans h2 hz, va_K.moved hW.alike h3, va_Zq.moved hW.alike (h4.kept hH), va_Zq.moved hW.alike (h5.kept hH), fun q hq => va_Nw.warmM hW (h6 q hq), va_X.moved hW.alike (h7.kept (hH _ (Nat.lt_of_lt_of_le h8 h2) (Nat.not_le.mpr h8))), h8, fun q hq c t e1 e2 => ?_, fun q hq => ?_, fun q hq => ?_, fun q hq => ?_, xLS hW.alike hH h4 k4, xLS hW.alike hH h5 k5, fun q hq => (k6 q hq).moved hW.alike⟩
  · rw [hW.alike.findClass] at e1 e2
    rw [hW.alike.assignable]
    exact h9 q hq c t e1 e2
  · exact Cond.stringRef_warmed (args := #[]) hW (k1 q hq)
  · have e := Cond.castable_setVm (args := #[]) (s := s) hW.alike q.1 q.2
    exact va_tabs rfl (rfl : (s.setVm U.vm).vm = U.vm) (e.trans (k2 q hq))
  · have e := Cond.declares_setVm (args := #[]) (s := s) hW.alike q
    exact va_tabs rfl (rfl : (s.setVm U.vm).vm = U.vm) (e.trans (k3 q hq))
/-- the method's own word -/
def xwd (y : xY) : Cond := match y.2.2.2.2.2 with
  | [] => .code y.1 y.2.1 y.2.2.1 y.2.2.2.1
  | q :: r => .codeWith y.1 y.2.1 y.2.2.1 y.2.2.2.1 (q :: r)
def xTab (y : xY) (c : Code) : Prop := c.exceptionTable.toList.map (fun h => (h.startPc, h.endPc, h.handlerPc, h.catchType)) = y.2.2.2.2.2
theorem xwd_spec {y : xY} {args : Array Value} {s : State} (h : (xwd y).before args s = true) : ∃ mk methY cY, s.methodNamed? y.1 = some mk ∧ s.vm.method? mk = some methY ∧ methY.code = some cY ∧ cY.code = y.2.1 ∧ cY.maxLocals = y.2.2.1 ∧ methY.sig.returnType = y.2.2.2.1 ∧ methY.locks = false ∧ xTab y cY ∧ parseMethodDescriptor y.1.desc = some methY.sig := by
  obtain ⟨nm, by_, ml, rt, rm, hh⟩ := y
  cases hh with
  | nil =>
    have h' : (Cond.code nm by_ ml rt).before args s = true := h
    obtain ⟨mk, hn⟩ := Cond.code_named h'
    obtain ⟨methY, cY, h1, h2, h3, h4, h5, h6, h7, h8⟩ := Cond.code_spec hn h'
    refine ⟨mk, methY, cY, hn, h1, h2, h3, h4, h5, h6, ?_, h8⟩
    show cY.exceptionTable.toList.map _ = []
    have : cY.exceptionTable = #[] := by simpa [Array.isEmpty_iff] using h7
    rw [this]; rfl
  | cons q r =>
    have h' : (Cond.codeWith nm by_ ml rt (q :: r)).before args s = true := h
    obtain ⟨mk, methY, cY, hn, h1, h2, h3, h4, h5, h6, h7, h8⟩ := Cond.codeWith_spec h'
    exact ⟨mk, methY, cY, hn, h1, h2, h3, h4, h6, h7, h5, h8⟩
/-- where a frame stands -/
def xC (G : xG) (y : xY) (p : Program) (s : State) (m : MethodId) (args : Array Value) (meth : Method) (c : Code) : Prop :=
  p.tables.exec = Jvm.exec ∧ c.code = y.2.1 ∧ meth.sig.returnType = y.2.2.2.1 ∧ c.maxLocals = y.2.2.1 ∧ s.vm.findClass y.1.cls = some m.cls ∧ (∀ w ∈ xTw, w.before args s = true) ∧ meth.locks = false ∧ xTab y c ∧ xK G s ∧ meth.name = y.1.name
def xO (G : xG) (out : Option Value ⊕ String) (st : State) (o : Outcome) (t : State) : Prop := match out with
  | .inl v => o = .returned (v.map (xv G))
  | .inr E => ∃ (x : Addr) (cell : Cell), o = .threw x ∧ t.heap[x]? = some cell ∧ cell.vm = .none ∧ st.vm.findClass E = some cell.cls
def xQ (G : xG) (r : xR) (st : State) (o : Outcome) (t : State) : Prop :=
  xO G r.1 st o t ∧ xW G r.2.1.2 t.heap ∧ va_F (xA G) st t ∧ ∃ L : List Loc, st.WarmedH t.vm ∧ st.sameButNew ({ t with vm := st.vm } : State) L r.2.2.1 r.2.2.2 ∧ (∀ q ∈ L, xA G q.base) ∧ (r.2.1.1 = 1 → t.heap = st.heap ∧ L = [])
def XM (G : xG) (y : xY) (avs : List Value) (w : xH) (r : xR) : Prop :=
  MetFree (gl G) y.1 (headSpec (xwd y :: xTw) y.2.2.2.2.1) (fun a U => a = (avs.map (xv G)).toArray ∧ xW G w.2 U.heap ∧ xK G U ∧ (w.1 = 2 → U.heap.size = gb G + w.2.length)) (fun _ _ _ _ _ => True) (fun _ st o t => xQ G r st o t)
def xZ (G : xG) (r : xR) (below : List Frame) (s : State) : State → Prop := fun t => ∃ o, t.status = .running ∧ Ended t below o ∧ xQ G r s o t
def xmp (G : xG) (L : List (Nat × Value)) : List (Nat × Value) := L.map (fun q => (q.1, xv G q.2))
def xM (G : xG) (k : Nat × Nat) (w : xH) (s : State) (H : Heap) (locs : List Loc) : Prop := (w.1 = 1 → H = s.heap ∧ locs = []) ∧ (w.1 = 2 → s.heap.size + k.1 = gb G + w.2.length)
def JW (G : xG) (y : xY) (k : Nat × Nat) (pc : Nat) (L : List (Nat × Value)) (st : List Value) (w : xH) (r : xR) : Prop :=
  ∀ (p : Program) (e : Env) (s : State) (m : MethodId) (args : Array Value) (below : List Frame) (meth : Method) (c : Code) (H : Heap) (locs : List Loc) (ls : Array Slot),
    xC G y p s m args meth c → va_S (xA G) s.heap H locs → xW G w.2 H → xM G k w s H locs → lv_has ls y.2.2.1 (xmp G L) →
    W p (gl G) e y.2.2.2.2.1 s m args below meth c H locs k.1 k.2 (xZ G r below s) (F0 m pc ls (st.map (xv G)))
theorem x_mono {p : Program} {l : Launch} {e : Env} {R : Room} {s : State} {m : MethodId} {args : Array Value} {below : List Frame} {meth : Method} {c : Code} {H : Heap} {locs : List Loc} {cells slots : Nat} {Q Q' : State → Prop} {g : JFrame} (h : ∀ t, Q t → Q' t) (k : W p l e R s m args below meth c H locs cells slots Q g) : W p l e R s m args below meth c H locs cells slots Q' g :=
  fun T hT X => by
    obtain ⟨t, a, b⟩ := k T hT X
    exact ⟨t, a, h t b⟩
theorem lv_args_map (G : xG) : ∀ (vs : List Value) (i : Nat), lv_args i (vs.map (xv G)) = xmp G (lv_args i vs)
  | [], _ => rfl
  | v :: vs, i => by
    show (i, xv G v) :: lv_args (if (xv G v).category = 2 then i + 2 else i + 1) (vs.map (xv G)) = (i, xv G v) :: xmp G (lv_args (if v.category = 2 then i + 2 else i + 1) vs)
    rw [xv_cat, lv_args_map G vs]
theorem lg_sl_len (G : xG) (vs : List Value) : (lg_sl (vs.map (xv G))).length = (lg_sl vs).length := by
  induction vs with
  | nil => rfl
  | cons v t ih =>
    simp only [lg_sl, List.map_cons, List.flatMap_cons, List.length_append, xv_cat] at ih ⊢
    rw [ih]
    split <;> rfl
/-- a method is met if its body is -/
theorem XM_of {G : xG} {y : xY} {avs : List Value} {w : xH} {r : xR} (hy : plainName y.1.cls = true) (hn : (lg_sl avs).length ≤ y.2.2.1) (hw : w.1 = 1 ∨ w.1 = 2) (h : JW G y (0, 0) 0 (lv_args 0 avs) [] w r) : XM G y avs w r := by
  refine MetFree.of_bodyS (code := y.2.1) (maxLocals := y.2.2.1) (ret := y.2.2.2.1) hy ?_ ?_
  · intro args s m hp hnm
    obtain ⟨mk, methY, cY, h0, h1, h2, h3, h4, h5, h6, h7, h8⟩ := xwd_spec (atoms_spec (ws := xwd y :: xTw) hp _ List.mem_cons_self)
    cases hnm.symm.trans h0
    exact ⟨methY, cY, h1, h2, h3, h4, h5, h6⟩
  · intro p e s m args below meth c s₁ B hml hP _
    obtain ⟨rfl, hW, hK, hE⟩ := hP
    have hts := atoms_spec (ws := xwd y :: xTw) B.pre
    have hh0 : s₁.heap = s.heap := by rw [B.state]; rfl
    obtain ⟨mk, methY, cY, h0, h1, h2, h3, h4, h5, h6, h7, h8⟩ := xwd_spec (hts _ List.mem_cons_self)
    cases B.named.symm.trans h0
    cases B.method.symm.trans h1
    have X₀ := Stand.of_body B
    cases X₀.code.symm.trans h2
    have hl := lv_entry (avs.map (xv G)) (n := y.2.2.1) (by rw [lg_sl_len]; exact hn)
    have K := h p e s m _ below meth c s.heap [] _ ⟨B.exec, h3, h5, h4, findClass_of_methodNamed B.named, fun w hw => hts w (List.mem_cons_of_mem _ hw), h6, h7, hK, (name_of_methodNamed B.named B.method).1⟩ va_S.rf hW ⟨fun _ => ⟨rfl, rfl⟩, fun h2 => hE h2⟩ (by rw [← lv_args_map]; exact hl)
    have K2 := K s₁ hh0 X₀
    rw [show F0 m 0 _ (([] : List Value).map (xv G)) = entryFrame m ((avs.map (xv G))).toArray y.2.2.1 from (lg_entry_eq m (avs.map (xv G)) y.2.2.1).symm] at K2
    obtain ⟨t, a1, o, b1, b2, b3⟩ := K2
    exact ⟨t, o, a1, b1, b2, b3⟩
end
section
section XCALL
variable {p : Program} {l : Launch} {e : Env} {R : Room} {s : State} {m : MethodId} {sargs : Array Value} {below : List Frame} {meth : Method} {c : Code} {U : State} {Ls : List Loc} {c0 s0 : Nat}
/-- a call of a method that is met: it returns, or it throws; the frame below is as it was -/
theorem x_call (X : Stand p l e R s m sargs below meth c U Ls c0 s0) {z : MethodName} {S : Spec} {P : Array Value → State → Prop} {Q : Array Value → State → Outcome → State → Prop} (hM : MetFree l z S P (fun _ _ _ _ _ => True) Q)
    {g : JFrame} (hg : g.method = m) (hsize : g.locals.size = c.maxLocals) {ig : Instr} {len : Nat} (hdg : decode c.code g.pc = .ok (ig, len)) {mk : MethodId} {a : Array Value} (hn : U.methodNamed? z = some mk) {methY : Method} {cY : Code} (hmY : U.vm.method? mk = some methY) (hcY : methY.code = some cY) (hini : (Cond.initialized z.cls).before a U = true)
    (hfr0 : S.room.frames + 1 ≤ R.frames) (hlo : 2 * g.monitorRoom + (g.stack.map fun v => v.category).sum + (cY.maxLocals + 11) + S.room.locals ≤ R.locals) (hce : c0 + S.room.cells ≤ R.cells) (hsl : s0 + S.room.slots ≤ R.slots)
    (hpre : S.pre.before a U = true) (hP : P a (U.calling g mk a))
    {E : Outcome → State → List Loc → Nat → Nat → Prop} (hQ : ∀ o t, Q a (U.calling g mk a) o t → ∃ L k n, (U.calling g mk a).WarmedH t.vm ∧ (U.calling g mk a).sameButNew ({ t with vm := (U.calling g mk a).vm } : State) L k n ∧ E o t L k n) :
    ∃ (o : Outcome) (t T' : State) (L : List Loc) (k n : Nat), E o t L k n ∧ T'.heap = t.heap ∧ T'.vm = t.vm ∧ U.WarmedH t.vm ∧ Stand p l e R s m sargs below meth c T' (Ls ++ L) (c0 + k) (s0 + n) ∧
      (∀ v, o = .returned v → Steps p.tables e below (doInvoke e (U.setTop g) [] mk a).1 (T'.setTop { g with pc := g.pc + len, stack := v.toList ++ g.stack })) ∧
      (∀ x, o = .threw x → Steps p.tables e below (doInvoke e (U.setTop g) [] mk a).1 ((T'.setTop g).pushFrame (.throwing x))) := by
  obtain ⟨kY, hkY, -⟩ := className_of_methodNamed hn
  have hinitY : kY.init = .initialized := Cond.initialized_spec (findClass_of_methodNamed hn) hkY hini
  have h : At U g.method c below := by rw [hg]; exact X.here
  have happ : S.appliesLoose z e.platform (U.calling g mk a) = true :=
    Spec.appliesLoose_calling (g := g) h hdg hn hkY hinitY (X.room_calling (g := g) (R' := S.room) hsize hmY hcY hfr0 hlo hce hsl) hpre
  obtain ⟨mid, hmid⟩ := h.above
  have hfr : (U.setTop g).frames = (.java g :: mid) ++ below := by rw [State.frames_setTop' g h.top, hmid]; rfl
  obtain ⟨o, s₂, hsteps, -, hend, hq⟩ := Steps.callFree hM p X.admits X.cas X.clock (acts := []) hfr happ hP trivial
  have hq' : Q a (U.calling g mk a) o s₂ := hq
  rw [State.frames_setTop' g h.top] at hend
  obtain ⟨L, k, n, hW₂, ⟨e2, q2, q3, q4, q5, q6⟩, hE⟩ := hQ _ _ hq'
  have e3 : s₂ = ({ (U.calling g mk a).setFrames s₂.frames with heap := s₂.heap, slotsUsed := s₂.slotsUsed } : State).setVm s₂.vm := by
    have : s₂ = ({ s₂ with vm := (U.calling g mk a).vm } : State).setVm s₂.vm := rfl
    rw [e2] at this
    exact this
  have hW' : U.WarmedH s₂.vm := hW₂
  obtain ⟨g₀, hg0⟩ := Option.isSome_iff_exists.mp h.top
  obtain ⟨r, hr⟩ := State.topJava?_eq_some.mp hg0
  have hr' : (({ U with heap := s₂.heap, slotsUsed := s₂.slotsUsed } : State).setVm s₂.vm).frames = .java g₀ :: r := hr
  have hsame : U.sameButNew ({ U with heap := s₂.heap, slotsUsed := s₂.slotsUsed } : State) L k n := by
    refine ⟨?_, q2, q3, q4, q5, q6⟩
    obtain ⟨t, ht, -⟩ := State.frames_cons hr
    show ({ U with heap := s₂.heap, slotsUsed := s₂.slotsUsed } : State) = { U.setFrames U.frames with heap := s₂.heap, slotsUsed := s₂.slotsUsed }
    rw [State.setFrames_self ht]
  refine ⟨o, s₂, (({ U with heap := s₂.heap, slotsUsed := s₂.slotsUsed } : State).setVm s₂.vm), L, k, n, hE, rfl, rfl, hW', ?_, ?_, ?_⟩
  · exact ⟨X.admits, X.cas, X.clock, X.frames, X.room, X.hears, X.method, X.code, (X.here.setHeapUsed s₂.heap s₂.slotsUsed).setVm hW'.alike, X.tail, State.WarmedH.trans X.warmed hW', X.limits, X.bytes, X.same.trans (hsame.setVm s.vm)⟩
  · intro v hv
    subst hv
    obtain ⟨c₂, i₂, len₂, hc₂, hd₂, hf₂⟩ := hend
    have hcc : c₂ = c := by
      have h1 : s₂.code? g.method = U.code? g.method := by rw [State.code?_eq, State.code?_eq, hW'.alike.method?]
      exact Option.some.inj (hc₂.symm.trans (h1.trans h.code))
    subst hcc
    have hlen : len₂ = len := by rw [hdg] at hd₂; cases hd₂; rfl
    subst hlen
    have hs₂ : s₂ = (({ U with heap := s₂.heap, slotsUsed := s₂.slotsUsed } : State).setVm s₂.vm).setTop { g with pc := g.pc + len₂, stack := v.toList ++ g.stack } := by
      refine e3.trans ?_
      rw [hf₂, State.calling_eq h.top, State.setFrames_setFrames, State.setTop_of_frames _ hr', hr]
      rfl
    rw [← hs₂]
    exact hsteps
  · intro x hx
    subst hx
    have hf₂ : s₂.frames = .throwing x :: .java g :: U.frames.tail := hend
    have hs₂ : s₂ = ((({ U with heap := s₂.heap, slotsUsed := s₂.slotsUsed } : State).setVm s₂.vm).setTop g).pushFrame (.throwing x) := by
      refine e3.trans ?_
      rw [hf₂, State.calling_eq h.top, State.setFrames_setFrames, State.pushFrame, State.frames_setTop _ hr', State.setTop_of_frames _ hr', State.setFrames_setFrames, hr]
      rfl
    rw [← hs₂]
    exact hsteps
/-- an invocation is under way: the machine has come to the callee's entry -/
def xInv (p : Program) (l : Launch) (e : Env) (R : Room) (s : State) (m : MethodId) (sargs : Array Value) (below : List Frame) (meth : Method) (c : Code) (T : State) (Ls : List Loc) (c0 s0 : Nat) (g : JFrame) (z : xY) (a : Array Value) (rest : List Value) : Prop :=
  ∃ (vm₁ : Vm) (mk : MethodId) (methY : Method) (cY : Code) (ig : Instr), Stand p l e R s m sargs below meth c (T.setVm vm₁) Ls c0 s0 ∧ (T.setVm vm₁).methodNamed? z.1 = some mk ∧ (T.setVm vm₁).vm.method? mk = some methY ∧ methY.code = some cY ∧ cY.maxLocals = z.2.2.1 ∧ decode c.code g.pc = .ok (ig, 3) ∧
    ∀ target, Steps p.tables e below (doInvoke e ((T.setVm vm₁).setTop { g with stack := rest }) [] mk a).1 target → Steps p.tables e below (T.setTop g) target
theorem xInv_virt {T : State} (X : Stand p l e R s m sargs below meth c T Ls c0 s0) (hexec : p.tables.exec = Jvm.exec) {own : String} {index : Nat} {z : xY} (hown : s.vm.findClass own = some m.cls)
    (hlink : (Cond.methodLink own index z.1).before sargs s = true) (hinst : (Cond.instanceMethod z.1).before sargs s = true) (hsel : (Cond.selects z.1.cls z.1 z.1).before sargs s = true) (hcode : (xwd z).before sargs s = true) (hy : z.1.cls ≠ "java/lang/invoke/MethodHandle" ∧ z.1.cls ≠ "java/lang/invoke/VarHandle")
    {b : Addr} {cellB : Cell} (hcell : T.heap[b]? = some cellB) (hobj : cellB.vm.isStatics = false) (hcls : s.vm.findClass z.1.cls = some cellB.cls)
    {g : JFrame} (hg : g.method = m) {argsL rest : List Value} {n : Nat} (hlen : (parseMethodDescriptor z.1.desc).map (fun d => d.parameters.length) = some n) (hn : argsL.length = n)
    (hstack : g.stack = argsL.reverse ++ .ref b :: rest) (hdg : decode c.code g.pc = .ok (.invokevirtual index, 3)) : xInv p l e R s m sargs below meth c T Ls c0 s0 g z (Value.ref b :: argsL).toArray rest := by
  obtain ⟨mk, methY, cY, hnamed, hmethM, hcY, -, hml, -, -, -, hsig⟩ := xwd_spec hcode
  obtain ⟨mk', methM, hnamed', hmethM', hstM, habM⟩ := Cond.instanceMethod_spec hinst
  cases hnamed.symm.trans hnamed'
  cases hmethM.symm.trans hmethM'
  obtain ⟨c2, r2, m2, q1, q2, q3, q4, kP, hkP, hkPi⟩ := Cond.selects_spec hsel
  cases hcls.symm.trans q1
  cases (State.methodFound?_of_named hnamed hy).symm.trans q2
  cases hnamed.symm.trans q3
  have hselP : selectMethod e.platform s.vm cellB.cls mk = .method mk := by rw [Launch.admits_selectMethod X.admits]; exact q4
  have hl : argsL.length = methY.sig.parameters.length := by
    rw [hsig] at hlen
    exact hn.trans (Option.some.inj hlen).symm
  obtain ⟨vm₁, X₁, hstep₁⟩ := X.invokevirtual hexec hown hlink hnamed hmethM hstM hkP hkPi hy (a := b) (cell := cellB) hcell
    (fun q h => by rw [h] at hobj; cases hobj) hselP hmethM habM hkP hkPi (g := g) hg (argsL := argsL) (rest := rest) hl hstack hdg
  refine ⟨vm₁, mk, methY, cY, _, X₁, X₁.named hnamed, ?_, hcY, hml, hdg, fun target h => hstep₁ _ fun acts => by rw [doInvoke_state]; exact h⟩
  rw [X₁.warmed.alike.method?]; exact hmethM
theorem xInv_stat {T : State} (X : Stand p l e R s m sargs below meth c T Ls c0 s0) (hexec : p.tables.exec = Jvm.exec) {own : String} {index : Nat} {z : xY} (hown : s.vm.findClass own = some m.cls)
    (hlink : (Cond.methodLink own index z.1).before sargs s = true) (hstat : (Cond.static z.1).before sargs s = true) (hini : (Cond.initialized z.1.cls).before sargs s = true) (hcode : (xwd z).before sargs s = true) (hy : z.1.cls ≠ "java/lang/invoke/MethodHandle" ∧ z.1.cls ≠ "java/lang/invoke/VarHandle")
    {g : JFrame} (hg : g.method = m) {argsL rest : List Value} {n : Nat} (hlen : (parseMethodDescriptor z.1.desc).map (fun d => d.parameters.length) = some n) (hn : argsL.length = n)
    (hstack : g.stack = argsL.reverse ++ rest) (hdg : decode c.code g.pc = .ok (.invokestatic index, 3)) : xInv p l e R s m sargs below meth c T Ls c0 s0 g z argsL.toArray rest := by
  obtain ⟨mk, methY, cY, hnamed, hmethM, hcY, -, hml, -, -, -, hsig⟩ := xwd_spec hcode
  have hstatic : methY.isStatic = true := Cond.static_spec hnamed hmethM hstat
  obtain ⟨kP, hkP, -⟩ := className_of_methodNamed hnamed
  have hinitP : kP.init = .initialized := Cond.initialized_spec (findClass_of_methodNamed hnamed) hkP hini
  have hl : argsL.length = methY.sig.parameters.length := by
    rw [hsig] at hlen
    exact hn.trans (Option.some.inj hlen).symm
  obtain ⟨vm₁, X₁, hstep₁⟩ := X.invokestatic hexec hown hlink hnamed hmethM hstatic hkP hinitP hy (g := g) hg (argsL := argsL) (rest := rest) hl hstack hdg
  refine ⟨vm₁, mk, methY, cY, _, X₁, X₁.named hnamed, ?_, hcY, hml, hdg, fun target h => hstep₁ _ fun acts => by rw [doInvoke_state]; exact h⟩
  rw [X₁.warmed.alike.method?]; exact hmethM
theorem xInv_statN {T : State} (X : Stand p l e R s m sargs below meth c T Ls c0 s0) (hexec : p.tables.exec = Jvm.exec) {own host : String} {index : Nat} {z : xY} (hown : s.vm.findClass own = some m.cls)
    (hlink : (Cond.methodLinkNest own index z.1 host).before sargs s = true) (hstat : (Cond.static z.1).before sargs s = true) (hini : (Cond.initialized z.1.cls).before sargs s = true) (hcode : (xwd z).before sargs s = true) (hy : z.1.cls ≠ "java/lang/invoke/MethodHandle" ∧ z.1.cls ≠ "java/lang/invoke/VarHandle")
    {g : JFrame} (hg : g.method = m) {argsL rest : List Value} {n : Nat} (hlen : (parseMethodDescriptor z.1.desc).map (fun d => d.parameters.length) = some n) (hn : argsL.length = n)
    (hstack : g.stack = argsL.reverse ++ rest) (hdg : decode c.code g.pc = .ok (.invokestatic index, 3)) : xInv p l e R s m sargs below meth c T Ls c0 s0 g z argsL.toArray rest := by
  obtain ⟨mk, methY, cY, hnamed, hmethM, hcY, -, hml, -, -, -, hsig⟩ := xwd_spec hcode
  have hstatic : methY.isStatic = true := Cond.static_spec hnamed hmethM hstat
  obtain ⟨kP, hkP, -⟩ := className_of_methodNamed hnamed
  have hinitP : kP.init = .initialized := Cond.initialized_spec (findClass_of_methodNamed hnamed) hkP hini
  have hl : argsL.length = methY.sig.parameters.length := by
    rw [hsig] at hlen
    exact hn.trans (Option.some.inj hlen).symm
  obtain ⟨vm₁, X₁, hstep₁⟩ := X.invokestaticNest hexec hown hlink hnamed hmethM hstatic hkP hinitP hy (g := g) hg (argsL := argsL) (rest := rest) hl hstack hdg
  refine ⟨vm₁, mk, methY, cY, _, X₁, X₁.named hnamed, ?_, hcY, hml, hdg, fun target h => hstep₁ _ fun acts => by rw [doInvoke_state]; exact h⟩
  rw [X₁.warmed.alike.method?]; exact hmethM
theorem xInv_init {T : State} (X : Stand p l e R s m sargs below meth c T Ls c0 s0) (hexec : p.tables.exec = Jvm.exec) {own : String} {index : Nat} {nm : MethodName} {by_ : ByteArray} {ml : Nat} {rm : Room} (hown : s.vm.findClass own = some m.cls) (hy1 : nm.name = "<init>")
    (hlink : (Cond.methodLink own index nm).before sargs s = true) (hinst : (Cond.instanceMethod nm).before sargs s = true) (hcode : (Cond.code nm by_ ml none).before sargs s = true) (hy : nm.cls ≠ "java/lang/invoke/MethodHandle" ∧ nm.cls ≠ "java/lang/invoke/VarHandle")
    {b : Addr} {g : JFrame} (hg : g.method = m) {argsL rest : List Value} {n : Nat} (hlen : (parseMethodDescriptor nm.desc).map (fun d => d.parameters.length) = some n) (hn : argsL.length = n)
    (hstack : g.stack = argsL.reverse ++ .ref b :: rest) (hdg : decode c.code g.pc = .ok (.invokespecial index, 3)) : xInv p l e R s m sargs below meth c T Ls c0 s0 g (nm, by_, ml, none, rm, []) (Value.ref b :: argsL).toArray rest := by
  subst hg
  have hpl : e.platform.magicAccessors = ({} : Platform).magicAccessors := by rw [X.admits.platform]
  have hl : ∀ sig, parseMethodDescriptor nm.desc = some sig → argsL.length = sig.parameters.length := fun sig h => by
    rw [h] at hlen
    exact hn.trans (Option.some.inj hlen).symm
  obtain ⟨mk, methM, cM, kP, vm₁, hnamed, hmethM, hcodeM, -, hlocalsM, -, hkP, -, hW₁, hstep₁⟩ := Steps.initColdArgs (e := e) X.here hexec X.warmed hpl hown hy1 hy hlink hinst hcode (f := g) rfl hl hstack hdg
  have X₁ := X.noted hW₁
  refine ⟨vm₁, mk, methM, cM, _, X₁, X₁.named hnamed, ?_, hcodeM, hlocalsM, hdg, fun target h => hstep₁ _ fun acts => by rw [doInvoke_state]; exact h⟩
  rw [X₁.warmed.alike.method?]; exact hmethM
end XCALL
/-- behind an invocation: the callee's end, in the caller's words -/
theorem x_ran {G : xG} {p : Program} {e : Env} {R : Room} {s : State} {m : MethodId} {sargs : Array Value} {below : List Frame} {meth : Method} {c : Code} {T : State} {Ls : List Loc} {c0 s0 : Nat} {g : JFrame} {z : xY} {avs : List Value} {w : xH} {r : xR} {rest : List Value}
    (I : xInv p (gl G) e R s m sargs below meth c T Ls c0 s0 g z (avs.map (xv G)).toArray rest) (hM : XM G z avs w r) (hts : ∀ w ∈ xTw, w.before sargs s = true) (hz : xwd z ∈ xTw) (hzi : Cond.initialized z.1.cls ∈ xTw) (hK : xK G s) (hS : va_S (xA G) s.heap T.heap Ls) (hW : xW G w.2 T.heap) (hE : w.1 = 2 → T.heap.size = gb G + w.2.length)
    (hg : g.method = m) (hsize : g.locals.size = c.maxLocals) (hst : 2 * g.monitorRoom + (rest.map fun v => v.category).sum ≤ 8)
    (hR : z.2.2.2.2.1.frames + 1 ≤ R.frames ∧ 8 + (z.2.2.1 + 11) + z.2.2.2.2.1.locals ≤ R.locals ∧ c0 + z.2.2.2.2.1.cells ≤ R.cells ∧ s0 + z.2.2.2.2.1.slots ≤ R.slots) :
    ∃ (o : Outcome) (T' : State) (L : List Loc), Stand p (gl G) e R s m sargs below meth c T' (Ls ++ L) (c0 + r.2.2.1) (s0 + r.2.2.2) ∧ xW G r.2.1.2 T'.heap ∧ va_S (xA G) s.heap T'.heap (Ls ++ L) ∧ (r.2.1.1 = 1 → T'.heap = T.heap ∧ L = []) ∧
      (∀ v, r.1 = .inl v → ∀ target, Steps p.tables e below (T'.setTop { g with pc := g.pc + 3, stack := (v.map (xv G)).toList ++ rest }) target → Steps p.tables e below (T.setTop g) target) ∧
      (∀ E, r.1 = .inr E → ∃ (x : Addr) (cell : Cell), T'.heap[x]? = some cell ∧ cell.vm = .none ∧ s.vm.findClass E = some cell.cls ∧ ∀ target, Steps p.tables e below ((T'.setTop { g with stack := rest }).pushFrame (.throwing x)) target → Steps p.tables e below (T.setTop g) target) := by
  obtain ⟨vm₁, mk, methY, cY, ig, X₁, hn, hmY, hcY, hml, hdg, st⟩ := I
  have hWs : s.WarmedH vm₁ := X₁.warmed
  have hGd : ∀ w ∈ xTw, ∀ (a' : Array Value), w.before a' (T.setVm vm₁) = true := fun w hw a' => word_at (U := T.setVm vm₁) hWs (xTw_good w hw) (hts w hw)
  have hKT : ∀ (gg : JFrame) (a' : Array Value), xK G ((T.setVm vm₁).calling gg mk a') := fun gg a' => hK.moved (U := (T.setVm vm₁).calling gg mk a') hWs hS.1 hS.2.1
  obtain ⟨o, t, T', L, k, n, ⟨hq, rfl, rfl, hLA, hmode⟩, e1, e2, hWt, X', hret, hthr⟩ := x_call X₁ hM (g := { g with stack := rest }) hg hsize hdg hn hmY hcY (hGd _ hzi _) hR.1 (by rw [hml]; have := hR.2.1; show 2 * g.monitorRoom + (rest.map fun v => v.category).sum + (z.2.2.1 + 11) + z.2.2.2.2.1.locals ≤ R.locals; omega) hR.2.2.1 hR.2.2.2
    (atoms_intro (fun w hw => by
      rcases List.mem_cons.mp hw with h | h
      · rw [h]; exact hGd _ hz _
      · exact hGd _ h _)) ⟨rfl, hW, hKT _ _, hE⟩
    (E := fun o t L k n => (xO G r.1 ((T.setVm vm₁).calling { g with stack := rest } mk (avs.map (xv G)).toArray) o t ∧ xW G r.2.1.2 t.heap ∧ va_F (xA G) ((T.setVm vm₁).calling { g with stack := rest } mk (avs.map (xv G)).toArray) t) ∧ k = r.2.2.1 ∧ n = r.2.2.2 ∧ (∀ q ∈ L, xA G q.base) ∧ (r.2.1.1 = 1 → t.heap = T.heap ∧ L = []))
    (fun o t hq => by
      obtain ⟨h1, h2, h3, L, h4, h5, h6, h7⟩ := hq
      exact ⟨L, _, _, h4, h5, ⟨h1, h2, h3⟩, rfl, rfl, h6, h7⟩)
  obtain ⟨hO, hWr, hF⟩ := hq
  have hF1 : T.heap.size ≤ t.heap.size := hF.1
  have hF2 : ∀ q : Nat, q < T.heap.size → ¬ xA G q → t.heap[q]? = T.heap[q]? := hF.2
  refine ⟨o, T', L, X', by rw [e1]; exact hWr, ⟨by rw [e1]; exact Nat.le_trans hS.1 hF1, fun q h1 h2 => by rw [e1, hF2 q (Nat.lt_of_lt_of_le h1 hS.1) h2]; exact hS.2.1 q h1 h2, fun q hq => ?_⟩, fun h => by rw [e1]; exact hmode h, fun v hv target ht => st target ?_, fun E hE => ?_⟩
  · rcases List.mem_append.mp hq with h | h
    · exact hS.2.2 q h
    · exact hLA q h
  · rw [hv] at hO
    exact (hret _ hO).trans ht
  · rw [hE] at hO
    obtain ⟨x, cell, h1, h2, h3, h4⟩ := hO
    refine ⟨x, cell, by rw [e1]; exact h2, h3, ?_, fun target ht => st target ((hthr _ h1).trans ht)⟩
    have h4' : vm₁.findClass E = some cell.cls := h4
    rw [hWs.alike.findClass] at h4'
    exact h4'
end
section
section XJ
variable {G : xG} {y : xY} {k : Nat × Nat} {pc : Nat} {L : List (Nat × Value)} {st : List Value} {w : xH} {r : xR}
def xlk (L : List (Nat × Value)) (i : Nat) : Option Value := (L.find? (fun q => q.1 == i)).map (fun q => q.2)
def xst (L : List (Nat × Value)) (i : Nat) (v : Value) : List (Nat × Value) := (i, v) :: L.filter (fun q => !(q.1 == i) && !(q.1 + 1 == i && q.2.category == 2))
def xst2 (L : List (Nat × Value)) (i : Nat) (v : Value) : List (Nat × Value) := (i, v) :: L.filter (fun q => !(q.1 == i) && (!(q.1 == i + 1) && !(q.1 + 1 == i && q.2.category == 2)))
theorem xlk_mem {G : xG} {L : List (Nat × Value)} {i : Nat} {v : Value} (h : xlk L i = some v) : (i, xv G v) ∈ xmp G L := by
  unfold xlk at h
  cases hf : L.find? (fun q => q.1 == i) with
  | none => rw [hf] at h; cases h
  | some q =>
    rw [hf] at h
    have h1 := List.mem_of_find?_eq_some hf
    have h2 := List.find?_some hf
    have h3 : q.1 = i := by simpa using h2
    have h4 : q.2 = v := Option.some.inj h
    exact List.mem_map.mpr ⟨q, h1, by rw [h3, h4]⟩
theorem xlk_at {G : xG} {ls : Array Slot} {n : Nat} {L : List (Nat × Value)} {i : Nat} {v : Value} (hl : lv_has ls n (xmp G L)) (h : xlk L i = some v) : ls[i]? = some (.val (xv G v)) := hl.2.2 _ (xlk_mem h)
theorem xst_map (G : xG) (L : List (Nat × Value)) (i : Nat) (v : Value) : (i, xv G v) :: (xmp G L).filter (fun q => !(q.1 == i) && !(q.1 + 1 == i && q.2.category == 2)) = xmp G (xst L i v) := by
  simp only [xmp, xst, List.map_cons, List.filter_map, Function.comp_def, xv_cat]
theorem xst2_map (G : xG) (L : List (Nat × Value)) (i : Nat) (v : Value) : (i, xv G v) :: (xmp G L).filter (fun q => !(q.1 == i) && (!(q.1 == i + 1) && !(q.1 + 1 == i && q.2.category == 2))) = xmp G (xst2 L i v) := by
  simp only [xmp, xst2, List.map_cons, List.filter_map, Function.comp_def, xv_cat]

theorem J_iconst {n : Int} {v : Int32} (hd : decode y.2.1 pc = .ok (.iconst n, 1)) (hv : Int32.ofInt n = v) (h : JW G y k (pc + 1) L (.int v :: st) w r) : JW G y k pc L st w r :=
  fun p e s m args below meth c H locs ls C hS hW hM hl => lv_iconst C.1 C.2.1 hd hv (h p e s m args below meth c H locs ls C hS hW hM hl)
theorem J_bipush {n : Int} {v : Int32} (hd : decode y.2.1 pc = .ok (.bipush n, 2)) (hv : (Int8.ofInt n).toInt32 = v) (h : JW G y k (pc + 2) L (.int v :: st) w r) : JW G y k pc L st w r :=
  fun p e s m args below meth c H locs ls C hS hW hM hl => lv_bipush C.1 C.2.1 hd hv (h p e s m args below meth c H locs ls C hS hW hM hl)
theorem J_sipush {n : Int} {v : Int32} (hd : decode y.2.1 pc = .ok (.sipush n, 3)) (hv : (Int16.ofInt n).toInt32 = v) (h : JW G y k (pc + 3) L (.int v :: st) w r) : JW G y k pc L st w r :=
  fun p e s m args below meth c H locs ls C hS hW hM hl => lv_sipush C.1 C.2.1 hd hv (h p e s m args below meth c H locs ls C hS hW hM hl)
theorem J_lconst {n : Fin 2} {v : Int64} (hd : decode y.2.1 pc = .ok (.lconst n, 1)) (hv : Int64.ofNat (n : Nat) = v) (h : JW G y k (pc + 1) L (.long v :: st) w r) : JW G y k pc L st w r :=
  fun p e s m args below meth c H locs ls C hS hW hM hl => lv_lconst C.1 C.2.1 hd hv (h p e s m args below meth c H locs ls C hS hW hM hl)
theorem J_ldc {index : Nat} {v : Int32} (hd : decode y.2.1 pc = .ok (.ldc index, 2)) (hw : Cond.constant y.1.cls index v ∈ xTw) (h : JW G y k (pc + 2) L (.int v :: st) w r) : JW G y k pc L st w r :=
  fun p e s m args below meth c H locs ls C hS hW hM hl => lv_ldc C.1 C.2.1 C.2.2.2.2.1 (C.2.2.2.2.2.1 _ hw) hd (h p e s m args below meth c H locs ls C hS hW hM hl)
theorem J_ldc_w {index : Nat} {v : Int32} (hd : decode y.2.1 pc = .ok (.ldc_w index, 3)) (hw : Cond.constant y.1.cls index v ∈ xTw) (h : JW G y k (pc + 3) L (.int v :: st) w r) : JW G y k pc L st w r :=
  fun p e s m args below meth c H locs ls C hS hW hM hl => lv_ldcw C.1 C.2.1 C.2.2.2.2.1 (C.2.2.2.2.2.1 _ hw) hd (h p e s m args below meth c H locs ls C hS hW hM hl)
theorem J_ldc2_w {index : Nat} {v : Int64} (hd : decode y.2.1 pc = .ok (.ldc2_w index, 3)) (hw : Cond.constantLong y.1.cls index v ∈ xTw) (h : JW G y k (pc + 3) L (.long v :: st) w r) : JW G y k pc L st w r :=
  fun p e s m args below meth c H locs ls C hS hW hM hl => lv_ldc2 C.1 C.2.1 C.2.2.2.2.1 (C.2.2.2.2.2.1 _ hw) hd (h p e s m args below meth c H locs ls C hS hW hM hl)
theorem J_iload_n {j : Fin 4} {i : Nat} {x : Int32} (hd : decode y.2.1 pc = .ok (.iload_n j, 1)) (hi : (j : Nat) = i) (hx : xlk L i = some (.int x)) (h : JW G y k (pc + 1) L (.int x :: st) w r) : JW G y k pc L st w r :=
  fun p e s m args below meth c H locs ls C hS hW hM hl => lv_iload_n C.1 C.2.1 hd hi (xlk_at hl hx) (h p e s m args below meth c H locs ls C hS hW hM hl)
theorem J_iload {i : Nat} {x : Int32} (hd : decode y.2.1 pc = .ok (.iload i, 2)) (hx : xlk L i = some (.int x)) (h : JW G y k (pc + 2) L (.int x :: st) w r) : JW G y k pc L st w r :=
  fun p e s m args below meth c H locs ls C hS hW hM hl => lv_iload C.1 C.2.1 hd (xlk_at hl hx) (h p e s m args below meth c H locs ls C hS hW hM hl)
theorem J_lload_n {j : Fin 4} {i : Nat} {x : Int64} (hd : decode y.2.1 pc = .ok (.lload_n j, 1)) (hi : (j : Nat) = i) (hx : xlk L i = some (.long x)) (h : JW G y k (pc + 1) L (.long x :: st) w r) : JW G y k pc L st w r :=
  fun p e s m args below meth c H locs ls C hS hW hM hl => lv_lload_n C.1 C.2.1 hd hi (xlk_at hl hx) (h p e s m args below meth c H locs ls C hS hW hM hl)
theorem J_lload {i : Nat} {x : Int64} (hd : decode y.2.1 pc = .ok (.lload i, 2)) (hx : xlk L i = some (.long x)) (h : JW G y k (pc + 2) L (.long x :: st) w r) : JW G y k pc L st w r :=
  fun p e s m args below meth c H locs ls C hS hW hM hl => lv_lload C.1 C.2.1 hd (xlk_at hl hx) (h p e s m args below meth c H locs ls C hS hW hM hl)
theorem J_aload_n {j : Fin 4} {i : Nat} {x : Nat} (hd : decode y.2.1 pc = .ok (.aload_n j, 1)) (hi : (j : Nat) = i) (hx : xlk L i = some (.ref x)) (h : JW G y k (pc + 1) L (.ref x :: st) w r) : JW G y k pc L st w r :=
  fun p e s m args below meth c H locs ls C hS hW hM hl => lv_aload_n C.1 C.2.1 hd hi (xlk_at hl hx) (h p e s m args below meth c H locs ls C hS hW hM hl)
theorem J_aload {i : Nat} {x : Nat} (hd : decode y.2.1 pc = .ok (.aload i, 2)) (hx : xlk L i = some (.ref x)) (h : JW G y k (pc + 2) L (.ref x :: st) w r) : JW G y k pc L st w r :=
  fun p e s m args below meth c H locs ls C hS hW hM hl => lv_aload C.1 C.2.1 hd (xlk_at hl hx) (h p e s m args below meth c H locs ls C hS hW hM hl)
theorem J_sload_n {j : Fin 4} {i : Nat} {x : UInt32} (hd : decode y.2.1 pc = .ok (.aload_n j, 1)) (hi : (j : Nat) = i) (hx : xlk L i = some (.float x)) (h : JW G y k (pc + 1) L (.float x :: st) w r) : JW G y k pc L st w r :=
  fun p e s m args below meth c H locs ls C hS hW hM hl => lv_aload_n C.1 C.2.1 hd hi (xlk_at hl hx) (h p e s m args below meth c H locs ls C hS hW hM hl)
theorem J_istore_n {j : Fin 4} {i : Nat} {x : Int32} (hd : decode y.2.1 pc = .ok (.istore_n j, 1)) (hi : (j : Nat) = i) (hn : i < y.2.2.1) (h : JW G y k (pc + 1) (xst L i (.int x)) st w r) : JW G y k pc L (.int x :: st) w r :=
  fun p e s m args below meth c H locs ls C hS hW hM hl => lv_istore_n (lv' := xmp G (xst L i (.int x))) C.1 C.2.1 hd hi hl hn (xst_map G L i (.int x)) (fun ls' hl' => h p e s m args below meth c H locs ls' C hS hW hM hl')
theorem J_istore {i : Nat} {x : Int32} (hd : decode y.2.1 pc = .ok (.istore i, 2)) (hn : i < y.2.2.1) (h : JW G y k (pc + 2) (xst L i (.int x)) st w r) : JW G y k pc L (.int x :: st) w r :=
  fun p e s m args below meth c H locs ls C hS hW hM hl => lv_istore (lv' := xmp G (xst L i (.int x))) C.1 C.2.1 hd hl hn (xst_map G L i (.int x)) (fun ls' hl' => h p e s m args below meth c H locs ls' C hS hW hM hl')
theorem J_lstore_n {j : Fin 4} {i : Nat} {x : Int64} (hd : decode y.2.1 pc = .ok (.lstore_n j, 1)) (hi : (j : Nat) = i) (hn : i + 1 < y.2.2.1) (h : JW G y k (pc + 1) (xst2 L i (.long x)) st w r) : JW G y k pc L (.long x :: st) w r :=
  fun p e s m args below meth c H locs ls C hS hW hM hl => lv_lstore_n (lv' := xmp G (xst2 L i (.long x))) C.1 C.2.1 hd hi hl hn (xst2_map G L i (.long x)) (fun ls' hl' => h p e s m args below meth c H locs ls' C hS hW hM hl')
theorem J_lstore {i : Nat} {x : Int64} (hd : decode y.2.1 pc = .ok (.lstore i, 2)) (hn : i + 1 < y.2.2.1) (h : JW G y k (pc + 2) (xst2 L i (.long x)) st w r) : JW G y k pc L (.long x :: st) w r :=
  fun p e s m args below meth c H locs ls C hS hW hM hl => lv_lstore (lv' := xmp G (xst2 L i (.long x))) C.1 C.2.1 hd hl hn (xst2_map G L i (.long x)) (fun ls' hl' => h p e s m args below meth c H locs ls' C hS hW hM hl')
theorem J_astore_n {j : Fin 4} {i : Nat} {x : Nat} (hd : decode y.2.1 pc = .ok (.astore_n j, 1)) (hi : (j : Nat) = i) (hn : i < y.2.2.1) (h : JW G y k (pc + 1) (xst L i (.ref x)) st w r) : JW G y k pc L (.ref x :: st) w r :=
  fun p e s m args below meth c H locs ls C hS hW hM hl => lv_astore_n (lv' := xmp G (xst L i (.ref x))) C.1 C.2.1 hd hi hl hn (xst_map G L i (.ref x)) (fun ls' hl' => h p e s m args below meth c H locs ls' C hS hW hM hl')
theorem J_astore {i : Nat} {x : Nat} (hd : decode y.2.1 pc = .ok (.astore i, 2)) (hn : i < y.2.2.1) (h : JW G y k (pc + 2) (xst L i (.ref x)) st w r) : JW G y k pc L (.ref x :: st) w r :=
  fun p e s m args below meth c H locs ls C hS hW hM hl => lv_astore (lv' := xmp G (xst L i (.ref x))) C.1 C.2.1 hd hl hn (xst_map G L i (.ref x)) (fun ls' hl' => h p e s m args below meth c H locs ls' C hS hW hM hl')
theorem J_iinc {i : Nat} {n : Int} {x v : Int32} (hd : decode y.2.1 pc = .ok (.iinc i n, 3)) (hx : xlk L i = some (.int x)) (hv : x + Int32.ofInt n = v) (hn : i < y.2.2.1) (h : JW G y k (pc + 3) (xst L i (.int v)) st w r) : JW G y k pc L st w r := by
  intro p e s m args below meth c H locs ls C hS hW hM hl
  obtain ⟨k', hk'⟩ := List.getElem?_of_mem (xlk_mem (G := G) hx)
  exact lv_iinc (k := k') (x := x) (v := v) (lv' := xmp G (xst L i (.int v))) C.1 C.2.1 hd hl hk' hv hn (xst_map G L i (.int v)) (fun ls' hl' => h p e s m args below meth c H locs ls' C hS hW hM hl')
theorem J_iadd {a b : Int32} (hd : decode y.2.1 pc = .ok (.iadd, 1)) (h : JW G y k (pc + 1) L (.int (a + b) :: st) w r) : JW G y k pc L (.int b :: .int a :: st) w r :=
  fun p e s m args below meth c H locs ls C hS hW hM hl => lv_iadd C.1 C.2.1 hd (h p e s m args below meth c H locs ls C hS hW hM hl)
theorem J_isub {a b : Int32} (hd : decode y.2.1 pc = .ok (.isub, 1)) (h : JW G y k (pc + 1) L (.int (a - b) :: st) w r) : JW G y k pc L (.int b :: .int a :: st) w r :=
  fun p e s m args below meth c H locs ls C hS hW hM hl => lv_isub C.1 C.2.1 hd (h p e s m args below meth c H locs ls C hS hW hM hl)
theorem J_imul {a b : Int32} (hd : decode y.2.1 pc = .ok (.imul, 1)) (h : JW G y k (pc + 1) L (.int (a * b) :: st) w r) : JW G y k pc L (.int b :: .int a :: st) w r :=
  fun p e s m args below meth c H locs ls C hS hW hM hl => lv_imul C.1 C.2.1 hd (h p e s m args below meth c H locs ls C hS hW hM hl)
theorem J_iand {a b : Int32} (hd : decode y.2.1 pc = .ok (.iand, 1)) (h : JW G y k (pc + 1) L (.int (a &&& b) :: st) w r) : JW G y k pc L (.int b :: .int a :: st) w r :=
  fun p e s m args below meth c H locs ls C hS hW hM hl => lv_iand C.1 C.2.1 hd (h p e s m args below meth c H locs ls C hS hW hM hl)
theorem J_ladd {a b : Int64} (hd : decode y.2.1 pc = .ok (.ladd, 1)) (h : JW G y k (pc + 1) L (.long (a + b) :: st) w r) : JW G y k pc L (.long b :: .long a :: st) w r :=
  fun p e s m args below meth c H locs ls C hS hW hM hl => lv_ladd C.1 C.2.1 hd (h p e s m args below meth c H locs ls C hS hW hM hl)
theorem J_lsub {a b : Int64} (hd : decode y.2.1 pc = .ok (.lsub, 1)) (h : JW G y k (pc + 1) L (.long (a - b) :: st) w r) : JW G y k pc L (.long b :: .long a :: st) w r :=
  fun p e s m args below meth c H locs ls C hS hW hM hl => lv_lsub C.1 C.2.1 hd (h p e s m args below meth c H locs ls C hS hW hM hl)
theorem J_lmul {a b : Int64} (hd : decode y.2.1 pc = .ok (.lmul, 1)) (h : JW G y k (pc + 1) L (.long (a * b) :: st) w r) : JW G y k pc L (.long b :: .long a :: st) w r :=
  fun p e s m args below meth c H locs ls C hS hW hM hl => lv_lmul C.1 C.2.1 hd (h p e s m args below meth c H locs ls C hS hW hM hl)
theorem J_land {a b : Int64} (hd : decode y.2.1 pc = .ok (.land, 1)) (h : JW G y k (pc + 1) L (.long (a &&& b) :: st) w r) : JW G y k pc L (.long b :: .long a :: st) w r :=
  fun p e s m args below meth c H locs ls C hS hW hM hl => lv_land C.1 C.2.1 hd (h p e s m args below meth c H locs ls C hS hW hM hl)
theorem J_lor {a b : Int64} (hd : decode y.2.1 pc = .ok (.lor, 1)) (h : JW G y k (pc + 1) L (.long (a ||| b) :: st) w r) : JW G y k pc L (.long b :: .long a :: st) w r :=
  fun p e s m args below meth c H locs ls C hS hW hM hl => lv_lor C.1 C.2.1 hd (h p e s m args below meth c H locs ls C hS hW hM hl)
theorem J_idiv {a b : Int32} (hd : decode y.2.1 pc = .ok (.idiv, 1)) (hb : ¬ b = 0) (h : JW G y k (pc + 1) L (.int (a / b) :: st) w r) : JW G y k pc L (.int b :: .int a :: st) w r :=
  fun p e s m args below meth c H locs ls C hS hW hM hl => lv_idiv C.1 C.2.1 hd hb (h p e s m args below meth c H locs ls C hS hW hM hl)
theorem J_ldiv {a b : Int64} (hd : decode y.2.1 pc = .ok (.ldiv, 1)) (hb : ¬ b = 0) (h : JW G y k (pc + 1) L (.long (a / b) :: st) w r) : JW G y k pc L (.long b :: .long a :: st) w r :=
  fun p e s m args below meth c H locs ls C hS hW hM hl => lv_ldiv C.1 C.2.1 hd hb (h p e s m args below meth c H locs ls C hS hW hM hl)
theorem J_lneg {a : Int64} (hd : decode y.2.1 pc = .ok (.lneg, 1)) (h : JW G y k (pc + 1) L (.long (-a) :: st) w r) : JW G y k pc L (.long a :: st) w r :=
  fun p e s m args below meth c H locs ls C hS hW hM hl => lv_lneg C.1 C.2.1 hd (h p e s m args below meth c H locs ls C hS hW hM hl)
theorem J_i2l {a : Int32} (hd : decode y.2.1 pc = .ok (.i2l, 1)) (h : JW G y k (pc + 1) L (.long a.toInt64 :: st) w r) : JW G y k pc L (.int a :: st) w r :=
  fun p e s m args below meth c H locs ls C hS hW hM hl => lv_i2l C.1 C.2.1 hd rfl (h p e s m args below meth c H locs ls C hS hW hM hl)
theorem J_lshl {a : Int64} {b : Int32} {v : Int64} (hd : decode y.2.1 pc = .ok (.lshl, 1)) (hv : a <<< (b.toInt64 &&& 63) = v) (h : JW G y k (pc + 1) L (.long v :: st) w r) : JW G y k pc L (.int b :: .long a :: st) w r :=
  fun p e s m args below meth c H locs ls C hS hW hM hl => lv_lshl C.1 C.2.1 hd hv (h p e s m args below meth c H locs ls C hS hW hM hl)
theorem J_lcmp {a b : Int64} (hd : decode y.2.1 pc = .ok (.lcmp, 1)) (h : JW G y k (pc + 1) L (.int (lg_cmp a b) :: st) w r) : JW G y k pc L (.long b :: .long a :: st) w r :=
  fun p e s m args below meth c H locs ls C hS hW hM hl => W.lcmp C.1 C.2.1 hd (h p e s m args below meth c H locs ls C hS hW hM hl)
theorem J_dup {i : Nat} (hd : decode y.2.1 pc = .ok (.dup, 1)) (h : JW G y k (pc + 1) L (.ref i :: .ref i :: st) w r) : JW G y k pc L (.ref i :: st) w r :=
  fun p e s m args below meth c H locs ls C hS hW hM hl => lv_dup C.1 C.2.1 hd rfl (h p e s m args below meth c H locs ls C hS hW hM hl)
theorem J_goto {off : Int} {tgt : Nat} (hd : decode y.2.1 pc = .ok (.goto off, 3)) (ht : (pc : Int) + off = (tgt : Int)) (h : JW G y k tgt L st w r) : JW G y k pc L st w r :=
  fun p e s m args below meth c H locs ls C hS hW hM hl => lv_goto C.1 C.2.1 hd ht (h p e s m args below meth c H locs ls C hS hW hM hl)
theorem J_if_eq {x : Int32} {off : Int} {tgt : Nat} (hd : decode y.2.1 pc = .ok (.ifCond .eq off, 3)) (ht : (pc : Int) + off = (tgt : Int)) (kt : x = 0 → JW G y k tgt L st w r) (kf : ¬ x = 0 → JW G y k (pc + 3) L st w r) : JW G y k pc L (.int x :: st) w r :=
  fun p e s m args below meth c H locs ls C hS hW hM hl => lv_if_eq C.1 C.2.1 hd ht (fun q => kt q p e s m args below meth c H locs ls C hS hW hM hl) (fun q => kf q p e s m args below meth c H locs ls C hS hW hM hl)
theorem J_if_ne {x : Int32} {off : Int} {tgt : Nat} (hd : decode y.2.1 pc = .ok (.ifCond .ne off, 3)) (ht : (pc : Int) + off = (tgt : Int)) (kt : ¬ x = 0 → JW G y k tgt L st w r) (kf : ¬ (¬ x = 0) → JW G y k (pc + 3) L st w r) : JW G y k pc L (.int x :: st) w r :=
  fun p e s m args below meth c H locs ls C hS hW hM hl => lv_if_ne C.1 C.2.1 hd ht (fun q => kt q p e s m args below meth c H locs ls C hS hW hM hl) (fun q => kf (fun z => z q) p e s m args below meth c H locs ls C hS hW hM hl)
theorem J_if_lt {x : Int32} {off : Int} {tgt : Nat} (hd : decode y.2.1 pc = .ok (.ifCond .lt off, 3)) (ht : (pc : Int) + off = (tgt : Int)) (kt : x < 0 → JW G y k tgt L st w r) (kf : ¬ x < 0 → JW G y k (pc + 3) L st w r) : JW G y k pc L (.int x :: st) w r :=
  fun p e s m args below meth c H locs ls C hS hW hM hl => lv_if_lt C.1 C.2.1 hd ht (fun q => kt q p e s m args below meth c H locs ls C hS hW hM hl) (fun q => kf q p e s m args below meth c H locs ls C hS hW hM hl)
theorem J_if_ge {x : Int32} {off : Int} {tgt : Nat} (hd : decode y.2.1 pc = .ok (.ifCond .ge off, 3)) (ht : (pc : Int) + off = (tgt : Int)) (kt : 0 ≤ x → JW G y k tgt L st w r) (kf : ¬ 0 ≤ x → JW G y k (pc + 3) L st w r) : JW G y k pc L (.int x :: st) w r :=
  fun p e s m args below meth c H locs ls C hS hW hM hl => lv_if_ge C.1 C.2.1 hd ht (fun q => kt q p e s m args below meth c H locs ls C hS hW hM hl) (fun q => kf q p e s m args below meth c H locs ls C hS hW hM hl)
theorem J_if_gt {x : Int32} {off : Int} {tgt : Nat} (hd : decode y.2.1 pc = .ok (.ifCond .gt off, 3)) (ht : (pc : Int) + off = (tgt : Int)) (kt : 0 < x → JW G y k tgt L st w r) (kf : ¬ 0 < x → JW G y k (pc + 3) L st w r) : JW G y k pc L (.int x :: st) w r :=
  fun p e s m args below meth c H locs ls C hS hW hM hl => lv_if_gt C.1 C.2.1 hd ht (fun q => kt q p e s m args below meth c H locs ls C hS hW hM hl) (fun q => kf q p e s m args below meth c H locs ls C hS hW hM hl)
theorem J_if_le {x : Int32} {off : Int} {tgt : Nat} (hd : decode y.2.1 pc = .ok (.ifCond .le off, 3)) (ht : (pc : Int) + off = (tgt : Int)) (kt : x ≤ 0 → JW G y k tgt L st w r) (kf : ¬ x ≤ 0 → JW G y k (pc + 3) L st w r) : JW G y k pc L (.int x :: st) w r :=
  fun p e s m args below meth c H locs ls C hS hW hM hl => lv_if_le C.1 C.2.1 hd ht (fun q => kt q p e s m args below meth c H locs ls C hS hW hM hl) (fun q => kf q p e s m args below meth c H locs ls C hS hW hM hl)
theorem J_icmp_eq {x z : Int32} {off : Int} {tgt : Nat} (hd : decode y.2.1 pc = .ok (.if_icmp .eq off, 3)) (ht : (pc : Int) + off = (tgt : Int)) (kt : x = z → JW G y k tgt L st w r) (kf : ¬ x = z → JW G y k (pc + 3) L st w r) : JW G y k pc L (.int z :: .int x :: st) w r :=
  fun p e s m args below meth c H locs ls C hS hW hM hl => lv_icmp_eq C.1 C.2.1 hd ht (fun q => kt q p e s m args below meth c H locs ls C hS hW hM hl) (fun q => kf q p e s m args below meth c H locs ls C hS hW hM hl)
theorem J_icmp_ne {x z : Int32} {off : Int} {tgt : Nat} (hd : decode y.2.1 pc = .ok (.if_icmp .ne off, 3)) (ht : (pc : Int) + off = (tgt : Int)) (kt : ¬ x = z → JW G y k tgt L st w r) (kf : ¬ (¬ x = z) → JW G y k (pc + 3) L st w r) : JW G y k pc L (.int z :: .int x :: st) w r :=
  fun p e s m args below meth c H locs ls C hS hW hM hl => lv_icmp_ne C.1 C.2.1 hd ht (fun q => kt q p e s m args below meth c H locs ls C hS hW hM hl) (fun q => kf (fun z => z q) p e s m args below meth c H locs ls C hS hW hM hl)
theorem J_icmp_lt {x z : Int32} {off : Int} {tgt : Nat} (hd : decode y.2.1 pc = .ok (.if_icmp .lt off, 3)) (ht : (pc : Int) + off = (tgt : Int)) (kt : x < z → JW G y k tgt L st w r) (kf : ¬ x < z → JW G y k (pc + 3) L st w r) : JW G y k pc L (.int z :: .int x :: st) w r :=
  fun p e s m args below meth c H locs ls C hS hW hM hl => lv_icmp_lt C.1 C.2.1 hd ht (fun q => kt q p e s m args below meth c H locs ls C hS hW hM hl) (fun q => kf q p e s m args below meth c H locs ls C hS hW hM hl)
theorem J_icmp_ge {x z : Int32} {off : Int} {tgt : Nat} (hd : decode y.2.1 pc = .ok (.if_icmp .ge off, 3)) (ht : (pc : Int) + off = (tgt : Int)) (kt : z ≤ x → JW G y k tgt L st w r) (kf : ¬ z ≤ x → JW G y k (pc + 3) L st w r) : JW G y k pc L (.int z :: .int x :: st) w r :=
  fun p e s m args below meth c H locs ls C hS hW hM hl => lv_icmp_ge C.1 C.2.1 hd ht (fun q => kt q p e s m args below meth c H locs ls C hS hW hM hl) (fun q => kf q p e s m args below meth c H locs ls C hS hW hM hl)
theorem J_icmp_gt {x z : Int32} {off : Int} {tgt : Nat} (hd : decode y.2.1 pc = .ok (.if_icmp .gt off, 3)) (ht : (pc : Int) + off = (tgt : Int)) (kt : z < x → JW G y k tgt L st w r) (kf : ¬ z < x → JW G y k (pc + 3) L st w r) : JW G y k pc L (.int z :: .int x :: st) w r :=
  fun p e s m args below meth c H locs ls C hS hW hM hl => lv_icmp_gt C.1 C.2.1 hd ht (fun q => kt q p e s m args below meth c H locs ls C hS hW hM hl) (fun q => kf q p e s m args below meth c H locs ls C hS hW hM hl)
theorem J_icmp_le {x z : Int32} {off : Int} {tgt : Nat} (hd : decode y.2.1 pc = .ok (.if_icmp .le off, 3)) (ht : (pc : Int) + off = (tgt : Int)) (kt : x ≤ z → JW G y k tgt L st w r) (kf : ¬ x ≤ z → JW G y k (pc + 3) L st w r) : JW G y k pc L (.int z :: .int x :: st) w r :=
  fun p e s m args below meth c H locs ls C hS hW hM hl => lv_icmp_le C.1 C.2.1 hd ht (fun q => kt q p e s m args below meth c H locs ls C hS hW hM hl) (fun q => kf q p e s m args below meth c H locs ls C hS hW hM hl)
theorem J_lif_eq {a b : Int64} {off : Int} {tgt : Nat} (hd : decode y.2.1 pc = .ok (.ifCond .eq off, 3)) (ht : (pc : Int) + off = (tgt : Int)) (kt : a = b → JW G y k tgt L st w r) (kf : ¬ a = b → JW G y k (pc + 3) L st w r) : JW G y k pc L (.int (lg_cmp a b) :: st) w r :=
  J_if_eq hd ht (fun q => kt ((lg_cmp_eq a b).mp q)) (fun q => kf (fun q2 => q ((lg_cmp_eq a b).mpr q2)))
theorem J_lif_lt {a b : Int64} {off : Int} {tgt : Nat} (hd : decode y.2.1 pc = .ok (.ifCond .lt off, 3)) (ht : (pc : Int) + off = (tgt : Int)) (kt : a < b → JW G y k tgt L st w r) (kf : ¬ a < b → JW G y k (pc + 3) L st w r) : JW G y k pc L (.int (lg_cmp a b) :: st) w r :=
  J_if_lt hd ht (fun q => kt ((lg_cmp_lt a b).mp q)) (fun q => kf (fun q2 => q ((lg_cmp_lt a b).mpr q2)))
theorem J_lif_ge {a b : Int64} {off : Int} {tgt : Nat} (hd : decode y.2.1 pc = .ok (.ifCond .ge off, 3)) (ht : (pc : Int) + off = (tgt : Int)) (kt : b ≤ a → JW G y k tgt L st w r) (kf : ¬ b ≤ a → JW G y k (pc + 3) L st w r) : JW G y k pc L (.int (lg_cmp a b) :: st) w r :=
  J_if_ge hd ht (fun q => kt ((lg_cmp_ge a b).mp q)) (fun q => kf (fun q2 => q ((lg_cmp_ge a b).mpr q2)))
theorem J_lif_gt {a b : Int64} {off : Int} {tgt : Nat} (hd : decode y.2.1 pc = .ok (.ifCond .gt off, 3)) (ht : (pc : Int) + off = (tgt : Int)) (kt : b < a → JW G y k tgt L st w r) (kf : ¬ b < a → JW G y k (pc + 3) L st w r) : JW G y k pc L (.int (lg_cmp a b) :: st) w r :=
  J_if_gt hd ht (fun q => kt ((lg_cmp_gt a b).mp q)) (fun q => kf (fun q2 => q ((lg_cmp_gt a b).mpr q2)))
theorem J_lif_le {a b : Int64} {off : Int} {tgt : Nat} (hd : decode y.2.1 pc = .ok (.ifCond .le off, 3)) (ht : (pc : Int) + off = (tgt : Int)) (kt : a ≤ b → JW G y k tgt L st w r) (kf : ¬ a ≤ b → JW G y k (pc + 3) L st w r) : JW G y k pc L (.int (lg_cmp a b) :: st) w r :=
  J_if_le hd ht (fun q => kt ((lg_cmp_le a b).mp q)) (fun q => kf (fun q2 => q ((lg_cmp_le a b).mpr q2)))
theorem J_lif_ne {a b : Int64} {off : Int} {tgt : Nat} (hd : decode y.2.1 pc = .ok (.ifCond .ne off, 3)) (ht : (pc : Int) + off = (tgt : Int)) (kt : ¬ a = b → JW G y k tgt L st w r) (kf : a = b → JW G y k (pc + 3) L st w r) : JW G y k pc L (.int (lg_cmp a b) :: st) w r :=
  J_if_ne hd ht (fun q => kt (fun q2 => q ((lg_cmp_eq a b).mpr q2))) (fun q => kf ((lg_cmp_eq a b).mp (Classical.not_not.mp q)))
theorem J_tableOut {dflt lo hi : Int} {offs : Array Int} {len : Nat} {x : Int32} {tgt : Nat} (hd : decode y.2.1 pc = .ok (.tableswitch dflt lo hi offs, len)) (hx : x.toInt < lo ∨ hi < x.toInt) (ht : (pc : Int) + dflt = (tgt : Int)) (h : JW G y k tgt L st w r) : JW G y k pc L (.int x :: st) w r :=
  fun p e s m args below meth c H locs ls C hS hW hM hl => lv_tableOut C.1 C.2.1 hd hx ht (h p e s m args below meth c H locs ls C hS hW hM hl)
theorem J_tableIn {dflt lo hi : Int} {offs : Array Int} {len : Nat} {x : Int32} {off : Int} {tgt : Nat} (hd : decode y.2.1 pc = .ok (.tableswitch dflt lo hi offs, len)) (h1 : ¬ x.toInt < lo) (h2 : ¬ hi < x.toInt) (ho : offs[(x.toInt - lo).toNat]? = some off) (ht : (pc : Int) + off = (tgt : Int)) (h : JW G y k tgt L st w r) : JW G y k pc L (.int x :: st) w r :=
  fun p e s m args below meth c H locs ls C hS hW hM hl => lv_tableIn C.1 C.2.1 hd h1 h2 ho ht (h p e s m args below meth c H locs ls C hS hW hM hl)
/-- a field's place: the class's number and the field's, its words among the tables' -/
def xfl (own : String) (index ci j : Nat) : Prop := ∃ (C : String) (T : u_T) (N : Nat), xcl[ci]? = some (C, T, N) ∧ j < N ∧ Cond.fieldLink own index (T j).1 (T j).2.1 (T j).2.2.1 ∈ xTw ∧ (∀ w ∈ u_ws C T N, w ∈ xTw)
/-- a class of the picture: types of its fields -/
def xty (ci : Nat) (ty0 : Nat → FieldType) : Prop := ∀ (C : String) (T : u_T) (N : Nat), xcl[ci]? = some (C, T, N) → (∀ k, k < N → parseFieldDescriptor (T k).2.2.1 = some (ty0 k)) ∧ (∀ a, a < N → ∀ b, b < N → a ≠ b → (T a).2.1 ≠ (T b).2.1)
theorem J_get {i ci j index : Nat} {fs : List Value} {v : Value} (hd : decode y.2.1 pc = .ok (.getfield index, 3)) (hf : xfl y.1.cls index ci j) (hi : w.2[i]? = some (.inr (ci, fs))) (hv : fs[j]? = some v) (h : JW G y k (pc + 3) L (v :: st) w r) : JW G y k pc L (.ref i :: st) w r := by
  intro p e s m args below meth c H locs ls C hS hW hM hl
  obtain ⟨Cn, T, N, h1, h2, h3, h4⟩ := hf
  exact va_get (D := gD G) (cl := xcl) (tys := gT G) (ci := ci) (v := xv G v) (C := Cn) (T := T) (N := N) C.1 C.2.1 C.2.2.2.2.2.1 h4 C.2.2.2.2.1 C.2.2.2.2.2.2.2.2.1.2.2.1 hW i (xws_get hi) h1 j h2 (C.2.2.2.2.2.1 _ h3) (fun _ q => q) (by rw [List.getElem?_map, hv]; rfl) hd (h p e s m args below meth c H locs ls C hS hW hM hl)
/-- the mode behind a write -/
def xdn (n : Nat) : Nat := if n = 2 then 2 else 0
theorem xM_set {G : xG} {k : Nat × Nat} {w : xH} {s : State} {H H1 : Heap} {locs locs1 : List Loc} (h : xM G k w s H locs) (i : Nat) (c : va_E) : xM G k (xdn w.1, w.2.set i c) s H1 locs1 := by
  obtain ⟨n, hs⟩ := w
  unfold xdn
  by_cases hn : n = 2
  · subst hn
    exact ⟨fun q => (by cases q), fun _ => (by have := h.2 rfl; simpa using this)⟩
  · simp only [hn, if_false]
    exact ⟨fun q => (by cases q), fun q => (by cases q)⟩
theorem J_put {i ci j index : Nat} {fs : List Value} {v : Value} {ty0 : Nat → FieldType} (hd : decode y.2.1 pc = .ok (.putfield index, 3)) (hf : xfl y.1.cls index ci j) (ht : xty ci ty0) (hfin : ∀ (C : String) (T : u_T) (N : Nat), xcl[ci]? = some (C, T, N) → (T j).2.2.2 = false) (hn : narrow (ty0 j) (xv G v) = xv G v) (hfit : fits (ty0 j) (xv G v) = true) (hi : w.2[i]? = some (.inr (ci, fs))) (hjl : j < fs.length) (h : JW G y k (pc + 3) L st (xdn w.1, w.2.set i (.inr (ci, fs.set j v))) r) : JW G y k pc L (v :: .ref i :: st) w r := by
  intro p e s m args below meth c H locs ls C hS hW hM hl
  obtain ⟨Cn, T, N, h1, h2, h3, h4⟩ := hf
  obtain ⟨t1, t2⟩ := ht Cn T N h1
  refine va_put (D := gD G) (cl := xcl) (tys := gT G) (ci := ci) (v := xv G v) (ty := ty0 j) (C := Cn) (T := T) (N := N) C.1 C.2.1 C.2.2.2.2.2.1 h4 ty0 t1 t2 C.2.2.2.2.1 C.2.2.2.2.2.2.2.2.1.2.2.1 hW (xD G w.2) hS i (xws_get hi) h1 j h2 (C.2.2.2.2.2.1 _ h3) (fun _ q => q) (hfin Cn T N h1) (t1 j h2) hn hfit (by simpa using hjl) hd (fun H1 locs1 hP1 _ hS1 => ?_)
  refine h p e s m args below meth c H1 locs1 ls C hS1 ?_ (xM_set hM i _) hl
  show va_P (gD G) xcl (xws G (w.2.set i (.inr (ci, fs.set j v)))) H1
  rw [xws_set]
  have : xe G (.inr (ci, fs.set j v)) = .inr (ci, (fs.map (xv G)).set j (xv G v)) := by show Sum.inr (ci, (fs.set j v).map (xv G)) = _; rw [List.map_set]
  rw [this]
  exact hP1
theorem J_putF {i ci j index : Nat} {fs : List Value} {v : Value} {ty0 : Nat → FieldType} (hd : decode y.2.1 pc = .ok (.putfield index, 3)) (hf : xfl y.1.cls index ci j) (ht : xty ci ty0) (hfin : ∀ (C : String) (T : u_T) (N : Nat), xcl[ci]? = some (C, T, N) → (T j).2.2.2 = true ∧ (T j).1 = y.1.cls) (hinit : y.1.name = "<init>") (hn : narrow (ty0 j) (xv G v) = xv G v) (hfit : fits (ty0 j) (xv G v) = true) (hi : w.2[i]? = some (.inr (ci, fs))) (hjl : j < fs.length) (h : JW G y k (pc + 3) L st (xdn w.1, w.2.set i (.inr (ci, fs.set j v))) r) : JW G y k pc L (v :: .ref i :: st) w r := by
  intro p e s m args below meth c H locs ls C hS hW hM hl
  obtain ⟨Cn, T, N, h1, h2, h3, h4⟩ := hf
  obtain ⟨t1, t2⟩ := ht Cn T N h1
  refine va_putF (D := gD G) (cl := xcl) (tys := gT G) (ci := ci) (v := xv G v) (ty := ty0 j) (C := Cn) (T := T) (N := N) C.1 C.2.1 C.2.2.2.2.2.1 h4 ty0 t1 t2 C.2.2.2.2.1 C.2.2.2.2.2.2.2.2.1.2.2.1 hW (xD G w.2) hS i (xws_get hi) h1 j h2 (C.2.2.2.2.2.1 _ h3) (fun _ q => q) (hfin Cn T N h1).1 (C.2.2.2.2.2.2.2.2.2.trans hinit) (hfin Cn T N h1).2 (t1 j h2) hn hfit (by simpa using hjl) hd (fun H1 locs1 hP1 _ hS1 => ?_)
  refine h p e s m args below meth c H1 locs1 ls C hS1 ?_ (xM_set hM i _) hl
  show va_P (gD G) xcl (xws G (w.2.set i (.inr (ci, fs.set j v)))) H1
  rw [xws_set]
  have : xe G (.inr (ci, fs.set j v)) = .inr (ci, (fs.map (xv G)).set j (xv G v)) := by show Sum.inr (ci, (fs.set j v).map (xv G)) = _; rw [List.map_set]
  rw [this]
  exact hP1
theorem J_iald {i n t : Nat} {f : Nat → Int32} {x : Int32} (hd : decode y.2.1 pc = .ok (.iaload, 1)) (ht : ∃ cA, (gT G)[t]? = some (cA, .int)) (hi : w.2[i]? = some (.inl (t, n, .inl f))) (hx : vp_in x n) (h : JW G y k (pc + 1) L (.int (f x.toNatClampNeg) :: st) w r) : JW G y k pc L (.int x :: .ref i :: st) w r := by
  intro p e s m args below meth c H locs ls C hS hW hM hl
  obtain ⟨cA, ht⟩ := ht
  have e0 : ((gT G).getD t (0, .int)).1 = cA := by rw [List.getD_eq_getElem?_getD, ht]; rfl
  have he : (xws G w.2)[i]? = some (gb G + i, .inl (cA, n, .inl f)) := by rw [xws_get hi, ← e0]; rfl
  exact va_iald (D := gD G) (cl := xcl) (tys := gT G) C.1 C.2.1 C.2.2.2.2.2.2.2.2.1.2.2.1 hW i t he ht hx hd (h p e s m args below meth c H locs ls C hS hW hM hl)
theorem J_zald {i n t : Nat} {f : Nat → Int32} {x : Int32} (hd : decode y.2.1 pc = .ok (.baload, 1)) (ht : ∃ cA, (gT G)[t]? = some (cA, .boolean)) (hi : w.2[i]? = some (.inl (t, n, .inl f))) (hx : vp_in x n) (h : JW G y k (pc + 1) L (.int (f x.toNatClampNeg) :: st) w r) : JW G y k pc L (.int x :: .ref i :: st) w r := by
  intro p e s m args below meth c H locs ls C hS hW hM hl
  obtain ⟨cA, ht⟩ := ht
  have e0 : ((gT G).getD t (0, .int)).1 = cA := by rw [List.getD_eq_getElem?_getD, ht]; rfl
  have he : (xws G w.2)[i]? = some (gb G + i, .inl (cA, n, .inl f)) := by rw [xws_get hi, ← e0]; rfl
  exact va_zald (D := gD G) (cl := xcl) (tys := gT G) C.1 C.2.1 C.2.2.2.2.2.2.2.2.1.2.2.1 hW i t he ht hx hd (h p e s m args below meth c H locs ls C hS hW hM hl)
theorem J_lald {i n t : Nat} {f : Nat → Int64} {x : Int32} (hd : decode y.2.1 pc = .ok (.laload, 1)) (ht : ∃ cA, (gT G)[t]? = some (cA, .long)) (hi : w.2[i]? = some (.inl (t, n, .inr (.inl f)))) (hx : vp_in x n) (h : JW G y k (pc + 1) L (.long (f x.toNatClampNeg) :: st) w r) : JW G y k pc L (.int x :: .ref i :: st) w r := by
  intro p e s m args below meth c H locs ls C hS hW hM hl
  obtain ⟨cA, ht⟩ := ht
  have e0 : ((gT G).getD t (0, .int)).1 = cA := by rw [List.getD_eq_getElem?_getD, ht]; rfl
  have he : (xws G w.2)[i]? = some (gb G + i, .inl (cA, n, .inr (.inl f))) := by rw [xws_get hi, ← e0]; rfl
  exact va_lald (D := gD G) (cl := xcl) (tys := gT G) C.1 C.2.1 C.2.2.2.2.2.2.2.2.1.2.2.1 hW i t he ht hx hd (h p e s m args below meth c H locs ls C hS hW hM hl)
theorem J_aald {i n t i2 : Nat} {f : Nat → Option Nat} {x : Int32} (hd : decode y.2.1 pc = .ok (.aaload, 1)) (ht : ∃ cA C, (gT G)[t]? = some (cA, .object C)) (hi : w.2[i]? = some (.inl (t, n, .inr (.inr (.inr (.inr f)))))) (hx : vp_in x n) (hf : f x.toNatClampNeg = some i2) (h : JW G y k (pc + 1) L (.ref i2 :: st) w r) : JW G y k pc L (.int x :: .ref i :: st) w r := by
  intro p e s m args below meth c H locs ls C hS hW hM hl
  obtain ⟨cA, Cn, ht⟩ := ht
  have e0 : ((gT G).getD t (0, .int)).1 = cA := by rw [List.getD_eq_getElem?_getD, ht]; rfl
  have he : (xws G w.2)[i]? = some (gb G + i, .inl (cA, n, .inr (.inr (.inr (.inr (fun j => (f j).map (fun i => gb G + i))))))) := by rw [xws_get hi, ← e0]; rfl
  refine va_aldq (D := gD G) (cl := xcl) (tys := gT G) C.1 C.2.1 C.2.2.2.2.2.2.2.2.1.2.2.1 hW i t he ht hx hd ?_
  show W p (gl G) e y.2.2.2.2.1 s m args below meth c H locs k.1 k.2 (xZ G r below s) (F0 m (pc + 1) ls (va_rf ((f x.toNatClampNeg).map (fun i => gb G + i)) :: st.map (xv G)))
  rw [hf]
  exact h p e s m args below meth c H locs ls C hS hW hM hl
theorem J_iast {i n t : Nat} {f : Nat → Int32} {x : Int32} {v : Int32} (hd : decode y.2.1 pc = .ok (.iastore, 1)) (ht : ∃ cA, (gT G)[t]? = some (cA, .int)) (hi : w.2[i]? = some (.inl (t, n, .inl f))) (hx : vp_in x n) (h : JW G y k (pc + 1) L st (xdn w.1, w.2.set i (.inl (t, n, .inl (upd f x.toNatClampNeg v)))) r) : JW G y k pc L (.int v :: .int x :: .ref i :: st) w r := by
  intro p e s m args below meth c H locs ls C hS hW hM hl
  obtain ⟨cA, ht⟩ := ht
  have e0 : ((gT G).getD t (0, .int)).1 = cA := by rw [List.getD_eq_getElem?_getD, ht]; rfl
  have he : (xws G w.2)[i]? = some (gb G + i, .inl (cA, n, .inl f)) := by rw [xws_get hi, ← e0]; rfl
  refine va_iast (D := gD G) (cl := xcl) (tys := gT G) C.1 C.2.1 C.2.2.2.2.2.2.2.2.1.2.2.1 hW (xD G w.2) hS i t he ht hx hd (fun H1 locs1 hP1 _ hS1 => ?_)
  refine h p e s m args below meth c H1 locs1 ls C hS1 ?_ (xM_set hM i _) hl
  show va_P (gD G) xcl (xws G (w.2.set i (.inl (t, n, .inl (upd f x.toNatClampNeg v))))) H1
  rw [xws_set]
  have : xe G (.inl (t, n, .inl (upd f x.toNatClampNeg v))) = .inl (cA, n, .inl (upd f x.toNatClampNeg v)) := by rw [← e0]; rfl
  rw [this]
  exact hP1
theorem J_zast {i n t : Nat} {f : Nat → Int32} {x : Int32} {v : Int32} (hd : decode y.2.1 pc = .ok (.bastore, 1)) (ht : ∃ cA, (gT G)[t]? = some (cA, .boolean)) (hi : w.2[i]? = some (.inl (t, n, .inl f))) (hx : vp_in x n) (h : JW G y k (pc + 1) L st (xdn w.1, w.2.set i (.inl (t, n, .inl (upd f x.toNatClampNeg (vp_nar .boolean v))))) r) : JW G y k pc L (.int v :: .int x :: .ref i :: st) w r := by
  intro p e s m args below meth c H locs ls C hS hW hM hl
  obtain ⟨cA, ht⟩ := ht
  have e0 : ((gT G).getD t (0, .int)).1 = cA := by rw [List.getD_eq_getElem?_getD, ht]; rfl
  have he : (xws G w.2)[i]? = some (gb G + i, .inl (cA, n, .inl f)) := by rw [xws_get hi, ← e0]; rfl
  refine va_zast (D := gD G) (cl := xcl) (tys := gT G) C.1 C.2.1 C.2.2.2.2.2.2.2.2.1.2.2.1 hW (xD G w.2) hS i t he ht hx hd (fun H1 locs1 hP1 _ hS1 => ?_)
  refine h p e s m args below meth c H1 locs1 ls C hS1 ?_ (xM_set hM i _) hl
  show va_P (gD G) xcl (xws G (w.2.set i (.inl (t, n, .inl (upd f x.toNatClampNeg (vp_nar .boolean v)))))) H1
  rw [xws_set]
  have : xe G (.inl (t, n, .inl (upd f x.toNatClampNeg (vp_nar .boolean v)))) = .inl (cA, n, .inl (upd f x.toNatClampNeg (vp_nar .boolean v))) := by rw [← e0]; rfl
  rw [this]
  exact hP1
theorem J_last {i n t : Nat} {f : Nat → Int64} {x : Int32} {v : Int64} (hd : decode y.2.1 pc = .ok (.lastore, 1)) (ht : ∃ cA, (gT G)[t]? = some (cA, .long)) (hi : w.2[i]? = some (.inl (t, n, .inr (.inl f)))) (hx : vp_in x n) (h : JW G y k (pc + 1) L st (xdn w.1, w.2.set i (.inl (t, n, .inr (.inl (vp_updL f x.toNatClampNeg v))))) r) : JW G y k pc L (.long v :: .int x :: .ref i :: st) w r := by
  intro p e s m args below meth c H locs ls C hS hW hM hl
  obtain ⟨cA, ht⟩ := ht
  have e0 : ((gT G).getD t (0, .int)).1 = cA := by rw [List.getD_eq_getElem?_getD, ht]; rfl
  have he : (xws G w.2)[i]? = some (gb G + i, .inl (cA, n, .inr (.inl f))) := by rw [xws_get hi, ← e0]; rfl
  refine va_last (D := gD G) (cl := xcl) (tys := gT G) C.1 C.2.1 C.2.2.2.2.2.2.2.2.1.2.2.1 hW (xD G w.2) hS i t he ht hx hd (fun H1 locs1 hP1 _ hS1 => ?_)
  refine h p e s m args below meth c H1 locs1 ls C hS1 ?_ (xM_set hM i _) hl
  show va_P (gD G) xcl (xws G (w.2.set i (.inl (t, n, .inr (.inl (vp_updL f x.toNatClampNeg v)))))) H1
  rw [xws_set]
  have : xe G (.inl (t, n, .inr (.inl (vp_updL f x.toNatClampNeg v)))) = .inl (cA, n, .inr (.inl (vp_updL f x.toNatClampNeg v))) := by rw [← e0]; rfl
  rw [this]
  exact hP1
theorem J_aast {i n t i2 ci : Nat} {vs : List Value} {f : Nat → Option Nat} {x : Int32} {rr : vw_C} (hd : decode y.2.1 pc = .ok (.aastore, 1)) (hc : xcl[ci]? = some rr) (ht : ∃ cA, (gT G)[t]? = some (cA, .object rr.1)) (hi : w.2[i]? = some (.inl (t, n, .inr (.inr (.inr (.inr f)))))) (hi2 : w.2[i2]? = some (.inr (ci, vs))) (hx : vp_in x n) (h : JW G y k (pc + 1) L st (xdn w.1, w.2.set i (.inl (t, n, .inr (.inr (.inr (.inr (va_up f x.toNatClampNeg (some i2)))))))) r) : JW G y k pc L (.ref i2 :: .int x :: .ref i :: st) w r := by
  intro p e s m args below meth c H locs ls C hS hW hM hl
  obtain ⟨cA, ht⟩ := ht
  have e0 : ((gT G).getD t (0, .int)).1 = cA := by rw [List.getD_eq_getElem?_getD, ht]; rfl
  have he : (xws G w.2)[i]? = some (gb G + i, .inl (cA, n, .inr (.inr (.inr (.inr (fun j => (f j).map (fun i => gb G + i))))))) := by rw [xws_get hi, ← e0]; rfl
  refine va_astq (D := gD G) (cl := xcl) (tys := gT G) C.1 C.2.1 C.2.2.2.2.2.2.2.2.1.2.2.1 hW (xD G w.2) hS i t i2 ci he ht (xws_get hi2) hc hx hd (fun H1 locs1 hP1 _ hS1 => ?_)
  refine h p e s m args below meth c H1 locs1 ls C hS1 ?_ (xM_set hM i _) hl
  show va_P (gD G) xcl (xws G (w.2.set i (.inl (t, n, .inr (.inr (.inr (.inr (va_up f x.toNatClampNeg (some i2))))))))) H1
  rw [xws_set]
  have : xe G (.inl (t, n, .inr (.inr (.inr (.inr (va_up f x.toNatClampNeg (some i2))))))) = .inl (cA, n, .inr (.inr (.inr (.inr (va_up (fun j => (f j).map (fun i => gb G + i)) x.toNatClampNeg (some (gb G + i2))))))) := by
    rw [← e0]
    show Sum.inl (_, n, Sum.inr (Sum.inr (Sum.inr (Sum.inr _)))) = _
    congr 7
    funext j
    unfold va_up
    by_cases hj : j = x.toNatClampNeg <;> simp [hj]
  rw [this]
  exact hP1
theorem J_sald {x : Int32} {u : UInt32} (hd : decode y.2.1 pc = .ok (.iaload, 1)) (hx : vp_in x (gN G)) (h : JW G y k (pc + 1) L (.int (gx G x.toNatClampNeg) :: st) w r) : JW G y k pc L (.int x :: .float u :: st) w r := by
  intro p e s m args below meth c H locs ls C hS hW hM hl
  have K := C.2.2.2.2.2.2.2.2.1
  exact va_sld C.1 C.2.1 K.2.2.2.2.2.2.1 (Nat.lt_of_lt_of_le K.2.2.2.2.2.2.2.1 K.2.1) (Nat.not_le.mpr K.2.2.2.2.2.2.2.1) hS hx hd (h p e s m args below meth c H locs ls C hS hW hM hl)
theorem J_slen {u : UInt32} (hd : decode y.2.1 pc = .ok (.arraylength, 1)) (h : JW G y k (pc + 1) L (.int (Int32.ofNat (gN G)) :: st) w r) : JW G y k pc L (.float u :: st) w r := by
  intro p e s m args below meth c H locs ls C hS hW hM hl
  have K := C.2.2.2.2.2.2.2.2.1
  exact va_slen C.1 C.2.1 K.2.2.2.2.2.2.1 (Nat.lt_of_lt_of_le K.2.2.2.2.2.2.2.1 K.2.1) (Nat.not_le.mpr K.2.2.2.2.2.2.2.1) hS hd (h p e s m args below meth c H locs ls C hS hW hM hl)
end XJ
end
section
section XE
variable {G : xG} {y : xY} {k : Nat × Nat} {pc : Nat} {L : List (Nat × Value)} {st : List Value} {w : xH} {r : xR}
/-- a return, from what the kit's own rows leave -/
theorem xZ_ret {G : xG} {r : xR} {k : Nat × Nat} {w : xH} {below : List Frame} {s : State} {args : Array Value} {H : Heap} {locs : List Loc} {o0 : Option Value} (hr : r = (.inl o0, w, k)) (hS : va_S (xA G) s.heap H locs) (hW : xW G w.2 H) (hM : xM G k w s H locs) (t : State)
    (h : ∃ o, t.status = .running ∧ Ended t below o ∧ (o = .returned (o0.map (xv G)) ∧ t.heap = H ∧ s.WarmedH t.vm) ∧ s.sameButNew ({ t with vm := s.vm } : State) locs k.1 k.2) : xZ G r below s t := by
  obtain ⟨o, h1, h2, ⟨h3, h4, h5⟩, h6⟩ := h
  subst hr
  exact ⟨o, h1, h2, h3, by show xW G w.2 t.heap; rw [h4]; exact hW, hS.F h4, locs, h5, h6, hS.2.2, fun q => ⟨h4.trans (hM.1 q).1, (hM.1 q).2⟩⟩
/-- a method leaves with a value: the kit's 'leave', with the places that were written -/
theorem x_iret {p : Program} {l : Launch} {e : Env} {R : Room} {s : State} {m : MethodId} {args : Array Value} {below : List Frame} {meth : Method} {c : Code} {H : Heap} {locs : List Loc} {a b : Nat} {cc : ByteArray} {v : Int32} {ty : FieldType} (hexec : p.tables.exec = Jvm.exec) (hb : c.code = cc) (hr : meth.sig.returnType = some ty) (hn : narrow ty (.int v) = .int v) (hty : ty = .int ∨ ty = .boolean)
    {pc : Nat} {ls : Array Slot} (hdg : decode cc pc = .ok (.ireturn, 1)) (hlocks : meth.locks = false) : W p l e R s m args below meth c H locs a b (fun t => ∃ o, t.status = .running ∧ Ended t below o ∧ (o = .returned (some (.int v)) ∧ t.heap = H ∧ s.WarmedH t.vm) ∧ s.sameButNew ({ t with vm := s.vm } : State) locs a b) (F0 m pc ls [.int v]) := by
  intro T hT X
  obtain ⟨fs, hret, hrun, hended, hW, hframe⟩ := X.leave (v := some (.int v)) (hlocks := hlocks) (fun h => by rw [hr] at h; cases h)
  have hmeth' : T.vm.method? m = some meth := X.method'
  refine ⟨T.setFrames fs, ?_, .returned (some (.int v)), hrun, hended, ⟨rfl, hT, hW⟩, hframe⟩
  jvm_step X.here [X.here.top, hexec, hb, hdg, hmeth', hr, hn]
  (try refine ⟨rfl, ?_⟩); (try refine ⟨rfl, ?_⟩)
  first | (intro acts; rw [hret _ acts rfl rfl rfl]) | rw [hret _ _ rfl rfl rfl]
  exact Steps.refl _
theorem x_lret {p : Program} {l : Launch} {e : Env} {R : Room} {s : State} {m : MethodId} {args : Array Value} {below : List Frame} {meth : Method} {c : Code} {H : Heap} {locs : List Loc} {a b : Nat} {cc : ByteArray} {v : Int64} (hexec : p.tables.exec = Jvm.exec) (hb : c.code = cc) (hr : meth.sig.returnType = some .long)
    {pc : Nat} {ls : Array Slot} (hdg : decode cc pc = .ok (.lreturn, 1)) (hlocks : meth.locks = false) : W p l e R s m args below meth c H locs a b (fun t => ∃ o, t.status = .running ∧ Ended t below o ∧ (o = .returned (some (.long v)) ∧ t.heap = H ∧ s.WarmedH t.vm) ∧ s.sameButNew ({ t with vm := s.vm } : State) locs a b) (F0 m pc ls [.long v]) := by
  intro T hT X
  obtain ⟨fs, hret, hrun, hended, hW, hframe⟩ := X.leave (v := some (.long v)) (hlocks := hlocks) (fun h => by rw [hr] at h; cases h)
  have hmeth' : T.vm.method? m = some meth := X.method'
  refine ⟨T.setFrames fs, ?_, .returned (some (.long v)), hrun, hended, ⟨rfl, hT, hW⟩, hframe⟩
  jvm_step X.here [X.here.top, hexec, hb, hdg, hmeth', hr, narrow]
  (try refine ⟨rfl, ?_⟩); (try refine ⟨rfl, ?_⟩)
  first | (intro acts; rw [hret _ acts rfl rfl rfl]) | rw [hret _ _ rfl rfl rfl]
  exact Steps.refl _
theorem x_aret {p : Program} {l : Launch} {e : Env} {R : Room} {s : State} {m : MethodId} {args : Array Value} {below : List Frame} {meth : Method} {c : Code} {H : Heap} {locs : List Loc} {a b : Nat} {cc : ByteArray} {v : Nat} {n : String} (hexec : p.tables.exec = Jvm.exec) (hb : c.code = cc) (hr : meth.sig.returnType = some (.object n))
    {pc : Nat} {ls : Array Slot} (hdg : decode cc pc = .ok (.areturn, 1)) (hlocks : meth.locks = false) : W p l e R s m args below meth c H locs a b (fun t => ∃ o, t.status = .running ∧ Ended t below o ∧ (o = .returned (some (.ref v)) ∧ t.heap = H ∧ s.WarmedH t.vm) ∧ s.sameButNew ({ t with vm := s.vm } : State) locs a b) (F0 m pc ls [.ref v]) := by
  intro T hT X
  obtain ⟨fs, hret, hrun, hended, hW, hframe⟩ := X.leave (v := some (.ref v)) (hlocks := hlocks) (fun h => by rw [hr] at h; cases h)
  have hmeth' : T.vm.method? m = some meth := X.method'
  refine ⟨T.setFrames fs, ?_, .returned (some (.ref v)), hrun, hended, ⟨rfl, hT, hW⟩, hframe⟩
  jvm_step X.here [X.here.top, hexec, hb, hdg, hmeth', hr]
  (try refine ⟨rfl, ?_⟩); (try refine ⟨rfl, ?_⟩)
  first | (intro acts; rw [hret _ acts rfl rfl rfl]) | rw [hret _ _ rfl rfl rfl]
  exact Steps.refl _
theorem x_vret {p : Program} {l : Launch} {e : Env} {R : Room} {s : State} {m : MethodId} {args : Array Value} {below : List Frame} {meth : Method} {c : Code} {H : Heap} {locs : List Loc} {a b : Nat} {cc : ByteArray} (hexec : p.tables.exec = Jvm.exec) (hb : c.code = cc) (hr : meth.sig.returnType = none)
    {pc : Nat} {ls : Array Slot} (hdg : decode cc pc = .ok (.return_, 1)) (hlocks : meth.locks = false) : W p l e R s m args below meth c H locs a b (fun t => ∃ o, t.status = .running ∧ Ended t below o ∧ (o = .returned none ∧ t.heap = H ∧ s.WarmedH t.vm) ∧ s.sameButNew ({ t with vm := s.vm } : State) locs a b) (F0 m pc ls []) := by
  intro T hT X
  obtain ⟨fs, hret, hrun, hended, hW, hframe⟩ := X.leave (v := none) (hlocks := hlocks) (fun _ => rfl)
  have hmeth' : T.vm.method? m = some meth := X.method'
  refine ⟨T.setFrames fs, ?_, .returned none, hrun, hended, ⟨rfl, hT, hW⟩, hframe⟩
  jvm_step X.here [X.here.top, hexec, hb, hdg, hmeth', hr]
  (try refine ⟨rfl, ?_⟩); (try refine ⟨rfl, ?_⟩)
  first | (intro acts; rw [hret _ acts rfl rfl rfl]) | rw [hret _ _ rfl rfl rfl]
  exact Steps.refl _
theorem J_ireturn {v : Int32} (hd : decode y.2.1 pc = .ok (.ireturn, 1)) (hy : y.2.2.2.1 = some .int) (hr : r = (.inl (some (.int v)), w, k)) : JW G y k pc L [.int v] w r :=
  fun p e s m args below meth c H locs ls C hS hW hM hl => x_mono (xZ_ret (args := args) hr hS hW hM) (x_iret (ty := .int) C.1 C.2.1 (C.2.2.1.trans hy) rfl (Or.inl rfl) hd C.2.2.2.2.2.2.1)
theorem J_zreturn {v : Int32} (hd : decode y.2.1 pc = .ok (.ireturn, 1)) (hy : y.2.2.2.1 = some .boolean) (hv : narrow .boolean (.int v) = .int v) (hr : r = (.inl (some (.int v)), w, k)) : JW G y k pc L [.int v] w r :=
  fun p e s m args below meth c H locs ls C hS hW hM hl => x_mono (xZ_ret (args := args) hr hS hW hM) (x_iret (ty := .boolean) C.1 C.2.1 (C.2.2.1.trans hy) hv (Or.inr rfl) hd C.2.2.2.2.2.2.1)
theorem J_lreturn {v : Int64} (hd : decode y.2.1 pc = .ok (.lreturn, 1)) (hy : y.2.2.2.1 = some .long) (hr : r = (.inl (some (.long v)), w, k)) : JW G y k pc L [.long v] w r :=
  fun p e s m args below meth c H locs ls C hS hW hM hl => x_mono (xZ_ret (args := args) hr hS hW hM) (x_lret C.1 C.2.1 (C.2.2.1.trans hy) hd C.2.2.2.2.2.2.1)
theorem J_areturn {i : Nat} {n : String} (hd : decode y.2.1 pc = .ok (.areturn, 1)) (hy : y.2.2.2.1 = some (.object n)) (hr : r = (.inl (some (.ref i)), w, k)) : JW G y k pc L [.ref i] w r :=
  fun p e s m args below meth c H locs ls C hS hW hM hl => x_mono (xZ_ret (args := args) hr hS hW hM) (x_aret C.1 C.2.1 (C.2.2.1.trans hy) hd C.2.2.2.2.2.2.1)
theorem J_return (hd : decode y.2.1 pc = .ok (.return_, 1)) (hy : y.2.2.2.1 = none) (hr : r = (.inl none, w, k)) : JW G y k pc L [] w r :=
  fun p e s m args below meth c H locs ls C hS hW hM hl => x_mono (xZ_ret (args := args) hr hS hW hM) (x_vret C.1 C.2.1 (C.2.2.1.trans hy) hd C.2.2.2.2.2.2.1)
/-- the two words of the statics, out of the world -/
theorem xZq_isRef {C n d : String} {A : Nat → Prop} {U : State} {args : Array Value} (h : va_Zq C n d A U U.heap) : (Cond.isRef (.static C n d)).before args U = true := by
  rcases h with h | ⟨t, h⟩
  · obtain ⟨cf, kf, fi, f, a, cell, h1, h2, h3, h4, h5, h6, h7, h8⟩ := h
    simp [Cond.before, Cond.holds, Cond.value, Term.eval, State.fieldNamed?, h1, h2, h4, h5, h6, h7, Value.isRef]
  · obtain ⟨cf, kf, fi, f, a, cell, h1, h2, h3, h4, h5, h6, h7, h8⟩ := h
    simp [Cond.before, Cond.holds, Cond.value, Term.eval, State.fieldNamed?, h1, h2, h4, h5, h6, h7, Value.isRef]
/-- 'new E; dup; ldc; invokespecial; athrow', nothing written before: the words of the throw -/
def xth (own : String) (ik ic : Nat) (E : String) (names : List String) : Prop :=
  (∀ a ∈ Bundle.ownAtoms own ic E names, a ∈ xTw ∨ a = .isRef (.static "java/lang/Throwable" "UNASSIGNED_STACK" "[Ljava/lang/StackTraceElement;") ∨ a = .isRef (.static "java/lang/Throwable" "SUPPRESSED_SENTINEL" "Ljava/util/List;") ∨ a = .laysStatic "java/lang/Throwable" "UNASSIGNED_STACK" "[Ljava/lang/StackTraceElement;" ∨ a = .laysStatic "java/lang/Throwable" "SUPPRESSED_SENTINEL" "Ljava/util/List;" ∨ (∃ q ∈ xTk, a = .castable q.1 q.2) ∨ (∃ q ∈ xTd, a = .declares q)) ∧ Cond.classLink own ik E ∈ xTw ∧ Cond.instantiable E 6 ∈ xTw ∧ Cond.initialized E ∈ xTw ∧ Bundle.fit E = true ∧ (∀ n ∈ names, Bundle.fit n = true) ∧ names.length ≤ 3
/-- the room that a throw needs -/
def xthR (R : Room) : Prop := 7 ≤ R.frames ∧ 110 ≤ R.locals ∧ 1 ≤ R.cells ∧ 6 ≤ R.slots
theorem x_throw {own : String} {ik ic : Nat} {E : String} {names : List String} {p : Program} {e : Env} {s : State} {m : MethodId} {args : Array Value} {below : List Frame} {meth : Method} {c : Code} {ls : Array Slot} {pc pc6 : Nat} {q0 : Nat}
    (hown : own = y.1.cls) (hth : xth own ik ic E names) (hR : xthR y.2.2.2.2.1) (hhh : y.2.2.2.2.2 = []) (hr : r = (.inr E, (0, w.2), (1, 6))) (C : xC G y p s m args meth c) (hW : xW G w.2 s.heap) (hl : lv_has ls y.2.2.1 (xmp G L))
    (hd0 : decode y.2.1 pc = .ok (.new ik, 3)) (hd3 : decode y.2.1 (pc + 3) = .ok (.dup, 1)) (hd6 : decode y.2.1 pc6 = .ok (.invokespecial ic, 3)) (hd9 : decode y.2.1 (pc6 + 3) = .ok (.athrow, 1))
    (hldc : ∀ {H : Heap} {cells slots : Nat} {Q : State → Prop} {rest : List Value}, W p (gl G) e y.2.2.2.2.1 s m args below meth c H [] cells slots Q (F0 m pc6 ls (.ref q0 :: rest)) → W p (gl G) e y.2.2.2.2.1 s m args below meth c H [] cells slots Q (F0 m (pc + 4) ls rest)) :
    W p (gl G) e y.2.2.2.2.1 s m args below meth c s.heap [] 0 0 (xZ G r below s) (F0 m pc ls []) := by
  subst hown
  obtain ⟨ha, hck, hin, hini, hfE, hfn, hnl⟩ := hth
  obtain ⟨hx, hb, -, hml, hown, hts, hlocks, htab, hK, -⟩ := C
  obtain ⟨cE, kE, hfc, hkE, -, -, -, hn6⟩ := Cond.instantiable_spec (hts _ hin)
  refine W.newcK hx hb hown (hts _ hck) (hts _ hin) (hts _ hini) rfl hd0 (by have := hR.2.2.1; omega) (by have := hR.2.2.2; omega) hfc rfl fun H1 kC hkC e1 z1 o1 => ?_
  refine lv_dup hx hb hd3 rfl ?_
  refine hldc ?_
  intro T hT X
  have hatoms : ∀ a ∈ Bundle.ownAtoms y.1.cls ic E names, a.before args s = true := fun a h => by
    obtain ⟨k1, k2, k3, k4, k5, k6⟩ := hK.2.2.2.2.2.2.2.2.2
    rcases ha a h with h | h | h | h | h | ⟨q, hq, h⟩ | ⟨q, hq, h⟩
    · exact hts a h
    · rw [h]; exact xZq_isRef hK.2.2.2.1
    · rw [h]; exact xZq_isRef hK.2.2.2.2.1
    · rw [h]; exact k4
    · rw [h]; exact k5
    · rw [h]; exact k2 q hq
    · rw [h]; exact k3 q hq
  have hempty : c.exceptionTable.toList = [] := by
    have : c.exceptionTable.toList.map (fun h => (h.startPc, h.endPc, h.handlerPc, h.catchType)) = [] := htab.trans hhh
    exact List.map_eq_nil_iff.mp this
  obtain ⟨U, hst, hrun, hend, hWU, hsame, ce, hce, hoc⟩ := X.ctorThrowS hx (by rw [X.admits.platform]; exact hK.1) hown hfE hfn hatoms (fun q hq => by cases hq) hfc hkC (by rw [hT]; exact e1) (Nat.le_refl _) (msg := .ref q0) rfl
    (g := F0 m pc6 ls [.ref q0, .ref s.heap.size, .ref s.heap.size]) rfl (by rw [hml]; exact hl.1) rfl rfl (rest := []) rfl (by rw [hb]; exact hd6) (by rw [hb]; exact hd9) (by rw [hempty]; intro q hq; cases hq) (by have := hR.1; omega)
    (by have := hR.2.1; show 2 * 0 + 1 + (13 * (names.length + 1) + 42) ≤ _; omega) hlocks
  refine ⟨U, hst, .threw s.heap.size, hrun, hend, ?_⟩
  subst hr
  have hold : ∀ q : Nat, q < s.heap.size → U.heap[q]? = s.heap[q]? := fun q hq => by
    obtain ⟨c', h1, h2, h3, h4⟩ := hsame.2.2.2.2.2 q s.heap[q] (Array.getElem?_eq_getElem hq)
    have h1' : U.heap[q]? = some c' := h1
    rw [h1', Array.getElem?_eq_getElem hq]
    congr 1
    have h5 : c'.slots = s.heap[q].slots := Array.ext_getElem? (fun i => h4 i (fun z => by cases z))
    rw [h2, h5]
  refine ⟨⟨s.heap.size, ce, rfl, hce, hoc.vm, hoc.cls⟩, ?_, ⟨hsame.2.1, fun q h1 _ => hold q h1⟩, [], hWU, hsame, fun q hq => (by cases hq), fun q => (by cases q)⟩
  exact va_P.kept hW (fun k q hk => hold q.1 (hW k q hk).lt)
theorem J_throw {ik is ic : Nat} {E tx : String} {names : List String} (hth : xth y.1.cls ik ic E names) (hs : (y.1.cls, is, tx) ∈ xTs) (hR : xthR y.2.2.2.2.1) (hhh : y.2.2.2.2.2 = [])
    (hd0 : decode y.2.1 pc = .ok (.new ik, 3)) (hd3 : decode y.2.1 (pc + 3) = .ok (.dup, 1)) (hd4 : decode y.2.1 (pc + 4) = .ok (.ldc is, 2)) (hd6 : decode y.2.1 (pc + 6) = .ok (.invokespecial ic, 3)) (hd9 : decode y.2.1 (pc + 9) = .ok (.athrow, 1)) (hw : w.1 = 1) (hk : k = (0, 0)) (hr : r = (.inr E, (0, w.2), (1, 6))) : JW G y k pc L [] w r := by
  intro p e s m args below meth c H locs ls C hS hW hM hl
  obtain ⟨rfl, rfl⟩ := hM.1 hw
  subst hk
  have hsr : (Cond.stringRef y.1.cls is tx).before args s = true := C.2.2.2.2.2.2.2.2.1.2.2.2.2.2.2.2.2.2.1 _ hs
  obtain ⟨-, -, -, q0, -, -, -, -, -, hev⟩ := Cond.stringRef_spec C.2.2.2.2.1 hsr
  exact x_throw rfl hth hR hhh hr C hW hl hd0 hd3 hd6 hd9 (q0 := q0) (fun {H cells slots Q rest} kk T hT X => by
    obtain ⟨t, a1, b1⟩ := kk T hT X
    exact ⟨t, X.ldcString C.1 C.2.2.2.2.1 (text := tx) (a := q0) hsr hev (g := F0 m (pc + 4) ls rest) rfl (by rw [C.2.1]; exact hd4) t a1, b1⟩)
theorem x_ldcWString {p : Program} {l : Launch} {e : Env} {R : Room} {s : State} {m : MethodId} {args : Array Value} {below : List Frame} {meth : Method} {c : Code} {T : State} {locs : List Loc} {cells slots : Nat} (X : Stand p l e R s m args below meth c T locs cells slots) (hexec : p.tables.exec = Jvm.exec) {own text : String} {index : Nat} {a : Addr} (hown : s.vm.findClass own = some m.cls)
    (hconst : (Cond.stringRef own index text).before args s = true) (hev : (Term.string own index).eval args s none [] s = some (.ref a)) {g : JFrame} (hg : g.method = m) (hdg : decode c.code g.pc = .ok (.ldc_w index, 3)) :
    ∀ target, Steps p.tables e below (T.setTop { g with pc := g.pc + 3, stack := .ref a :: g.stack }) target → Steps p.tables e below (T.setTop g) target := by
  obtain ⟨k, cf, i, a', hk, hcf, hcp, -, hr, hev'⟩ := Cond.stringRef_spec hown hconst
  cases hev.symm.trans hev'
  obtain ⟨k', hk', he⟩ := X.warmed.alike.2.2 _ _ hk
  have hr' : k'.resolved[index]? = some (some (.string a)) := by
    rcases X.warmed.entry hk hk' index with h | ⟨h, -⟩
    · rw [h]; exact hr
    · rw [hr] at h; cases h
  intro target hrest
  subst hg
  jvm_step X.here [hexec, hdg, ldc_w.wp_string (e := e) (s := T) (f := g) X.here.top hk' (by rw [he]; exact hcf) hcp hr']
  exact hrest
theorem J_throwW {ik is ic : Nat} {E tx : String} {names : List String} (hth : xth y.1.cls ik ic E names) (hs : (y.1.cls, is, tx) ∈ xTs) (hR : xthR y.2.2.2.2.1) (hhh : y.2.2.2.2.2 = [])
    (hd0 : decode y.2.1 pc = .ok (.new ik, 3)) (hd3 : decode y.2.1 (pc + 3) = .ok (.dup, 1)) (hd4 : decode y.2.1 (pc + 4) = .ok (.ldc_w is, 3)) (hd6 : decode y.2.1 (pc + 7) = .ok (.invokespecial ic, 3)) (hd9 : decode y.2.1 (pc + 10) = .ok (.athrow, 1)) (hw : w.1 = 1) (hk : k = (0, 0)) (hr : r = (.inr E, (0, w.2), (1, 6))) : JW G y k pc L [] w r := by
  intro p e s m args below meth c H locs ls C hS hW hM hl
  obtain ⟨rfl, rfl⟩ := hM.1 hw
  subst hk
  have hsr : (Cond.stringRef y.1.cls is tx).before args s = true := C.2.2.2.2.2.2.2.2.1.2.2.2.2.2.2.2.2.2.1 _ hs
  obtain ⟨-, -, -, q0, -, -, -, -, -, hev⟩ := Cond.stringRef_spec C.2.2.2.2.1 hsr
  exact x_throw rfl hth hR hhh hr C hW hl hd0 hd3 hd6 hd9 (q0 := q0) (fun {H cells slots Q rest} kk T hT X => by
    obtain ⟨t, a1, b1⟩ := kk T hT X
    exact ⟨t, x_ldcWString X C.1 C.2.2.2.2.1 (text := tx) (a := q0) hsr hev (g := F0 m (pc + 4) ls rest) rfl (by rw [C.2.1]; exact hd4) t a1, b1⟩)
/-- the words and the room of a call -/
def xcR (z : xY) (k : Nat × Nat) (R : Room) : Prop := z.2.2.2.2.1.frames + 1 ≤ R.frames ∧ 8 + (z.2.2.1 + 11) + z.2.2.2.2.1.locals ≤ R.locals ∧ k.1 + z.2.2.2.2.1.cells ≤ R.cells ∧ k.2 + z.2.2.2.2.1.slots ≤ R.slots
def xcw (z : xY) (n : Nat) : Prop := xwd z ∈ xTw ∧ Cond.initialized z.1.cls ∈ xTw ∧ (z.1.cls ≠ "java/lang/invoke/MethodHandle" ∧ z.1.cls ≠ "java/lang/invoke/VarHandle") ∧ (parseMethodDescriptor z.1.desc).map (fun d => d.parameters.length) = some n
def xcv (own : String) (index : Nat) (z : xY) (n : Nat) : Prop := xcw z n ∧ Cond.methodLink own index z.1 ∈ xTw ∧ Cond.instanceMethod z.1 ∈ xTw ∧ Cond.selects z.1.cls z.1 z.1 ∈ xTw
def xcs (own : String) (index : Nat) (z : xY) (n : Nat) : Prop := xcw z n ∧ Cond.methodLink own index z.1 ∈ xTw ∧ Cond.static z.1 ∈ xTw
def xcn (own : String) (index : Nat) (z : xY) (n : Nat) (host : String) : Prop := xcw z n ∧ (own, index, z.1, host) ∈ xTn ∧ Cond.static z.1 ∈ xTw
/-- an invocation at a frame of the picture's words -/
def xGo (G : xG) (y : xY) (k : Nat × Nat) (pc : Nat) (L : List (Nat × Value)) (st0 : List Value) (w : xH) (z : xY) (avs : List Value) (st : List Value) : Prop :=
  ∀ (p : Program) (e : Env) (s : State) (m : MethodId) (args : Array Value) (below : List Frame) (meth : Method) (c : Code) (T : State) (locs : List Loc) (ls : Array Slot),
    xC G y p s m args meth c → xW G w.2 T.heap → lv_has ls y.2.2.1 (xmp G L) → Stand p (gl G) e y.2.2.2.2.1 s m args below meth c T locs k.1 k.2 →
    xInv p (gl G) e y.2.2.2.2.1 s m args below meth c T locs k.1 k.2 (F0 m pc ls (st0.map (xv G))) z (avs.map (xv G)).toArray (st.map (xv G))
theorem xGo_v {z : xY} {index n i ci : Nat} {avs : List Value} {fs : List Value} {q : vw_C} (hd : decode y.2.1 pc = .ok (.invokevirtual index, 3)) (hc : xcv y.1.cls index z n) (hi : w.2[i]? = some (.inr (ci, fs))) (hq : xcl[ci]? = some q) (hqz : q.1 = z.1.cls) (hn : avs.length = n) : xGo G y k pc L (avs.reverse ++ .ref i :: st) w z (.ref i :: avs) st := by
  intro p e s m args below meth c T locs ls C hW hl X
  obtain ⟨⟨c1, c2, c3, c4⟩, c5, c6, c7⟩ := hc
  obtain ⟨cellB, b1, b2, b3⟩ := va_recv C.2.2.2.2.2.2.2.2.1.2.2.1 hW hq (xws_get hi)
  have hts := C.2.2.2.2.2.1
  exact xInv_virt X C.1 C.2.2.2.2.1 (hts _ c5) (hts _ c6) (hts _ c7) (hts _ c1) c3 b1 b2 (by rw [← hqz]; exact b3) rfl (argsL := avs.map (xv G)) (rest := st.map (xv G)) c4 (by rw [List.length_map]; exact hn) (by show (avs.reverse ++ .ref i :: st).map (xv G) = _; rw [List.map_append, List.map_reverse]; rfl) (by rw [C.2.1]; exact hd)
theorem xGo_s {z : xY} {index n : Nat} {avs : List Value} (hd : decode y.2.1 pc = .ok (.invokestatic index, 3)) (hc : xcs y.1.cls index z n) (hn : avs.length = n) : xGo G y k pc L (avs.reverse ++ st) w z avs st := by
  intro p e s m args below meth c T locs ls C hW hl X
  obtain ⟨⟨c1, c2, c3, c4⟩, c5, c6⟩ := hc
  have hts := C.2.2.2.2.2.1
  exact xInv_stat X C.1 C.2.2.2.2.1 (hts _ c5) (hts _ c6) (hts _ c2) (hts _ c1) c3 rfl (argsL := avs.map (xv G)) (rest := st.map (xv G)) c4 (by rw [List.length_map]; exact hn) (by show (avs.reverse ++ st).map (xv G) = _; rw [List.map_append, List.map_reverse]) (by rw [C.2.1]; exact hd)
theorem xGo_n {z : xY} {index n : Nat} {host : String} {avs : List Value} (hd : decode y.2.1 pc = .ok (.invokestatic index, 3)) (hc : xcn y.1.cls index z n host) (hn : avs.length = n) : xGo G y k pc L (avs.reverse ++ st) w z avs st := by
  intro p e s m args below meth c T locs ls C hW hl X
  obtain ⟨⟨c1, c2, c3, c4⟩, c5, c6⟩ := hc
  have hts := C.2.2.2.2.2.1
  exact xInv_statN X C.1 C.2.2.2.2.1 (host := host) (va_Nw.use rfl (C.2.2.2.2.2.2.2.2.1.2.2.2.2.2.1 _ c5)) (hts _ c6) (hts _ c2) (hts _ c1) c3 rfl (argsL := avs.map (xv G)) (rest := st.map (xv G)) c4 (by rw [List.length_map]; exact hn) (by show (avs.reverse ++ st).map (xv G) = _; rw [List.map_append, List.map_reverse]) (by rw [C.2.1]; exact hd)
theorem xGo_i {nm : MethodName} {by_ : ByteArray} {ml : Nat} {rm : Room} {index n i : Nat} {avs : List Value} (hd : decode y.2.1 pc = .ok (.invokespecial index, 3)) (hc : xcw (nm, by_, ml, none, rm, []) n) (hl1 : Cond.methodLink y.1.cls index nm ∈ xTw) (hl2 : Cond.instanceMethod nm ∈ xTw) (hin : nm.name = "<init>") (hn : avs.length = n) : xGo G y k pc L (avs.reverse ++ .ref i :: st) w (nm, by_, ml, none, rm, []) (.ref i :: avs) st := by
  intro p e s m args below meth c T locs ls C hW hl X
  obtain ⟨c1, c2, c3, c4⟩ := hc
  have hts := C.2.2.2.2.2.1
  exact xInv_init X C.1 C.2.2.2.2.1 hin (hts _ hl1) (hts _ hl2) (hts _ c1) c3 rfl (argsL := avs.map (xv G)) (rest := st.map (xv G)) c4 (by rw [List.length_map]; exact hn) (by show (avs.reverse ++ .ref i :: st).map (xv G) = _; rw [List.map_append, List.map_reverse]; rfl) (by rw [C.2.1]; exact hd)
/-- the mode behind a call -/
def xmd (m mz mr m2 len len2 kc : Nat) : Prop := (m2 = 1 → m = 1 ∧ mr = 1) ∧ (m2 = 2 → m = 2 ∧ len2 = len + kc) ∧ (mz = 2 → m = 2)
theorem x_exact {p : Program} {l : Launch} {e : Env} {R : Room} {s : State} {m : MethodId} {args : Array Value} {below : List Frame} {meth : Method} {c : Code} {T : State} {locs : List Loc} {k : Nat × Nat} {h : List va_E} (X : Stand p l e R s m args below meth c T locs k.1 k.2) (hb : gb G ≤ s.heap.size) (hz : s.heap.size ≤ T.heap.size) (hW : xW G h T.heap) (he : s.heap.size + k.1 = gb G + h.length) : T.heap.size = gb G + h.length := by
  have h1 := X.heapSize
  have h2 := xW_len hW (Nat.le_trans hb hz)
  omega
theorem J_call {z : xY} {avs st0 : List Value} {w2 : xH} {mz mr : Nat} {v : Option Value} {h2 : List va_E} {kz : Nat × Nat} (hg : xGo G y k pc L st0 w z avs st) (hz : xwd z ∈ xTw ∧ Cond.initialized z.1.cls ∈ xTw) (hR : xcR z k y.2.2.2.2.1) (hst : (st.map fun v => v.category).sum ≤ 8) (hM : XM G z avs (mz, w.2) (.inl v, (mr, h2), kz)) (hw2 : w2.2 = h2) (hmd : xmd w.1 mz mr w2.1 w.2.length h2.length kz.1)
    (h : JW G y (k.1 + kz.1, k.2 + kz.2) (pc + 3) L (v.toList ++ st) w2 r) : JW G y k pc L st0 w r := by
  intro p e s m args below meth c H locs ls C hS hW hMo hl T hT X
  subst hT
  have hK := C.2.2.2.2.2.2.2.2.1
  have hex : w.1 = 2 → T.heap.size = gb G + w.2.length := fun q => x_exact X hK.2.1 hS.1 hW (hMo.2 q)
  have hsum : (((st.map (xv G)).map fun v => v.category).sum) = ((st.map fun v => v.category).sum) := by rw [List.map_map]; congr 1; exact List.map_congr_left (fun v _ => xv_cat G v)
  obtain ⟨o, T', L', X', hW', hS', hmode, hret, -⟩ := x_ran (hg p e s m args below meth c T locs ls C hW hl X) hM C.2.2.2.2.2.1 hz.1 hz.2 hK hS hW (fun q => hex (hmd.2.2 q)) rfl (by rw [C.2.2.2.1]; exact hl.1) (by rw [hsum]; show 2 * 0 + _ ≤ 8; omega) hR
  have hmo' : xM G (k.1 + kz.1, k.2 + kz.2) w2 s T'.heap (locs ++ L') := by
    refine ⟨fun q => ?_, fun q => ?_⟩
    · obtain ⟨q1, q2⟩ := hmd.1 q
      obtain ⟨e1, e2⟩ := hMo.1 q1
      obtain ⟨e3, e4⟩ := hmode q2
      exact ⟨e3.trans e1, by rw [e2, e4]; rfl⟩
    · obtain ⟨q1, q2⟩ := hmd.2.1 q
      have := hMo.2 q1
      rw [hw2, q2]
      show s.heap.size + (k.1 + kz.1) = _
      omega
  have hv : (v.map (xv G)).toList ++ st.map (xv G) = (v.toList ++ st).map (xv G) := by cases v <;> rfl
  obtain ⟨t, a1, b1⟩ := h p e s m args below meth c T'.heap (locs ++ L') ls C hS' (by rw [hw2]; exact hW') hmo' hl T' rfl X'
  refine ⟨t, hret v rfl t ?_, b1⟩
  rw [show ({ F0 m pc ls (st0.map (xv G)) with pc := (F0 m pc ls (st0.map (xv G))).pc + 3, stack := (v.map (xv G)).toList ++ st.map (xv G) } : JFrame) = F0 m (pc + 3) ls ((v.toList ++ st).map (xv G)) by rw [hv]]
  exact a1
/-- a callee throws, and this method has no handler -/
theorem J_callT {z : xY} {avs st0 : List Value} {mz mr : Nat} {E : String} {h2 : List va_E} {kz : Nat × Nat} (hg : xGo G y k pc L st0 w z avs st) (hz : xwd z ∈ xTw ∧ Cond.initialized z.1.cls ∈ xTw) (hR : xcR z k y.2.2.2.2.1) (hst : (st.map fun v => v.category).sum ≤ 8) (hM : XM G z avs (mz, w.2) (.inr E, (mr, h2), kz)) (hmz : ¬ mz = 2) (hhh : y.2.2.2.2.2 = []) (hr : r = (.inr E, (0, h2), k.1 + kz.1, k.2 + kz.2)) : JW G y k pc L st0 w r := by
  intro p e s m args below meth c H locs ls C hS hW hMo hl T hT X
  subst hT
  have hK := C.2.2.2.2.2.2.2.2.1
  have hsum : (((st.map (xv G)).map fun v => v.category).sum) = ((st.map fun v => v.category).sum) := by rw [List.map_map]; congr 1; exact List.map_congr_left (fun v _ => xv_cat G v)
  obtain ⟨o, T', L', X', hW', hS', hmode, -, hthr⟩ := x_ran (hg p e s m args below meth c T locs ls C hW hl X) hM C.2.2.2.2.2.1 hz.1 hz.2 hK hS hW (fun q => absurd q hmz) rfl (by rw [C.2.2.2.1]; exact hl.1) (by rw [hsum]; show 2 * 0 + _ ≤ 8; omega) hR
  obtain ⟨x, cell, h1, h2', h3, hst⟩ := hthr E rfl
  have hempty : c.exceptionTable.toList = [] := by
    have : c.exceptionTable.toList.map (fun h => (h.startPc, h.endPc, h.handlerPc, h.catchType)) = [] := C.2.2.2.2.2.2.2.1.trans hhh
    exact List.map_eq_nil_iff.mp this
  obtain ⟨hw, hrun, hend, hWU, hsame⟩ := X'.leaveThrown x (g := { F0 m pc ls (st0.map (xv G)) with stack := st.map (xv G) }) rfl rfl rfl (by rw [hempty]; intro q hq; cases hq) C.2.2.2.2.2.2.1
  subst hr
  exact ⟨_, hst _ hw, .threw x, hrun, hend, ⟨x, cell, rfl, h1, h2', h3⟩, hW', hS'.F rfl, locs ++ L', hWU, hsame, hS'.2.2, fun q => (by cases q)⟩
end XE
end
section
section XF
variable {Q : Handler → Pre} {E : CtlPost} {e : Env} {d : Bool} {acts : List Action} {s : State} {f : JFrame} {a : Addr}
/-- the search passes an entry whose class the object isn't of, its pool entry cold or warm -/
theorem xf_pass {x : ExceptionTableEntry} {t : List ExceptionTableEntry} {c : ClassId} {cell : Cell} (hx : covers x f.pc = true) (h0 : x.catchType ≠ 0) (hl : s.vm.ClassLinks e.platform f.method.cls x.catchType c) (hcell : s.heap[a]? = some cell) (hobj : ∀ k, cell.vm ≠ .statics k)
    (hk : ∃ k, s.vm.classes[cell.cls]? = some k) (hc : ∃ k, s.vm.classes[c]? = some k) (hfit : s.vm.assignable cell.cls c = false) :
    wp (findHandler.go f a (x :: t)) Q E e d acts s ↔ wp (findHandler.go f a t) Q E e d acts (s.setVm (s.vm.noted f.method.cls x.catchType (.cls c))) := by
  simp only [covers] at hx
  obtain ⟨ha, ht⟩ := (resolveClass_links e.toSetting hl).op (op := VmOp.resolveClass f.method.cls x.catchType) rfl
  have hal : s.vm.Alike (s.vm.noted f.method.cls x.catchType (.cls c)) := (Vm.Alike.refl s.vm).noted _ _ _
  obtain ⟨k1, hk1⟩ := hk
  obtain ⟨k2, hk2⟩ := hc
  obtain ⟨k1', hk1', -⟩ := hal.2.2 _ _ hk1
  obtain ⟨k2', hk2', -⟩ := hal.2.2 _ _ hk2
  have hfit' : (s.vm.noted f.method.cls x.catchType (.cls c)).assignable cell.cls c = false := by rw [hal.assignable]; exact hfit
  simp [findHandler.go, hx, h0, ha, ht, hcell, hobj, hk1', hk2', hfit', VmOp.dirties, VmOp.acts]
theorem xf_found {x : ExceptionTableEntry} {t : List ExceptionTableEntry} {c : ClassId} {cell : Cell} (hx : covers x f.pc = true) (h0 : x.catchType ≠ 0) (hl : s.vm.ClassLinks e.platform f.method.cls x.catchType c) (hcell : s.heap[a]? = some cell) (hobj : ∀ k, cell.vm ≠ .statics k)
    (hk : ∃ k, s.vm.classes[cell.cls]? = some k) (hc : ∃ k, s.vm.classes[c]? = some k) (hfit : s.vm.assignable cell.cls c = true) :
    wp (findHandler.go f a (x :: t)) Q E e d acts s ↔ Q (.found x.handlerPc) d acts (s.setVm (s.vm.noted f.method.cls x.catchType (.cls c))) := by
  simp only [covers] at hx
  obtain ⟨ha, ht⟩ := (resolveClass_links e.toSetting hl).op (op := VmOp.resolveClass f.method.cls x.catchType) rfl
  have hal : s.vm.Alike (s.vm.noted f.method.cls x.catchType (.cls c)) := (Vm.Alike.refl s.vm).noted _ _ _
  obtain ⟨k1, hk1⟩ := hk
  obtain ⟨k2, hk2⟩ := hc
  obtain ⟨k1', hk1', -⟩ := hal.2.2 _ _ hk1
  obtain ⟨k2', hk2', -⟩ := hal.2.2 _ _ hk2
  have hfit' : (s.vm.noted f.method.cls x.catchType (.cls c)).assignable cell.cls c = true := by rw [hal.assignable]; exact hfit
  simp [findHandler.go, hx, h0, ha, ht, hcell, hobj, hk1', hk2', hfit', VmOp.dirties, VmOp.acts]
/-- what an entry of the table says in the tables of the method's entry s0 -/
def xEn (e : Env) (s0 : State) (f : JFrame) (cell : Cell) (fits : Bool) (x : ExceptionTableEntry) : Prop := covers x f.pc = true ∧ x.catchType ≠ 0 ∧ ∃ c, s0.vm.ClassLinks e.platform f.method.cls x.catchType c ∧ s0.vm.assignable cell.cls c = fits
theorem xf_all {s0 : State} {cell : Cell} (hobj : ∀ k, cell.vm ≠ .statics k) (hk : ∃ k, s0.vm.classes[cell.cls]? = some k) (x : ExceptionTableEntry) (rest : List ExceptionTableEntry) (hx : xEn e s0 f cell true x) :
    ∀ (pre : List ExceptionTableEntry), (∀ q ∈ pre, xEn e s0 f cell false q) → ∀ U : State, s0.WarmedH U.vm → U.heap[a]? = some cell →
      ∃ vm' : Vm, s0.WarmedH vm' ∧ ∀ (Q : Handler → Pre) (E : CtlPost) (d : Bool) (acts : List Action), wp (findHandler.go f a (pre ++ x :: rest)) Q E e d acts U ↔ Q (.found x.handlerPc) d acts (U.setVm vm') := by
  intro pre
  induction pre with
  | nil =>
    intro _ U hW hcell
    obtain ⟨h1, h2, c, hcl, hfit⟩ := hx
    obtain ⟨dk, _, _, kt, hd, _, _, _, _, hkt, _, hopen⟩ := hcl.here
    have hal := hW.alike
    obtain ⟨kt', hkt', -⟩ := hal.2.2 _ _ hkt
    obtain ⟨k0, hk0⟩ := hk
    obtain ⟨k0', hk0', -⟩ := hal.2.2 _ _ hk0
    refine ⟨_, hW.noted hd hopen (State.rightAt_cls hcl), fun Q E d acts => ?_⟩
    exact xf_found h1 h2 (hW.classLinks hcl) hcell hobj ⟨k0', hk0'⟩ ⟨kt', hkt'⟩ (by rw [hal.assignable]; exact hfit)
  | cons q qs ih =>
    intro hp U hW hcell
    obtain ⟨h1, h2, c, hcl, hfit⟩ := hp q List.mem_cons_self
    obtain ⟨dk, _, _, kt, hd, _, _, _, _, hkt, _, hopen⟩ := hcl.here
    have hal := hW.alike
    obtain ⟨kt', hkt', -⟩ := hal.2.2 _ _ hkt
    obtain ⟨k0, hk0⟩ := hk
    obtain ⟨k0', hk0', -⟩ := hal.2.2 _ _ hk0
    have hW1 : s0.WarmedH (U.vm.noted f.method.cls q.catchType (.cls c)) := hW.noted hd hopen (State.rightAt_cls hcl)
    obtain ⟨vm', hW2, hall⟩ := ih (fun z hz => hp z (List.mem_cons_of_mem _ hz)) (U.setVm (U.vm.noted f.method.cls q.catchType (.cls c))) hW1 hcell
    refine ⟨vm', hW2, fun Q E d acts => ?_⟩
    rw [List.cons_append, xf_pass h1 h2 (hW.classLinks hcl) hcell hobj ⟨k0', hk0'⟩ ⟨kt', hkt'⟩ (by rw [hal.assignable]; exact hfit)]
    exact hall Q E d acts
theorem xs_catch {r : List Frame} {pc : Nat} {vm' : Vm} (hfind : ∀ (Q : Handler → Pre) (E : CtlPost) (d : Bool) (acts : List Action), wp (findHandler f a) Q E e d acts s ↔ Q (.found pc) d acts (s.setVm vm')) :
    (stepThrowing e s a (.java f :: r)).Is ((s.setVm vm').setFrames (.java { f with pc := pc, stack := [.ref a] } :: r)) [] := by
  simp only [stepThrowing, searchFrame, vmDo]
  generalize hr : Sem.go _ e false [] s = res
  obtain ⟨as, rfl, ha⟩ := Sem.eq_ok_of hr (a := Handler.found pc) (s' := s.setVm vm') (acts' := []) (by simp [hfind _ _ _ _])
  exact ⟨rfl, ha⟩
end XF
/-- what is thrown over a frame is caught there -/
theorem x_caught {p : Program} {l : Launch} {e : Env} {R : Room} {s : State} {m : MethodId} {args : Array Value} {below : List Frame} {meth : Method} {c : Code} {T : State} {locs : List Loc} {cells slots : Nat} (X : Stand p l e R s m args below meth c T locs cells slots) {a : Addr} {cell : Cell} (hcell : T.heap[a]? = some cell) (hvm : cell.vm = .none) (hk : ∃ k, s.vm.classes[cell.cls]? = some k) {g : JFrame} (hg : g.method = m)
    (pre : List ExceptionTableEntry) (x : ExceptionTableEntry) (rest : List ExceptionTableEntry) (hsplit : c.exceptionTable.toList = pre ++ x :: rest) (hx : xEn e s g cell true x) (hp : ∀ q ∈ pre, xEn e s g cell false q) :
    ∃ vm', Stand p l e R s m args below meth c (T.setVm vm') locs cells slots ∧ ∀ target, Steps p.tables e below ((T.setVm vm').setTop { g with pc := x.handlerPc, stack := [.ref a] }) target → Steps p.tables e below ((T.setTop g).pushFrame (.throwing a)) target := by
  subst hg
  obtain ⟨vm', hW', hall⟩ := xf_all (e := e) (f := g) (a := a) (s0 := s) (cell := cell) (fun k h => by rw [hvm] at h; cases h) hk x rest hx pre hp ((T.setTop g).pushFrame (.throwing a)) (by rw [Stand.throwing_vm]; exact X.warmed) (by rw [Stand.throwing_heap]; exact hcell)
  refine ⟨vm', X.noted hW', fun target hrest => ?_⟩
  have hfind : ∀ (Q : Handler → Pre) (E : CtlPost) (d : Bool) (acts : List Action), wp (findHandler g a) Q E e d acts ((T.setTop g).pushFrame (.throwing a)) ↔ Q (.found x.handlerPc) d acts (((T.setTop g).pushFrame (.throwing a)).setVm vm') := fun Q E d acts => by
    rw [W.findHandler_eq (meth := meth) (code := c) (by rw [Stand.throwing_vm]; exact X.method') X.code, hsplit]
    exact hall Q E d acts
  have h : At T g.method c below := X.here
  obtain ⟨hgo, hw⟩ := h.throwing a
  refine Steps.head hgo hw ?_
  rw [stepThread_throwing (frames_entered h.top _), (xs_catch (s := (T.setTop g).pushFrame (.throwing a)) hfind).1]
  obtain ⟨g₀, hg0⟩ := Option.isSome_iff_exists.mp h.top
  obtain ⟨r, hr⟩ := State.topJava?_eq_some.mp hg0
  have hr' : (T.setVm vm').frames = .java g₀ :: r := hr
  have hfs : ∀ (u : State) (F F2 : List Frame), ((u.setFrames F).setVm vm').setFrames F2 = (u.setVm vm').setFrames F2 := fun u F F2 => by
    have h1 : (u.setFrames F).setVm vm' = (u.setVm vm').setFrames F := rfl
    rw [h1, State.setFrames_setFrames]
  rw [State.setTop_of_frames _ hr'] at hrest
  rw [hr, List.tail_cons, State.pushFrame, hfs, State.setTop_of_frames _ hr, hfs]
  exact hrest
section XG
variable {G : xG} {y : xY} {k : Nat × Nat} {pc : Nat} {L : List (Nat × Value)} {st : List Value} {w : xH} {r : xR}
/-- the handler of a throw of class E at pc, by the method's table: entries that are passed, then the one that takes it -/
def xcat (y : xY) (pc : Nat) (E : String) (hp : Nat) : Prop :=
  ∃ (pre : List (Nat × Nat × Nat × Nat)) (q : Nat × Nat × Nat × Nat) (rest : List (Nat × Nat × Nat × Nat)), y.2.2.2.2.2 = pre ++ q :: rest ∧ q.2.2.1 = hp ∧ (∀ u ∈ pre ++ [q], u.1 ≤ pc ∧ pc < u.2.1 ∧ u.2.2.2 ≠ 0) ∧ (∀ u ∈ pre, ∃ nm, Cond.classLink y.1.cls u.2.2.2 nm ∈ xTw ∧ (E, nm) ∈ xTc) ∧ ∃ nm, Cond.classLink y.1.cls q.2.2.2 nm ∈ xTw ∧ (E, nm) ∈ xTk
theorem J_callC {z : xY} {avs st0 : List Value} {mz mr : Nat} {E : String} {h2 : List va_E} {kz : Nat × Nat} {hp hp1 : Nat} {n : Int} {v : Int32} (hg : xGo G y k pc L st0 w z avs st) (hz : xwd z ∈ xTw ∧ Cond.initialized z.1.cls ∈ xTw) (hR : xcR z k y.2.2.2.2.1) (hst : (st.map fun v => v.category).sum ≤ 8) (hM : XM G z avs (mz, w.2) (.inr E, (mr, h2), kz)) (hmz : ¬ mz = 2) (hc : xcat y pc E hp)
    (hda : (∃ j : Fin 4, decode y.2.1 hp = .ok (.astore_n j, 1) ∧ (j : Nat) < y.2.2.1 ∧ hp1 = hp + 1) ∨ (∃ j : Nat, decode y.2.1 hp = .ok (.astore j, 2) ∧ j < y.2.2.1 ∧ hp1 = hp + 2)) (hdi : decode y.2.1 hp1 = .ok (.iconst n, 1)) (hv : Int32.ofInt n = v) (hdr : decode y.2.1 (hp1 + 1) = .ok (.ireturn, 1)) (hy : y.2.2.2.1 = some .int)
    (hr : r = (.inl (some (.int v)), (0, h2), k.1 + kz.1, k.2 + kz.2)) : JW G y k pc L st0 w r := by
  intro p e s m args below meth c H locs ls C hS hW hMo hl T hT X
  subst hT
  have hK := C.2.2.2.2.2.2.2.2.1
  have hts := C.2.2.2.2.2.1
  have hsum : (((st.map (xv G)).map fun v => v.category).sum) = ((st.map fun v => v.category).sum) := by rw [List.map_map]; congr 1; exact List.map_congr_left (fun v _ => xv_cat G v)
  obtain ⟨o, T', L', X', hW', hS', hmode, -, hthr⟩ := x_ran (hg p e s m args below meth c T locs ls C hW hl X) hM hts hz.1 hz.2 hK hS hW (fun q => absurd q hmz) rfl (by rw [C.2.2.2.1]; exact hl.1) (by rw [hsum]; show 2 * 0 + _ ≤ 8; omega) hR
  obtain ⟨x, cell, h1, hvm, hfE, hstp⟩ := hthr E rfl
  obtain ⟨pre, q, rest, hsp, hqh, hcov, hpre, nmq, hlq, hcq⟩ := hc
  have htab : c.exceptionTable.toList.map (fun h => (h.startPc, h.endPc, h.handlerPc, h.catchType)) = pre ++ q :: rest := C.2.2.2.2.2.2.2.1.trans hsp
  obtain ⟨pre', tl, e1, e2, e3⟩ := List.map_eq_append_iff.mp htab
  obtain ⟨q', rest', e4, e5, e6⟩ := List.map_eq_cons_iff.mp e3
  subst e4
  have hpl : e.platform.magicAccessors = ({} : Platform).magicAccessors := by rw [X.admits.platform]
  have hcE : ∃ kE, s.vm.classes[cell.cls]? = some kE := Vm.classAt_of_findClass hfE
  have hxq : xEn e s { F0 m pc ls (st0.map (xv G)) with stack := st.map (xv G) } cell true q' := by
    have hq := hcov q (List.mem_append_right _ List.mem_cons_self)
    rw [← e5] at hq hlq
    obtain ⟨cT, hcT, hcl⟩ := Cond.classLink_spec C.2.2.2.2.1 (hts _ hlq) e.platform hpl
    obtain ⟨c3, c4, hc3, hc4, hasg⟩ := Cond.castable_spec (hK.2.2.2.2.2.2.2.2.2.2.1 _ hcq)
    cases hc3.symm.trans hfE
    cases hc4.symm.trans hcT
    refine ⟨?_, hq.2.2, cT, hcl, hasg⟩
    show (decide (q'.startPc ≤ pc) && decide (pc < q'.endPc)) = true
    simp [hq.1, hq.2.1]
  have hxp : ∀ u ∈ pre', xEn e s { F0 m pc ls (st0.map (xv G)) with stack := st.map (xv G) } cell false u := fun u hu => by
    have hu' : (u.startPc, u.endPc, u.handlerPc, u.catchType) ∈ pre := by rw [← e2]; exact List.mem_map.mpr ⟨u, hu, rfl⟩
    have hq := hcov _ (List.mem_append_left _ hu')
    obtain ⟨nm, hl1, hl2⟩ := hpre _ hu'
    obtain ⟨cT, hcT, hcl⟩ := Cond.classLink_spec C.2.2.2.2.1 (hts _ hl1) e.platform hpl
    refine ⟨?_, hq.2.2, cT, hcl, hK.2.2.2.2.2.2.2.2.1 _ hl2 _ _ hfE hcT⟩
    show (decide (u.startPc ≤ pc) && decide (pc < u.endPc)) = true
    simp [hq.1, hq.2.1]
  obtain ⟨vm', X2, hst2⟩ := x_caught X' h1 hvm hcE rfl pre' q' rest' e1 hxq hxp
  have hqp : q'.handlerPc = hp := by rw [← hqh, ← e5]
  rw [hqp] at hst2
  have fin : ∀ ls' : Array Slot, W p (gl G) e y.2.2.2.2.1 s m args below meth c T'.heap (locs ++ L') (k.1 + kz.1) (k.2 + kz.2) (xZ G r below s) (F0 m hp1 ls' []) := fun ls' => by
    refine lv_iconst C.1 C.2.1 hdi hv ?_
    refine x_mono (xZ_ret (args := args) (w := (0, h2)) (k := (k.1 + kz.1, k.2 + kz.2)) (o0 := some (.int v)) hr hS' hW' ⟨fun q => (by cases q), fun q => (by cases q)⟩) (x_iret (ty := .int) C.1 C.2.1 (C.2.2.1.trans hy) rfl (Or.inl rfl) hdr C.2.2.2.2.2.2.1)
  have hh : W p (gl G) e y.2.2.2.2.1 s m args below meth c T'.heap (locs ++ L') (k.1 + kz.1) (k.2 + kz.2) (xZ G r below s) (F0 m hp ls [.ref x]) := by
    rcases hda with ⟨j, hj1, hj2, hj3⟩ | ⟨j, hj1, hj2, hj3⟩
    · exact lv_astore_n (lv' := _) C.1 C.2.1 hj1 rfl hl hj2 rfl (fun ls' _ => by rw [← hj3]; exact fin ls')
    · exact lv_astore (lv' := _) C.1 C.2.1 hj1 hl hj2 rfl (fun ls' _ => by rw [← hj3]; exact fin ls')
  obtain ⟨t, a1, b1⟩ := hh (T'.setVm vm') rfl X2
  exact ⟨t, hstp t (hst2 t a1), b1⟩
/-- Object's constructor -/
theorem J_obj {index i : Nat} (hd : decode y.2.1 pc = .ok (.invokespecial index, 3)) (h1 : Cond.methodLink y.1.cls index Lib.objectInit ∈ xTw) (h2 : Cond.instanceMethod Lib.objectInit ∈ xTw) (h3 : Cond.code Lib.objectInit ⟨#[0xb1]⟩ 1 none ∈ xTw) (hst : (st.map fun v => v.category).sum ≤ 8) (hR : 1 ≤ y.2.2.2.2.1.frames ∧ 20 ≤ y.2.2.2.2.1.locals) (h : JW G y k (pc + 3) L st w r) : JW G y k pc L (.ref i :: st) w r := by
  intro p e s m args below meth c H locs ls C hS hW hM hl
  have hts := C.2.2.2.2.2.1
  have hsum : (((st.map (xv G)).map fun v => v.category).sum) = ((st.map fun v => v.category).sum) := by rw [List.map_map]; congr 1; exact List.map_congr_left (fun v _ => xv_cat G v)
  refine W.objInit C.1 C.2.1 C.2.2.2.2.1 (hts _ h1) (hts _ h2) (hts _ h3) rfl (by rw [C.2.2.2.1]; exact hl.1) (a := gb G + i) (rest := st.map (xv G)) rfl hd hR.1 (by rw [hsum]; show 2 * 0 + _ + 12 ≤ _; have := hR.2; omega) ?_
  exact h p e s m args below meth c H locs ls C hS hW hM hl
theorem xM_app {G : xG} {k : Nat × Nat} {w : xH} {s : State} {H H1 : Heap} {locs locs1 : List Loc} (h : xM G k w s H locs) (hw : w.1 = 2) (c : va_E) (n : Nat) : xM G (k.1 + 1, n) (2, w.2 ++ [c]) s H1 locs1 :=
  ⟨fun q => (by cases q), fun _ => by have := h.2 hw; simp only [List.length_append, List.length_singleton]; omega⟩
theorem J_new {index ci N : Nat} {C0 : String} {T0 : u_T} {ty0 : Nat → FieldType} {fs : List Value} (hd : decode y.2.1 pc = .ok (.new index, 3)) (hw : w.1 = 2) (hc : xcl[ci]? = some (C0, T0, N)) (hin : ∀ q ∈ u_ws C0 T0 N, q ∈ xTw) (ht : xty ci ty0) (h1 : Cond.classLink y.1.cls index C0 ∈ xTw) (h2 : Cond.instantiable C0 N ∈ xTw) (h3 : Cond.initialized C0 ∈ xTw) (hfs : ∀ j, j < N → defaultValue (ty0 j) = vp_V (fs.map (xv G)) j) (hR : k.1 + 1 ≤ y.2.2.2.2.1.cells ∧ k.2 + N ≤ y.2.2.2.2.1.slots)
    (h : JW G y (k.1 + 1, k.2 + N) (pc + 3) L (.ref w.2.length :: st) (2, w.2 ++ [.inr (ci, fs)]) r) : JW G y k pc L st w r := by
  intro p e s m args below meth c H locs ls C hS hW hM hl T hT X
  subst hT
  have hts := C.2.2.2.2.2.1
  have hK := C.2.2.2.2.2.2.2.2.1
  have hz : T.heap.size = gb G + w.2.length := x_exact X hK.2.1 hS.1 hW (hM.2 hw)
  have hKn := hK.2.2.1.1 ci _ hc
  refine W.newcK C.1 C.2.1 C.2.2.2.2.1 (hts _ h1) (hts _ h2) (hts _ h3) (g := F0 m pc ls (st.map (xv G))) rfl hd hR.1 hR.2 hKn.2.1 hz (fun H1 kC hkC e1 z1 o1 => ?_) T rfl X
  refine h p e s m args below meth c H1 locs ls C ⟨by have := hS.1; omega, fun q q1 q2 => (o1 q (by have := hS.1; omega)).trans (hS.2.1 q q1 q2), hS.2.2⟩ ?_ (xM_app hM hw _ _) hl
  show va_P (gD G) xcl (xws G (w.2 ++ [.inr (ci, fs)])) H1
  rw [xws_app]
  refine va_P.app (hW.kept (fun k q hk => o1 q.1 (by have := (hW k q hk).lt; omega))) (fun k q hq => ?_)
  have hk0 : k < 1 := (List.getElem?_eq_some_iff.mp hq).1
  rw [show k = 0 by omega] at hq
  cases hq
  exact ⟨_, hc, (u_born ty0 hts hin hKn hkC e1 (ht C0 T0 N hc).1).to hfs⟩
theorem J_newa {t N : Nat} {at_ : ArrayType} {ty : FieldType} {n : Int32} {a0 : (Nat → Int32) ⊕ (Nat → Int64) ⊕ (Nat → UInt32) ⊕ (Nat → UInt64) ⊕ (Nat → Option Nat)} (hd : decode y.2.1 pc = .ok (.newarray at_, 2)) (hw : w.1 = 2) (hty : newarray.typeOf at_ = ty) (h1 : Cond.arrayClass ty ∈ xTw) (hn : ¬ n < 0) (hN : n.toNatClampNeg = N) (hbytes : N * componentBytes ty ≤ 536870912) (ht : ∃ cA, (gT G)[t]? = some (cA, ty) ∧ (∀ s : State, va_RA s cA ty → s.vm.findClass ("[" ++ ty.toString) = some cA)) (ha : ∀ cA : ClassId, vp_cell cA (N, a0) = arrV cA N (fun _ => defaultValue ty)) (hxe : ∀ cA : ClassId, ((gT G).getD t (0, .int)).1 = cA → xe G (.inl (t, N, a0)) = .inl (cA, N, a0)) (hR : k.1 + 1 ≤ y.2.2.2.2.1.cells ∧ k.2 + N ≤ y.2.2.2.2.1.slots)
    (h : JW G y (k.1 + 1, k.2 + N) (pc + 2) L (.ref w.2.length :: st) (2, w.2 ++ [.inl (t, N, a0)]) r) : JW G y k pc L (.int n :: st) w r := by
  intro p e s m args below meth c H locs ls C hS hW hM hl T hT X
  subst hT
  subst hty
  have hts := C.2.2.2.2.2.1
  have hK := C.2.2.2.2.2.2.2.2.1
  have hz : T.heap.size = gb G + w.2.length := x_exact X hK.2.1 hS.1 hW (hM.2 hw)
  obtain ⟨cA0, hcA0, hra⟩ := ht
  have e0 : ((gT G).getD t (0, .int)).1 = cA0 := by rw [List.getD_eq_getElem?_getD, hcA0]; rfl
  have hfc0 := hra s (hK.2.2.1.2 t _ hcA0).2
  refine va_newaK C.1 C.2.1 (hts _ h1) (g := F0 m pc ls (.int n :: st.map (xv G))) rfl hd rfl hn hN hbytes hR.1 hR.2 hz (fun H1 cA e1 z1 o1 hAr hNm => ?_) T rfl X
  cases hfc0.symm.trans hNm
  refine h p e s m args below meth c H1 locs ls C ⟨by have := hS.1; omega, fun q q1 q2 => (o1 q (by have := hS.1; omega)).trans (hS.2.1 q q1 q2), hS.2.2⟩ ?_ (xM_app hM hw _ _) hl
  show va_P (gD G) xcl (xws G (w.2 ++ [.inl (t, N, a0)])) H1
  rw [xws_app, hxe cA0 e0]
  refine va_P.app (hW.kept (fun k q hk => o1 q.1 (by have := (hW k q hk).lt; omega))) (fun k q hq => ?_)
  have hk0 : k < 1 := (List.getElem?_eq_some_iff.mp hq).1
  rw [show k = 0 by omega] at hq
  cases hq
  show H1[gb G + w.2.length]? = some (vp_cell cA0 (N, a0))
  rw [ha]
  exact e1
theorem J_anewa {t N index : Nat} {C0 : String} {n : Int32} (hd : decode y.2.1 pc = .ok (.anewarray index, 3)) (hw : w.1 = 2) (h1 : Cond.classLink y.1.cls index C0 ∈ xTw) (h2 : C0 ∈ xTo) (hn : ¬ n < 0) (hN : n.toNatClampNeg = N) (hbytes : N * 4 ≤ 536870912) (ht : ∃ cA, (gT G)[t]? = some (cA, .object C0)) (hR : k.1 + 1 ≤ y.2.2.2.2.1.cells ∧ k.2 + N ≤ y.2.2.2.2.1.slots)
    (h : JW G y (k.1 + 1, k.2 + N) (pc + 3) L (.ref w.2.length :: st) (2, w.2 ++ [.inl (t, N, .inr (.inr (.inr (.inr (fun _ => none)))))]) r) : JW G y k pc L (.int n :: st) w r := by
  intro p e s m args below meth c H locs ls C hS hW hM hl T hT X
  subst hT
  subst hN
  have hts := C.2.2.2.2.2.1
  have hK := C.2.2.2.2.2.2.2.2.1
  have hz : T.heap.size = gb G + w.2.length := x_exact X hK.2.1 hS.1 hW (hM.2 hw)
  obtain ⟨cA0, hcA0⟩ := ht
  have e0 : ((gT G).getD t (0, .int)).1 = cA0 := by rw [List.getD_eq_getElem?_getD, hcA0]; rfl
  obtain ⟨kA0, comp0, -, -, -, hfc0⟩ := (hK.2.2.1.2 t _ hcA0).2
  refine W.anew C.1 C.2.1 C.2.2.2.2.1 (hts _ h1) (va_AO.use (hK.2.2.2.2.2.2.2.2.2.2.2.2.2.2 _ h2)) (g := F0 m pc ls (.int n :: st.map (xv G))) rfl hd rfl hn hbytes hR.1 hR.2 (fun cA kA comp f1 f2 f3 f4 => ?_) T rfl X
  cases hfc0.symm.trans f1
  generalize hH1 : T.heap.push ({ cls := cA0, slots := Array.replicate n.toNatClampNeg .null, vm := .none } : Cell) = H1
  have z1 : H1.size = T.heap.size + 1 := by rw [← hH1, Array.size_push]
  have e1 : H1[T.heap.size]? = some (arrV cA0 n.toNatClampNeg (fun _ => .null)) := by rw [← hH1, Array.getElem?_push_size, ← arrV_new]
  have o1 : ∀ q : Nat, q < T.heap.size → H1[q]? = T.heap[q]? := fun q hq => by rw [← hH1, Array.getElem?_push, if_neg (Nat.ne_of_lt hq)]
  rw [hz]
  refine h p e s m args below meth c H1 locs ls C ⟨by have := hS.1; omega, fun q q1 q2 => (o1 q (by have := hS.1; omega)).trans (hS.2.1 q q1 q2), hS.2.2⟩ ?_ (xM_app hM hw _ _) hl
  show va_P (gD G) xcl (xws G (w.2 ++ [.inl (t, n.toNatClampNeg, .inr (.inr (.inr (.inr (fun _ => none)))))])) H1
  rw [xws_app]
  refine va_P.app (hW.kept (fun k q hk => o1 q.1 ((hW k q hk).lt))) (fun k q hq => ?_)
  have hk0 : k < 1 := (List.getElem?_eq_some_iff.mp hq).1
  rw [show k = 0 by omega] at hq
  cases hq
  show H1[gb G + w.2.length]? = some (vp_cell ((gT G).getD t (0, .int)).1 _)
  rw [e0, ← hz, e1]
  rfl
/-- more room is counted than was used -/
theorem J_widen {k2 : Nat × Nat} (h1 : k.1 ≤ k2.1) (h2 : k.2 ≤ k2.2) (hw : ¬ w.1 = 2) (h : JW G y k2 pc L st w r) : JW G y k pc L st w r :=
  fun p e s m args below meth c H locs ls C hS hW hM hl => W.widen h1 h2 (h p e s m args below meth c H locs ls C hS hW ⟨hM.1, fun q => absurd q hw⟩ hl)
/-- the mode may be forgotten -/
theorem J_forget (h : JW G y k pc L st (0, w.2) r) : JW G y k pc L st w r :=
  fun p e s m args below meth c H locs ls C hS hW hM hl => h p e s m args below meth c H locs ls C hS hW ⟨fun q => (by cases q), fun q => (by cases q)⟩ hl
end XG
end
section
section XH
variable {G : xG} {y : xY} {k : Nat × Nat} {pc : Nat} {L : List (Nat × Value)} {st : List Value} {w : xH} {r : xR}
theorem xGo_v0 {z : xY} {index i ci : Nat} {fs : List Value} {q : vw_C} (hd : decode y.2.1 pc = .ok (.invokevirtual index, 3)) (hc : xcv y.1.cls index z 0) (hi : w.2[i]? = some (.inr (ci, fs))) (hq : xcl[ci]? = some q) (hqz : q.1 = z.1.cls) : xGo G y k pc L (.ref i :: st) w z [.ref i] st := xGo_v (avs := []) hd hc hi hq hqz rfl
theorem xGo_s0 {z : xY} {index : Nat} (hd : decode y.2.1 pc = .ok (.invokestatic index, 3)) (hc : xcs y.1.cls index z 0) : xGo G y k pc L (st) w z [] st := xGo_s (avs := []) hd hc rfl
theorem xGo_n0 {z : xY} {index : Nat} {host : String} (hd : decode y.2.1 pc = .ok (.invokestatic index, 3)) (hc : xcn y.1.cls index z 0 host) : xGo G y k pc L (st) w z [] st := xGo_n (avs := []) hd hc rfl
theorem xGo_i0 {nm : MethodName} {by_ : ByteArray} {ml : Nat} {rm : Room} {index i : Nat} (hd : decode y.2.1 pc = .ok (.invokespecial index, 3)) (hc : xcw (nm, by_, ml, none, rm, []) 0) (hl1 : Cond.methodLink y.1.cls index nm ∈ xTw) (hl2 : Cond.instanceMethod nm ∈ xTw) (hin : nm.name = "<init>") : xGo G y k pc L (.ref i :: st) w (nm, by_, ml, none, rm, []) [.ref i] st := xGo_i (avs := []) hd hc hl1 hl2 hin rfl
theorem xGo_v1 {z : xY} {index i ci : Nat} {a1 : Value} {fs : List Value} {q : vw_C} (hd : decode y.2.1 pc = .ok (.invokevirtual index, 3)) (hc : xcv y.1.cls index z 1) (hi : w.2[i]? = some (.inr (ci, fs))) (hq : xcl[ci]? = some q) (hqz : q.1 = z.1.cls) : xGo G y k pc L (a1 :: .ref i :: st) w z [.ref i, a1] st := xGo_v (avs := [a1]) hd hc hi hq hqz rfl
theorem xGo_s1 {z : xY} {index : Nat} {a1 : Value} (hd : decode y.2.1 pc = .ok (.invokestatic index, 3)) (hc : xcs y.1.cls index z 1) : xGo G y k pc L (a1 :: st) w z [a1] st := xGo_s (avs := [a1]) hd hc rfl
theorem xGo_n1 {z : xY} {index : Nat} {host : String} {a1 : Value} (hd : decode y.2.1 pc = .ok (.invokestatic index, 3)) (hc : xcn y.1.cls index z 1 host) : xGo G y k pc L (a1 :: st) w z [a1] st := xGo_n (avs := [a1]) hd hc rfl
theorem xGo_i1 {nm : MethodName} {by_ : ByteArray} {ml : Nat} {rm : Room} {index i : Nat} {a1 : Value} (hd : decode y.2.1 pc = .ok (.invokespecial index, 3)) (hc : xcw (nm, by_, ml, none, rm, []) 1) (hl1 : Cond.methodLink y.1.cls index nm ∈ xTw) (hl2 : Cond.instanceMethod nm ∈ xTw) (hin : nm.name = "<init>") : xGo G y k pc L (a1 :: .ref i :: st) w (nm, by_, ml, none, rm, []) [.ref i, a1] st := xGo_i (avs := [a1]) hd hc hl1 hl2 hin rfl
theorem xGo_v2 {z : xY} {index i ci : Nat} {a1 : Value} {a2 : Value} {fs : List Value} {q : vw_C} (hd : decode y.2.1 pc = .ok (.invokevirtual index, 3)) (hc : xcv y.1.cls index z 2) (hi : w.2[i]? = some (.inr (ci, fs))) (hq : xcl[ci]? = some q) (hqz : q.1 = z.1.cls) : xGo G y k pc L (a2 :: a1 :: .ref i :: st) w z [.ref i, a1, a2] st := xGo_v (avs := [a1, a2]) hd hc hi hq hqz rfl
theorem xGo_s2 {z : xY} {index : Nat} {a1 : Value} {a2 : Value} (hd : decode y.2.1 pc = .ok (.invokestatic index, 3)) (hc : xcs y.1.cls index z 2) : xGo G y k pc L (a2 :: a1 :: st) w z [a1, a2] st := xGo_s (avs := [a1, a2]) hd hc rfl
theorem xGo_n2 {z : xY} {index : Nat} {host : String} {a1 : Value} {a2 : Value} (hd : decode y.2.1 pc = .ok (.invokestatic index, 3)) (hc : xcn y.1.cls index z 2 host) : xGo G y k pc L (a2 :: a1 :: st) w z [a1, a2] st := xGo_n (avs := [a1, a2]) hd hc rfl
theorem xGo_i2 {nm : MethodName} {by_ : ByteArray} {ml : Nat} {rm : Room} {index i : Nat} {a1 : Value} {a2 : Value} (hd : decode y.2.1 pc = .ok (.invokespecial index, 3)) (hc : xcw (nm, by_, ml, none, rm, []) 2) (hl1 : Cond.methodLink y.1.cls index nm ∈ xTw) (hl2 : Cond.instanceMethod nm ∈ xTw) (hin : nm.name = "<init>") : xGo G y k pc L (a2 :: a1 :: .ref i :: st) w (nm, by_, ml, none, rm, []) [.ref i, a1, a2] st := xGo_i (avs := [a1, a2]) hd hc hl1 hl2 hin rfl
theorem xGo_v3 {z : xY} {index i ci : Nat} {a1 : Value} {a2 : Value} {a3 : Value} {fs : List Value} {q : vw_C} (hd : decode y.2.1 pc = .ok (.invokevirtual index, 3)) (hc : xcv y.1.cls index z 3) (hi : w.2[i]? = some (.inr (ci, fs))) (hq : xcl[ci]? = some q) (hqz : q.1 = z.1.cls) : xGo G y k pc L (a3 :: a2 :: a1 :: .ref i :: st) w z [.ref i, a1, a2, a3] st := xGo_v (avs := [a1, a2, a3]) hd hc hi hq hqz rfl
theorem xGo_s3 {z : xY} {index : Nat} {a1 : Value} {a2 : Value} {a3 : Value} (hd : decode y.2.1 pc = .ok (.invokestatic index, 3)) (hc : xcs y.1.cls index z 3) : xGo G y k pc L (a3 :: a2 :: a1 :: st) w z [a1, a2, a3] st := xGo_s (avs := [a1, a2, a3]) hd hc rfl
theorem xGo_n3 {z : xY} {index : Nat} {host : String} {a1 : Value} {a2 : Value} {a3 : Value} (hd : decode y.2.1 pc = .ok (.invokestatic index, 3)) (hc : xcn y.1.cls index z 3 host) : xGo G y k pc L (a3 :: a2 :: a1 :: st) w z [a1, a2, a3] st := xGo_n (avs := [a1, a2, a3]) hd hc rfl
theorem xGo_i3 {nm : MethodName} {by_ : ByteArray} {ml : Nat} {rm : Room} {index i : Nat} {a1 : Value} {a2 : Value} {a3 : Value} (hd : decode y.2.1 pc = .ok (.invokespecial index, 3)) (hc : xcw (nm, by_, ml, none, rm, []) 3) (hl1 : Cond.methodLink y.1.cls index nm ∈ xTw) (hl2 : Cond.instanceMethod nm ∈ xTw) (hin : nm.name = "<init>") : xGo G y k pc L (a3 :: a2 :: a1 :: .ref i :: st) w (nm, by_, ml, none, rm, []) [.ref i, a1, a2, a3] st := xGo_i (avs := [a1, a2, a3]) hd hc hl1 hl2 hin rfl
theorem xGo_v4 {z : xY} {index i ci : Nat} {a1 : Value} {a2 : Value} {a3 : Value} {a4 : Value} {fs : List Value} {q : vw_C} (hd : decode y.2.1 pc = .ok (.invokevirtual index, 3)) (hc : xcv y.1.cls index z 4) (hi : w.2[i]? = some (.inr (ci, fs))) (hq : xcl[ci]? = some q) (hqz : q.1 = z.1.cls) : xGo G y k pc L (a4 :: a3 :: a2 :: a1 :: .ref i :: st) w z [.ref i, a1, a2, a3, a4] st := xGo_v (avs := [a1, a2, a3, a4]) hd hc hi hq hqz rfl
theorem xGo_s4 {z : xY} {index : Nat} {a1 : Value} {a2 : Value} {a3 : Value} {a4 : Value} (hd : decode y.2.1 pc = .ok (.invokestatic index, 3)) (hc : xcs y.1.cls index z 4) : xGo G y k pc L (a4 :: a3 :: a2 :: a1 :: st) w z [a1, a2, a3, a4] st := xGo_s (avs := [a1, a2, a3, a4]) hd hc rfl
theorem xGo_n4 {z : xY} {index : Nat} {host : String} {a1 : Value} {a2 : Value} {a3 : Value} {a4 : Value} (hd : decode y.2.1 pc = .ok (.invokestatic index, 3)) (hc : xcn y.1.cls index z 4 host) : xGo G y k pc L (a4 :: a3 :: a2 :: a1 :: st) w z [a1, a2, a3, a4] st := xGo_n (avs := [a1, a2, a3, a4]) hd hc rfl
theorem xGo_i4 {nm : MethodName} {by_ : ByteArray} {ml : Nat} {rm : Room} {index i : Nat} {a1 : Value} {a2 : Value} {a3 : Value} {a4 : Value} (hd : decode y.2.1 pc = .ok (.invokespecial index, 3)) (hc : xcw (nm, by_, ml, none, rm, []) 4) (hl1 : Cond.methodLink y.1.cls index nm ∈ xTw) (hl2 : Cond.instanceMethod nm ∈ xTw) (hin : nm.name = "<init>") : xGo G y k pc L (a4 :: a3 :: a2 :: a1 :: .ref i :: st) w (nm, by_, ml, none, rm, []) [.ref i, a1, a2, a3, a4] st := xGo_i (avs := [a1, a2, a3, a4]) hd hc hl1 hl2 hin rfl
theorem xGo_v5 {z : xY} {index i ci : Nat} {a1 : Value} {a2 : Value} {a3 : Value} {a4 : Value} {a5 : Value} {fs : List Value} {q : vw_C} (hd : decode y.2.1 pc = .ok (.invokevirtual index, 3)) (hc : xcv y.1.cls index z 5) (hi : w.2[i]? = some (.inr (ci, fs))) (hq : xcl[ci]? = some q) (hqz : q.1 = z.1.cls) : xGo G y k pc L (a5 :: a4 :: a3 :: a2 :: a1 :: .ref i :: st) w z [.ref i, a1, a2, a3, a4, a5] st := xGo_v (avs := [a1, a2, a3, a4, a5]) hd hc hi hq hqz rfl
theorem xGo_s5 {z : xY} {index : Nat} {a1 : Value} {a2 : Value} {a3 : Value} {a4 : Value} {a5 : Value} (hd : decode y.2.1 pc = .ok (.invokestatic index, 3)) (hc : xcs y.1.cls index z 5) : xGo G y k pc L (a5 :: a4 :: a3 :: a2 :: a1 :: st) w z [a1, a2, a3, a4, a5] st := xGo_s (avs := [a1, a2, a3, a4, a5]) hd hc rfl
theorem xGo_n5 {z : xY} {index : Nat} {host : String} {a1 : Value} {a2 : Value} {a3 : Value} {a4 : Value} {a5 : Value} (hd : decode y.2.1 pc = .ok (.invokestatic index, 3)) (hc : xcn y.1.cls index z 5 host) : xGo G y k pc L (a5 :: a4 :: a3 :: a2 :: a1 :: st) w z [a1, a2, a3, a4, a5] st := xGo_n (avs := [a1, a2, a3, a4, a5]) hd hc rfl
theorem xGo_i5 {nm : MethodName} {by_ : ByteArray} {ml : Nat} {rm : Room} {index i : Nat} {a1 : Value} {a2 : Value} {a3 : Value} {a4 : Value} {a5 : Value} (hd : decode y.2.1 pc = .ok (.invokespecial index, 3)) (hc : xcw (nm, by_, ml, none, rm, []) 5) (hl1 : Cond.methodLink y.1.cls index nm ∈ xTw) (hl2 : Cond.instanceMethod nm ∈ xTw) (hin : nm.name = "<init>") : xGo G y k pc L (a5 :: a4 :: a3 :: a2 :: a1 :: .ref i :: st) w (nm, by_, ml, none, rm, []) [.ref i, a1, a2, a3, a4, a5] st := xGo_i (avs := [a1, a2, a3, a4, a5]) hd hc hl1 hl2 hin rfl
theorem xGo_v6 {z : xY} {index i ci : Nat} {a1 : Value} {a2 : Value} {a3 : Value} {a4 : Value} {a5 : Value} {a6 : Value} {fs : List Value} {q : vw_C} (hd : decode y.2.1 pc = .ok (.invokevirtual index, 3)) (hc : xcv y.1.cls index z 6) (hi : w.2[i]? = some (.inr (ci, fs))) (hq : xcl[ci]? = some q) (hqz : q.1 = z.1.cls) : xGo G y k pc L (a6 :: a5 :: a4 :: a3 :: a2 :: a1 :: .ref i :: st) w z [.ref i, a1, a2, a3, a4, a5, a6] st := xGo_v (avs := [a1, a2, a3, a4, a5, a6]) hd hc hi hq hqz rfl
theorem xGo_s6 {z : xY} {index : Nat} {a1 : Value} {a2 : Value} {a3 : Value} {a4 : Value} {a5 : Value} {a6 : Value} (hd : decode y.2.1 pc = .ok (.invokestatic index, 3)) (hc : xcs y.1.cls index z 6) : xGo G y k pc L (a6 :: a5 :: a4 :: a3 :: a2 :: a1 :: st) w z [a1, a2, a3, a4, a5, a6] st := xGo_s (avs := [a1, a2, a3, a4, a5, a6]) hd hc rfl
theorem xGo_n6 {z : xY} {index : Nat} {host : String} {a1 : Value} {a2 : Value} {a3 : Value} {a4 : Value} {a5 : Value} {a6 : Value} (hd : decode y.2.1 pc = .ok (.invokestatic index, 3)) (hc : xcn y.1.cls index z 6 host) : xGo G y k pc L (a6 :: a5 :: a4 :: a3 :: a2 :: a1 :: st) w z [a1, a2, a3, a4, a5, a6] st := xGo_n (avs := [a1, a2, a3, a4, a5, a6]) hd hc rfl
theorem xGo_i6 {nm : MethodName} {by_ : ByteArray} {ml : Nat} {rm : Room} {index i : Nat} {a1 : Value} {a2 : Value} {a3 : Value} {a4 : Value} {a5 : Value} {a6 : Value} (hd : decode y.2.1 pc = .ok (.invokespecial index, 3)) (hc : xcw (nm, by_, ml, none, rm, []) 6) (hl1 : Cond.methodLink y.1.cls index nm ∈ xTw) (hl2 : Cond.instanceMethod nm ∈ xTw) (hin : nm.name = "<init>") : xGo G y k pc L (a6 :: a5 :: a4 :: a3 :: a2 :: a1 :: .ref i :: st) w (nm, by_, ml, none, rm, []) [.ref i, a1, a2, a3, a4, a5, a6] st := xGo_i (avs := [a1, a2, a3, a4, a5, a6]) hd hc hl1 hl2 hin rfl
/-- a call that reads -/
theorem J_callP {z : xY} {avs st0 : List Value} {v : Option Value} (hg : xGo G y k pc L st0 w z avs st) (hz : xwd z ∈ xTw ∧ Cond.initialized z.1.cls ∈ xTw) (hR : xcR z k y.2.2.2.2.1) (hst : (st.map fun v => v.category).sum ≤ 8) (hM : XM G z avs (1, w.2) (.inl v, (1, w.2), 0, 0)) (h : JW G y k (pc + 3) L (v.toList ++ st) w r) : JW G y k pc L st0 w r :=
  J_call (w2 := w) (kz := (0, 0)) hg hz hR hst hM rfl ⟨fun q => ⟨q, rfl⟩, fun q => ⟨q, rfl⟩, fun q => (by cases q)⟩ h
/-- a call that writes -/
theorem J_callW {z : xY} {avs st0 : List Value} {v : Option Value} {h2 : List va_E} (hg : xGo G y k pc L st0 w z avs st) (hz : xwd z ∈ xTw ∧ Cond.initialized z.1.cls ∈ xTw) (hR : xcR z k y.2.2.2.2.1) (hst : (st.map fun v => v.category).sum ≤ 8) (hM : XM G z avs (1, w.2) (.inl v, (0, h2), 0, 0)) (h : JW G y k (pc + 3) L (v.toList ++ st) (0, h2) r) : JW G y k pc L st0 w r :=
  J_call (w2 := (0, h2)) (kz := (0, 0)) hg hz hR hst hM rfl ⟨fun q => (by cases q), fun q => (by cases q), fun q => (by cases q)⟩ h
/-- a call that may have made what is thrown and caught within it -/
theorem J_callX {z : xY} {avs st0 : List Value} {v : Option Value} {h2 : List va_E} {kz : Nat × Nat} (hg : xGo G y k pc L st0 w z avs st) (hz : xwd z ∈ xTw ∧ Cond.initialized z.1.cls ∈ xTw) (hR : xcR z k y.2.2.2.2.1) (hst : (st.map fun v => v.category).sum ≤ 8) (hM : XM G z avs (1, w.2) (.inl v, (0, h2), kz)) (h : JW G y (k.1 + kz.1, k.2 + kz.2) (pc + 3) L (v.toList ++ st) (0, h2) r) : JW G y k pc L st0 w r :=
  J_call (w2 := (0, h2)) hg hz hR hst hM rfl ⟨fun q => (by cases q), fun q => (by cases q), fun q => (by cases q)⟩ h
/-- a constructor's call -/
theorem J_callN {z : xY} {avs st0 : List Value} {h2 : List va_E} {kz : Nat × Nat} (hw : w.1 = 2) (hg : xGo G y k pc L st0 w z avs st) (hz : xwd z ∈ xTw ∧ Cond.initialized z.1.cls ∈ xTw) (hR : xcR z k y.2.2.2.2.1) (hst : (st.map fun v => v.category).sum ≤ 8) (hM : XM G z avs (2, w.2) (.inl none, (2, h2), kz)) (hlen : h2.length = w.2.length + kz.1) (h : JW G y (k.1 + kz.1, k.2 + kz.2) (pc + 3) L st (2, h2) r) : JW G y k pc L st0 w r :=
  J_call (w2 := (2, h2)) hg hz hR hst hM rfl ⟨fun q => (by cases q), fun _ => ⟨hw, hlen⟩, fun _ => hw⟩ h
/-- what a method that throws leaves, to its caller without a handler -/
theorem J_callE {z : xY} {avs st0 : List Value} {E : String} (hg : xGo G y (0, 0) pc L st0 w z avs st) (hz : xwd z ∈ xTw ∧ Cond.initialized z.1.cls ∈ xTw) (hR : xcR z (0, 0) y.2.2.2.2.1) (hst : (st.map fun v => v.category).sum ≤ 8) (hM : XM G z avs (1, w.2) (.inr E, (0, w.2), 1, 6)) (hhh : y.2.2.2.2.2 = []) (hr : r = (.inr E, (0, w.2), 1, 6)) : JW G y (0, 0) pc L st0 w r :=
  J_callT (kz := (1, 6)) hg hz hR hst hM (by decide) hhh hr
end XH
end
section
theorem xt_RF : xty 0 t_RF := fun C T N h => by cases h; exact ⟨xk_RF, xn_RF⟩
theorem xt_Sh : xty 1 t_Sh := fun C T N h => by cases h; exact ⟨xk_Sh, xn_Sh⟩
theorem xt_Pa : xty 2 t_Pa := fun C T N h => by cases h; exact ⟨xk_Pa, xn_Pa⟩
theorem xt_Bi : xty 3 t_Bi := fun C T N h => by cases h; exact ⟨xk_Bi, xn_Bi⟩
theorem xt_Sc : xty 4 t_Sc := fun C T N h => by cases h; exact ⟨xk_Sc, xn_Sc⟩
theorem xt_Bo : xty 5 t_Bo := fun C T N h => by cases h; exact ⟨xk_Bo, xn_Bo⟩
theorem xt_Mo : xty 6 t_Mo := fun C T N h => by cases h; exact ⟨xk_Mo, xn_Mo⟩
theorem xf_RF_12 : xfl "ResidueFlows" 12 0 0 := ⟨_, _, _, rfl, by decide, xTw_1 146 rfl rfl, xu_RF⟩
theorem xf_RF_18 : xfl "ResidueFlows" 18 0 1 := ⟨_, _, _, rfl, by decide, xTw_1 147 rfl rfl, xu_RF⟩
theorem xf_RF_24 : xfl "ResidueFlows" 24 0 2 := ⟨_, _, _, rfl, by decide, xTw_1 148 rfl rfl, xu_RF⟩
theorem xf_RF_28 : xfl "ResidueFlows" 28 0 3 := ⟨_, _, _, rfl, by decide, xTw_1 149 rfl rfl, xu_RF⟩
theorem xf_RF_33 : xfl "ResidueFlows" 33 0 5 := ⟨_, _, _, rfl, by decide, xTw_1 151 rfl rfl, xu_RF⟩
theorem xf_RF_40 : xfl "ResidueFlows" 40 0 7 := ⟨_, _, _, rfl, by decide, xTw_1 153 rfl rfl, xu_RF⟩
theorem xf_RF_48 : xfl "ResidueFlows" 48 0 8 := ⟨_, _, _, rfl, by decide, xTw_1 154 rfl rfl, xu_RF⟩
theorem xf_RF_64 : xfl "ResidueFlows" 64 1 0 := ⟨_, _, _, rfl, by decide, xTw_1 29 rfl rfl, xu_Sh⟩
theorem xf_RF_68 : xfl "ResidueFlows" 68 1 1 := ⟨_, _, _, rfl, by decide, xTw_1 31 rfl rfl, xu_Sh⟩
theorem xf_RF_91 : xfl "ResidueFlows" 91 0 4 := ⟨_, _, _, rfl, by decide, xTw_1 150 rfl rfl, xu_RF⟩
theorem xf_RF_105 : xfl "ResidueFlows" 105 2 4 := ⟨_, _, _, rfl, by decide, xTw_1 48 rfl rfl, xu_Pa⟩
theorem xf_RF_112 : xfl "ResidueFlows" 112 0 6 := ⟨_, _, _, rfl, by decide, xTw_1 152 rfl rfl, xu_RF⟩
theorem xf_RF_120 : xfl "ResidueFlows" 120 3 0 := ⟨_, _, _, rfl, by decide, xTw_1 68 rfl rfl, xu_Bi⟩
theorem xf_RF_123 : xfl "ResidueFlows" 123 3 1 := ⟨_, _, _, rfl, by decide, xTw_1 70 rfl rfl, xu_Bi⟩
theorem xf_RF_141 : xfl "ResidueFlows" 141 3 2 := ⟨_, _, _, rfl, by decide, xTw_1 72 rfl rfl, xu_Bi⟩
theorem xf_RF_144 : xfl "ResidueFlows" 144 3 3 := ⟨_, _, _, rfl, by decide, xTw_1 74 rfl rfl, xu_Bi⟩
theorem xf_RF_147 : xfl "ResidueFlows" 147 3 4 := ⟨_, _, _, rfl, by decide, xTw_1 76 rfl rfl, xu_Bi⟩
theorem xf_RF_171 : xfl "ResidueFlows" 171 4 0 := ⟨_, _, _, rfl, by decide, xTw_1 104 rfl rfl, xu_Sc⟩
theorem xf_RF_177 : xfl "ResidueFlows" 177 4 1 := ⟨_, _, _, rfl, by decide, xTw_1 106 rfl rfl, xu_Sc⟩
theorem xf_RF_180 : xfl "ResidueFlows" 180 4 2 := ⟨_, _, _, rfl, by decide, xTw_1 108 rfl rfl, xu_Sc⟩
theorem xf_RF_183 : xfl "ResidueFlows" 183 4 3 := ⟨_, _, _, rfl, by decide, xTw_1 110 rfl rfl, xu_Sc⟩
theorem xf_RF_186 : xfl "ResidueFlows" 186 4 4 := ⟨_, _, _, rfl, by decide, xTw_1 112 rfl rfl, xu_Sc⟩
theorem xf_RF_189 : xfl "ResidueFlows" 189 4 5 := ⟨_, _, _, rfl, by decide, xTw_1 114 rfl rfl, xu_Sc⟩
theorem xf_RF_199 : xfl "ResidueFlows" 199 0 9 := ⟨_, _, _, rfl, by decide, xTw_1 155 rfl rfl, xu_RF⟩
theorem xf_RF_202 : xfl "ResidueFlows" 202 0 10 := ⟨_, _, _, rfl, by decide, xTw_1 156 rfl rfl, xu_RF⟩
theorem xf_RF_205 : xfl "ResidueFlows" 205 0 11 := ⟨_, _, _, rfl, by decide, xTw_1 157 rfl rfl, xu_RF⟩
theorem xf_RF_226 : xfl "ResidueFlows" 226 5 0 := ⟨_, _, _, rfl, by decide, xTw_1 135 rfl rfl, xu_Bo⟩
theorem xf_RF_262 : xfl "ResidueFlows" 262 3 5 := ⟨_, _, _, rfl, by decide, xTw_1 78 rfl rfl, xu_Bi⟩
theorem xf_RF_265 : xfl "ResidueFlows" 265 3 6 := ⟨_, _, _, rfl, by decide, xTw_1 80 rfl rfl, xu_Bi⟩
theorem xf_Bi_11 : xfl "ResidueFlows$Bin" 11 3 4 := ⟨_, _, _, rfl, by decide, xTw_1 75 rfl rfl, xu_Bi⟩
theorem xf_Bi_17 : xfl "ResidueFlows$Bin" 17 3 6 := ⟨_, _, _, rfl, by decide, xTw_1 79 rfl rfl, xu_Bi⟩
theorem xf_Bi_21 : xfl "ResidueFlows$Bin" 21 3 2 := ⟨_, _, _, rfl, by decide, xTw_1 71 rfl rfl, xu_Bi⟩
theorem xf_Bi_24 : xfl "ResidueFlows$Bin" 24 3 3 := ⟨_, _, _, rfl, by decide, xTw_1 73 rfl rfl, xu_Bi⟩
theorem xf_Bi_33 : xfl "ResidueFlows$Bin" 33 3 1 := ⟨_, _, _, rfl, by decide, xTw_1 69 rfl rfl, xu_Bi⟩
theorem xf_Bi_44 : xfl "ResidueFlows$Bin" 44 3 5 := ⟨_, _, _, rfl, by decide, xTw_1 77 rfl rfl, xu_Bi⟩
theorem xf_Bo_9 : xfl "ResidueFlows$Boiler" 9 5 1 := ⟨_, _, _, rfl, by decide, xTw_1 136 rfl rfl, xu_Bo⟩
theorem xf_Bo_15 : xfl "ResidueFlows$Boiler" 15 5 2 := ⟨_, _, _, rfl, by decide, xTw_1 137 rfl rfl, xu_Bo⟩
theorem xf_Bo_18 : xfl "ResidueFlows$Boiler" 18 5 0 := ⟨_, _, _, rfl, by decide, xTw_1 134 rfl rfl, xu_Bo⟩
theorem xf_Pa_9 : xfl "ResidueFlows$Parts" 9 2 0 := ⟨_, _, _, rfl, by decide, xTw_1 43 rfl rfl, xu_Pa⟩
theorem xf_Pa_15 : xfl "ResidueFlows$Parts" 15 2 1 := ⟨_, _, _, rfl, by decide, xTw_1 44 rfl rfl, xu_Pa⟩
theorem xf_Pa_18 : xfl "ResidueFlows$Parts" 18 2 2 := ⟨_, _, _, rfl, by decide, xTw_1 45 rfl rfl, xu_Pa⟩
theorem xf_Pa_21 : xfl "ResidueFlows$Parts" 21 2 3 := ⟨_, _, _, rfl, by decide, xTw_1 46 rfl rfl, xu_Pa⟩
theorem xf_Pa_24 : xfl "ResidueFlows$Parts" 24 2 4 := ⟨_, _, _, rfl, by decide, xTw_1 47 rfl rfl, xu_Pa⟩
theorem xf_Sc_7 : xfl "ResidueFlows$Screen" 7 4 0 := ⟨_, _, _, rfl, by decide, xTw_1 103 rfl rfl, xu_Sc⟩
theorem xf_Sc_13 : xfl "ResidueFlows$Screen" 13 4 1 := ⟨_, _, _, rfl, by decide, xTw_1 105 rfl rfl, xu_Sc⟩
theorem xf_Sc_17 : xfl "ResidueFlows$Screen" 17 4 2 := ⟨_, _, _, rfl, by decide, xTw_1 107 rfl rfl, xu_Sc⟩
theorem xf_Sc_20 : xfl "ResidueFlows$Screen" 20 4 3 := ⟨_, _, _, rfl, by decide, xTw_1 109 rfl rfl, xu_Sc⟩
theorem xf_Sc_23 : xfl "ResidueFlows$Screen" 23 4 4 := ⟨_, _, _, rfl, by decide, xTw_1 111 rfl rfl, xu_Sc⟩
theorem xf_Sc_26 : xfl "ResidueFlows$Screen" 26 4 5 := ⟨_, _, _, rfl, by decide, xTw_1 113 rfl rfl, xu_Sc⟩
theorem xf_Sh_7 : xfl "ResidueFlows$Share" 7 1 0 := ⟨_, _, _, rfl, by decide, xTw_1 28 rfl rfl, xu_Sh⟩
theorem xf_Sh_13 : xfl "ResidueFlows$Share" 13 1 1 := ⟨_, _, _, rfl, by decide, xTw_1 30 rfl rfl, xu_Sh⟩
theorem xf_Mo_7 : xfl "ResidueFlowsModel" 7 6 1 := ⟨_, _, _, rfl, by decide, xTw_3 71 rfl rfl, xu_Mo⟩
theorem xf_Mo_13 : xfl "ResidueFlowsModel" 13 6 2 := ⟨_, _, _, rfl, by decide, xTw_3 72 rfl rfl, xu_Mo⟩
theorem xf_Mo_16 : xfl "ResidueFlowsModel" 16 6 4 := ⟨_, _, _, rfl, by decide, xTw_3 74 rfl rfl, xu_Mo⟩
theorem xf_Mo_20 : xfl "ResidueFlowsModel" 20 6 5 := ⟨_, _, _, rfl, by decide, xTw_3 75 rfl rfl, xu_Mo⟩
theorem xf_Mo_23 : xfl "ResidueFlowsModel" 23 6 7 := ⟨_, _, _, rfl, by decide, xTw_3 77 rfl rfl, xu_Mo⟩
theorem xf_Mo_26 : xfl "ResidueFlowsModel" 26 6 8 := ⟨_, _, _, rfl, by decide, xTw_3 78 rfl rfl, xu_Mo⟩
theorem xf_Mo_29 : xfl "ResidueFlowsModel" 29 6 9 := ⟨_, _, _, rfl, by decide, xTw_3 79 rfl rfl, xu_Mo⟩
theorem xf_Mo_32 : xfl "ResidueFlowsModel" 32 6 10 := ⟨_, _, _, rfl, by decide, xTw_3 80 rfl rfl, xu_Mo⟩
theorem xf_Mo_37 : xfl "ResidueFlowsModel" 37 6 11 := ⟨_, _, _, rfl, by decide, xTw_3 81 rfl rfl, xu_Mo⟩
theorem xf_Mo_40 : xfl "ResidueFlowsModel" 40 6 12 := ⟨_, _, _, rfl, by decide, xTw_3 82 rfl rfl, xu_Mo⟩
theorem xf_Mo_43 : xfl "ResidueFlowsModel" 43 6 13 := ⟨_, _, _, rfl, by decide, xTw_3 83 rfl rfl, xu_Mo⟩
theorem xf_Mo_46 : xfl "ResidueFlowsModel" 46 6 14 := ⟨_, _, _, rfl, by decide, xTw_3 84 rfl rfl, xu_Mo⟩
theorem xf_Mo_50 : xfl "ResidueFlowsModel" 50 6 15 := ⟨_, _, _, rfl, by decide, xTw_3 85 rfl rfl, xu_Mo⟩
theorem xf_Mo_53 : xfl "ResidueFlowsModel" 53 6 16 := ⟨_, _, _, rfl, by decide, xTw_3 86 rfl rfl, xu_Mo⟩
theorem xf_Mo_56 : xfl "ResidueFlowsModel" 56 6 21 := ⟨_, _, _, rfl, by decide, xTw_3 91 rfl rfl, xu_Mo⟩
theorem xf_Mo_59 : xfl "ResidueFlowsModel" 59 6 22 := ⟨_, _, _, rfl, by decide, xTw_3 92 rfl rfl, xu_Mo⟩
theorem xf_Mo_62 : xfl "ResidueFlowsModel" 62 6 0 := ⟨_, _, _, rfl, by decide, xTw_3 70 rfl rfl, xu_Mo⟩
theorem xf_Mo_66 : xfl "ResidueFlowsModel" 66 6 6 := ⟨_, _, _, rfl, by decide, xTw_3 76 rfl rfl, xu_Mo⟩
theorem xf_Mo_81 : xfl "ResidueFlowsModel" 81 6 3 := ⟨_, _, _, rfl, by decide, xTw_3 73 rfl rfl, xu_Mo⟩
theorem xf_Mo_90 : xfl "ResidueFlowsModel" 90 6 17 := ⟨_, _, _, rfl, by decide, xTw_3 87 rfl rfl, xu_Mo⟩
theorem xf_Mo_122 : xfl "ResidueFlowsModel" 122 6 18 := ⟨_, _, _, rfl, by decide, xTw_3 88 rfl rfl, xu_Mo⟩
theorem xf_Mo_125 : xfl "ResidueFlowsModel" 125 6 19 := ⟨_, _, _, rfl, by decide, xTw_3 89 rfl rfl, xu_Mo⟩
theorem xf_Mo_130 : xfl "ResidueFlowsModel" 130 6 20 := ⟨_, _, _, rfl, by decide, xTw_3 90 rfl rfl, xu_Mo⟩
theorem xf_Mo_135 : xfl "ResidueFlowsModel" 135 6 24 := ⟨_, _, _, rfl, by decide, xTw_3 94 rfl rfl, xu_Mo⟩
theorem xf_Mo_138 : xfl "ResidueFlowsModel" 138 6 23 := ⟨_, _, _, rfl, by decide, xTw_3 93 rfl rfl, xu_Mo⟩
theorem xq_RF_init : xcw Y_RF_init 0 := ⟨xTw_1 18 rfl rfl, xTw_1 1 rfl rfl, ⟨by decide, by decide⟩, by decide +kernel⟩
theorem xq_Sh_init : xcw Y_Sh_init 2 := ⟨xTw_1 26 rfl rfl, xTw_1 2 rfl rfl, ⟨by decide, by decide⟩, by decide +kernel⟩
theorem xq_Pa_init : xcw Y_Pa_init 0 := ⟨xTw_1 41 rfl rfl, xTw_1 3 rfl rfl, ⟨by decide, by decide⟩, by decide +kernel⟩
theorem xq_Bi_init : xcw Y_Bi_init 0 := ⟨xTw_1 65 rfl rfl, xTw_1 4 rfl rfl, ⟨by decide, by decide⟩, by decide +kernel⟩
theorem xq_Sc_init : xcw Y_Sc_init 0 := ⟨xTw_1 101 rfl rfl, xTw_1 5 rfl rfl, ⟨by decide, by decide⟩, by decide +kernel⟩
theorem xq_Bo_init : xcw Y_Bo_init 0 := ⟨xTw_1 132 rfl rfl, xTw_1 6 rfl rfl, ⟨by decide, by decide⟩, by decide +kernel⟩
theorem xq_RF_begin : xcw Y_RF_begin 0 := ⟨xTw_1 186 rfl rfl, xTw_1 1 rfl rfl, ⟨by decide, by decide⟩, by decide +kernel⟩
theorem xq_RF_carbon : xcw Y_RF_carbon 0 := ⟨xTw_1 191 rfl rfl, xTw_1 1 rfl rfl, ⟨by decide, by decide⟩, by decide +kernel⟩
theorem xq_La_share : xcw Y_La_share 4 := ⟨xTw_1 195 rfl rfl, xTw_1 0 rfl rfl, ⟨by decide, by decide⟩, by decide +kernel⟩
theorem xq_RF_share : xcw Y_RF_share 3 := ⟨xTw_1 201 rfl rfl, xTw_1 1 rfl rfl, ⟨by decide, by decide⟩, by decide +kernel⟩
theorem xq_La_log : xcw Y_La_log 5 := ⟨xTw_2 48 rfl rfl, xTw_1 0 rfl rfl, ⟨by decide, by decide⟩, by decide +kernel⟩
theorem xq_RF_log : xcw Y_RF_log 3 := ⟨xTw_2 52 rfl rfl, xTw_1 1 rfl rfl, ⟨by decide, by decide⟩, by decide +kernel⟩
theorem xq_Sh_of : xcw Y_Sh_of 1 := ⟨xTw_2 58 rfl rfl, xTw_1 2 rfl rfl, ⟨by decide, by decide⟩, by decide +kernel⟩
theorem xq_RF_portion : xcw Y_RF_portion 3 := ⟨xTw_2 61 rfl rfl, xTw_1 1 rfl rfl, ⟨by decide, by decide⟩, by decide +kernel⟩
theorem xq_Pa_tell : xcw Y_Pa_tell 5 := ⟨xTw_2 67 rfl rfl, xTw_1 3 rfl rfl, ⟨by decide, by decide⟩, by decide +kernel⟩
theorem xq_Pa_add : xcw Y_Pa_add 1 := ⟨xTw_2 71 rfl rfl, xTw_1 3 rfl rfl, ⟨by decide, by decide⟩, by decide +kernel⟩
theorem xq_La_volume : xcw Y_La_volume 4 := ⟨xTw_2 74 rfl rfl, xTw_1 0 rfl rfl, ⟨by decide, by decide⟩, by decide +kernel⟩
theorem xq_RF_volume : xcw Y_RF_volume 2 := ⟨xTw_2 79 rfl rfl, xTw_1 1 rfl rfl, ⟨by decide, by decide⟩, by decide +kernel⟩
theorem xq_RF_checkKind : xcw Y_RF_checkKind 1 := ⟨xTw_2 82 rfl rfl, xTw_1 1 rfl rfl, ⟨by decide, by decide⟩, by decide +kernel⟩
theorem xq_RF_checkLogs : xcw Y_RF_checkLogs 0 := ⟨xTw_2 87 rfl rfl, xTw_1 1 rfl rfl, ⟨by decide, by decide⟩, by decide +kernel⟩
theorem xq_Pa_ofKind : xcw Y_Pa_ofKind 1 := ⟨xTw_2 107 rfl rfl, xTw_1 3 rfl rfl, ⟨by decide, by decide⟩, by decide +kernel⟩
theorem xq_La_boards : xcw Y_La_boards 3 := ⟨xTw_2 110 rfl rfl, xTw_1 0 rfl rfl, ⟨by decide, by decide⟩, by decide +kernel⟩
theorem xq_RF_boards : xcw Y_RF_boards 1 := ⟨xTw_2 114 rfl rfl, xTw_1 1 rfl rfl, ⟨by decide, by decide⟩, by decide +kernel⟩
theorem xq_La_bin : xcw Y_La_bin 4 := ⟨xTw_2 117 rfl rfl, xTw_1 0 rfl rfl, ⟨by decide, by decide⟩, by decide +kernel⟩
theorem xq_RF_bin : xcw Y_RF_bin 2 := ⟨xTw_2 121 rfl rfl, xTw_1 1 rfl rfl, ⟨by decide, by decide⟩, by decide +kernel⟩
theorem xq_La_pour : xcw Y_La_pour 5 := ⟨xTw_2 127 rfl rfl, xTw_1 0 rfl rfl, ⟨by decide, by decide⟩, by decide +kernel⟩
theorem xq_RF_pour : xcw Y_RF_pour 3 := ⟨xTw_2 131 rfl rfl, xTw_1 1 rfl rfl, ⟨by decide, by decide⟩, by decide +kernel⟩
theorem xq_RF_binAt : xcw Y_RF_binAt 1 := ⟨xTw_2 135 rfl rfl, xTw_1 1 rfl rfl, ⟨by decide, by decide⟩, by decide +kernel⟩
theorem xq_RF_checkPoured : xcw Y_RF_checkPoured 2 := ⟨xTw_2 139 rfl rfl, xTw_1 1 rfl rfl, ⟨by decide, by decide⟩, by decide +kernel⟩
theorem xq_Bi_hasRoom : xcw Y_Bi_hasRoom 1 := ⟨xTw_2 144 rfl rfl, xTw_1 4 rfl rfl, ⟨by decide, by decide⟩, by decide +kernel⟩
theorem xq_Bi_grams : xcw Y_Bi_grams 0 := ⟨xTw_2 148 rfl rfl, xTw_1 4 rfl rfl, ⟨by decide, by decide⟩, by decide +kernel⟩
theorem xq_RF_pourInto : xcw Y_RF_pourInto 3 := ⟨xTw_2 153 rfl rfl, xTw_1 1 rfl rfl, ⟨by decide, by decide⟩, by decide +kernel⟩
theorem xq_Bi_change : xcw Y_Bi_change 2 := ⟨xTw_2 157 rfl rfl, xTw_1 4 rfl rfl, ⟨by decide, by decide⟩, by decide +kernel⟩
theorem xq_La_about : xcw Y_La_about 4 := ⟨xTw_2 161 rfl rfl, xTw_1 0 rfl rfl, ⟨by decide, by decide⟩, by decide +kernel⟩
theorem xq_RF_about : xcw Y_RF_about 2 := ⟨xTw_2 165 rfl rfl, xTw_1 1 rfl rfl, ⟨by decide, by decide⟩, by decide +kernel⟩
theorem xq_La_screen : xcw Y_La_screen 7 := ⟨xTw_2 170 rfl rfl, xTw_1 0 rfl rfl, ⟨by decide, by decide⟩, by decide +kernel⟩
theorem xq_RF_screen : xcw Y_RF_screen 6 := ⟨xTw_2 174 rfl rfl, xTw_1 1 rfl rfl, ⟨by decide, by decide⟩, by decide +kernel⟩
theorem xq_RF_screenAt : xcw Y_RF_screenAt 1 := ⟨xTw_2 178 rfl rfl, xTw_1 1 rfl rfl, ⟨by decide, by decide⟩, by decide +kernel⟩
theorem xq_Sc_tell : xcw Y_Sc_tell 5 := ⟨xTw_2 187 rfl rfl, xTw_1 5 rfl rfl, ⟨by decide, by decide⟩, by decide +kernel⟩
theorem xq_La_send : xcw Y_La_send 5 := ⟨xTw_2 190 rfl rfl, xTw_1 0 rfl rfl, ⟨by decide, by decide⟩, by decide +kernel⟩
theorem xq_RF_send : xcw Y_RF_send 3 := ⟨xTw_2 194 rfl rfl, xTw_1 1 rfl rfl, ⟨by decide, by decide⟩, by decide +kernel⟩
theorem xq_La_scale : xcw Y_La_scale 3 := ⟨xTw_2 198 rfl rfl, xTw_1 0 rfl rfl, ⟨by decide, by decide⟩, by decide +kernel⟩
theorem xq_RF_scale : xcw Y_RF_scale 2 := ⟨xTw_2 202 rfl rfl, xTw_1 1 rfl rfl, ⟨by decide, by decide⟩, by decide +kernel⟩
theorem xq_La_shift : xcw Y_La_shift 3 := ⟨xTw_2 207 rfl rfl, xTw_1 0 rfl rfl, ⟨by decide, by decide⟩, by decide +kernel⟩
theorem xq_RF_shift : xcw Y_RF_shift 1 := ⟨xTw_2 211 rfl rfl, xTw_1 1 rfl rfl, ⟨by decide, by decide⟩, by decide +kernel⟩
theorem xq_RF_gramsLost : xcw Y_RF_gramsLost 0 := ⟨xTw_2 215 rfl rfl, xTw_1 1 rfl rfl, ⟨by decide, by decide⟩, by decide +kernel⟩
theorem xq_La_row : xcw Y_La_row 4 := ⟨xTw_2 219 rfl rfl, xTw_1 0 rfl rfl, ⟨by decide, by decide⟩, by decide +kernel⟩
theorem xq_RF_row : xcw Y_RF_row 2 := ⟨xTw_2 223 rfl rfl, xTw_1 1 rfl rfl, ⟨by decide, by decide⟩, by decide +kernel⟩
theorem xq_RF_checkDay : xcw Y_RF_checkDay 1 := ⟨xTw_2 226 rfl rfl, xTw_1 1 rfl rfl, ⟨by decide, by decide⟩, by decide +kernel⟩
theorem xq_Bo_lastDay : xcw Y_Bo_lastDay 0 := ⟨xTw_2 231 rfl rfl, xTw_1 6 rfl rfl, ⟨by decide, by decide⟩, by decide +kernel⟩
theorem xq_Bo_add : xcw Y_Bo_add 2 := ⟨xTw_2 236 rfl rfl, xTw_1 6 rfl rfl, ⟨by decide, by decide⟩, by decide +kernel⟩
theorem xq_La_burn : xcw Y_La_burn 5 := ⟨xTw_3 0 rfl rfl, xTw_1 0 rfl rfl, ⟨by decide, by decide⟩, by decide +kernel⟩
theorem xq_RF_burn : xcw Y_RF_burn 3 := ⟨xTw_3 4 rfl rfl, xTw_1 1 rfl rfl, ⟨by decide, by decide⟩, by decide +kernel⟩
theorem xq_RF_checkTaken : xcw Y_RF_checkTaken 1 := ⟨xTw_3 7 rfl rfl, xTw_1 1 rfl rfl, ⟨by decide, by decide⟩, by decide +kernel⟩
theorem xq_RF_checkEnough : xcw Y_RF_checkEnough 2 := ⟨xTw_3 11 rfl rfl, xTw_1 1 rfl rfl, ⟨by decide, by decide⟩, by decide +kernel⟩
theorem xq_Bi_waterIn : xcw Y_Bi_waterIn 1 := ⟨xTw_3 16 rfl rfl, xTw_1 4 rfl rfl, ⟨by decide, by decide⟩, by decide +kernel⟩
theorem xq_Bi_dryIn : xcw Y_Bi_dryIn 1 := ⟨xTw_3 21 rfl rfl, xTw_1 4 rfl rfl, ⟨by decide, by decide⟩, by decide +kernel⟩
theorem xq_RF_takeAway : xcw Y_RF_takeAway 3 := ⟨xTw_3 26 rfl rfl, xTw_1 1 rfl rfl, ⟨by decide, by decide⟩, by decide +kernel⟩
theorem xq_Bo_percentAt : xcw Y_Bo_percentAt 1 := ⟨xTw_3 32 rfl rfl, xTw_1 6 rfl rfl, ⟨by decide, by decide⟩, by decide +kernel⟩
theorem xq_La_sell : xcw Y_La_sell 5 := ⟨xTw_3 36 rfl rfl, xTw_1 0 rfl rfl, ⟨by decide, by decide⟩, by decide +kernel⟩
theorem xq_RF_sell : xcw Y_RF_sell 3 := ⟨xTw_3 40 rfl rfl, xTw_1 1 rfl rfl, ⟨by decide, by decide⟩, by decide +kernel⟩
theorem xq_La_span : xcw Y_La_span 4 := ⟨xTw_3 45 rfl rfl, xTw_1 0 rfl rfl, ⟨by decide, by decide⟩, by decide +kernel⟩
theorem xq_RF_span : xcw Y_RF_span 3 := ⟨xTw_3 49 rfl rfl, xTw_1 1 rfl rfl, ⟨by decide, by decide⟩, by decide +kernel⟩
theorem xq_La_mix : xcw Y_La_mix 5 := ⟨xTw_3 53 rfl rfl, xTw_1 0 rfl rfl, ⟨by decide, by decide⟩, by decide +kernel⟩
theorem xq_RF_mix : xcw Y_RF_mix 3 := ⟨xTw_3 57 rfl rfl, xTw_1 1 rfl rfl, ⟨by decide, by decide⟩, by decide +kernel⟩
theorem xq_Bi_spanAllows : xcw Y_Bi_spanAllows 2 := ⟨xTw_3 62 rfl rfl, xTw_1 4 rfl rfl, ⟨by decide, by decide⟩, by decide +kernel⟩
theorem xq_Mo_init : xcw Y_Mo_init 0 := ⟨xTw_3 67 rfl rfl, xTw_1 7 rfl rfl, ⟨by decide, by decide⟩, by decide +kernel⟩
theorem xq_Mo_thrown : xcw Y_Mo_thrown 0 := ⟨xTw_3 151 rfl rfl, xTw_1 7 rfl rfl, ⟨by decide, by decide⟩, by decide +kernel⟩
theorem xq_Mo_share : xcw Y_Mo_share 3 := ⟨xTw_3 155 rfl rfl, xTw_1 7 rfl rfl, ⟨by decide, by decide⟩, by decide +kernel⟩
theorem xq_Mo_isIn : xcw Y_Mo_isIn 3 := ⟨xTw_3 159 rfl rfl, xTw_1 7 rfl rfl, ⟨by decide, by decide⟩, by decide +kernel⟩
theorem xq_Mo_log : xcw Y_Mo_log 3 := ⟨xTw_3 163 rfl rfl, xTw_1 7 rfl rfl, ⟨by decide, by decide⟩, by decide +kernel⟩
theorem xq_Mo_volume : xcw Y_Mo_volume 2 := ⟨xTw_3 170 rfl rfl, xTw_1 7 rfl rfl, ⟨by decide, by decide⟩, by decide +kernel⟩
theorem xq_Mo_boards : xcw Y_Mo_boards 1 := ⟨xTw_3 174 rfl rfl, xTw_1 7 rfl rfl, ⟨by decide, by decide⟩, by decide +kernel⟩
theorem xq_Mo_bin : xcw Y_Mo_bin 2 := ⟨xTw_3 178 rfl rfl, xTw_1 7 rfl rfl, ⟨by decide, by decide⟩, by decide +kernel⟩
theorem xq_Mo_pour : xcw Y_Mo_pour 3 := ⟨xTw_3 183 rfl rfl, xTw_1 7 rfl rfl, ⟨by decide, by decide⟩, by decide +kernel⟩
theorem xq_Mo_noBin : xcw Y_Mo_noBin 1 := ⟨xTw_3 187 rfl rfl, xTw_1 7 rfl rfl, ⟨by decide, by decide⟩, by decide +kernel⟩
theorem xq_Mo_isPoured : xcw Y_Mo_isPoured 2 := ⟨xTw_3 190 rfl rfl, xTw_1 7 rfl rfl, ⟨by decide, by decide⟩, by decide +kernel⟩
theorem xq_Mo_hasRoom : xcw Y_Mo_hasRoom 2 := ⟨xTw_3 194 rfl rfl, xTw_1 7 rfl rfl, ⟨by decide, by decide⟩, by decide +kernel⟩
theorem xq_Mo_all : xcw Y_Mo_all 1 := ⟨xTw_3 198 rfl rfl, xTw_1 7 rfl rfl, ⟨by decide, by decide⟩, by decide +kernel⟩
theorem xq_Mo_add : xcw Y_Mo_add 3 := ⟨xTw_3 202 rfl rfl, xTw_1 7 rfl rfl, ⟨by decide, by decide⟩, by decide +kernel⟩
theorem xq_Mo_about : xcw Y_Mo_about 2 := ⟨xTw_3 206 rfl rfl, xTw_1 7 rfl rfl, ⟨by decide, by decide⟩, by decide +kernel⟩
theorem xq_Mo_screen : xcw Y_Mo_screen 6 := ⟨xTw_3 210 rfl rfl, xTw_1 7 rfl rfl, ⟨by decide, by decide⟩, by decide +kernel⟩
theorem xq_Mo_send : xcw Y_Mo_send 3 := ⟨xTw_3 215 rfl rfl, xTw_1 7 rfl rfl, ⟨by decide, by decide⟩, by decide +kernel⟩
theorem xq_Mo_part : xcw Y_Mo_part 3 := ⟨xTw_3 219 rfl rfl, xTw_1 7 rfl rfl, ⟨by decide, by decide⟩, by decide +kernel⟩
theorem xq_Mo_others : xcw Y_Mo_others 2 := ⟨xTw_3 223 rfl rfl, xTw_1 7 rfl rfl, ⟨by decide, by decide⟩, by decide +kernel⟩
theorem xq_Mo_scale : xcw Y_Mo_scale 2 := ⟨xTw_3 227 rfl rfl, xTw_1 7 rfl rfl, ⟨by decide, by decide⟩, by decide +kernel⟩
theorem xq_Mo_shift : xcw Y_Mo_shift 1 := ⟨xTw_3 232 rfl rfl, xTw_1 7 rfl rfl, ⟨by decide, by decide⟩, by decide +kernel⟩
theorem xq_Mo_begin : xcw Y_Mo_begin 0 := ⟨xTw_3 236 rfl rfl, xTw_1 7 rfl rfl, ⟨by decide, by decide⟩, by decide +kernel⟩
theorem xq_Mo_row : xcw Y_Mo_row 2 := ⟨xTw_4 0 rfl rfl, xTw_1 7 rfl rfl, ⟨by decide, by decide⟩, by decide +kernel⟩
theorem xq_Mo_burn : xcw Y_Mo_burn 3 := ⟨xTw_4 6 rfl rfl, xTw_1 7 rfl rfl, ⟨by decide, by decide⟩, by decide +kernel⟩
theorem xq_Mo_has : xcw Y_Mo_has 2 := ⟨xTw_4 10 rfl rfl, xTw_1 7 rfl rfl, ⟨by decide, by decide⟩, by decide +kernel⟩
theorem xq_Mo_take : xcw Y_Mo_take 2 := ⟨xTw_4 14 rfl rfl, xTw_1 7 rfl rfl, ⟨by decide, by decide⟩, by decide +kernel⟩
theorem xq_Mo_goes : xcw Y_Mo_goes 1 := ⟨xTw_4 18 rfl rfl, xTw_1 7 rfl rfl, ⟨by decide, by decide⟩, by decide +kernel⟩
theorem xq_Mo_sell : xcw Y_Mo_sell 3 := ⟨xTw_4 25 rfl rfl, xTw_1 7 rfl rfl, ⟨by decide, by decide⟩, by decide +kernel⟩
theorem xq_Mo_span : xcw Y_Mo_span 3 := ⟨xTw_4 29 rfl rfl, xTw_1 7 rfl rfl, ⟨by decide, by decide⟩, by decide +kernel⟩
theorem xq_Mo_mix : xcw Y_Mo_mix 3 := ⟨xTw_4 33 rfl rfl, xTw_1 7 rfl rfl, ⟨by decide, by decide⟩, by decide +kernel⟩
theorem xq_Mo_carbon : xcw Y_Mo_carbon 0 := ⟨xTw_4 37 rfl rfl, xTw_1 7 rfl rfl, ⟨by decide, by decide⟩, by decide +kernel⟩
theorem xl_RF_9 : Cond.methodLink "ResidueFlows" 9 ⟨"ResidueFlows$Share", "<init>", "(II)V"⟩ ∈ xTw ∧ Cond.instanceMethod ⟨"ResidueFlows$Share", "<init>", "(II)V"⟩ ∈ xTw := ⟨xTw_1 24 rfl rfl, xTw_1 25 rfl rfl⟩
theorem xl_RF_23 : Cond.methodLink "ResidueFlows" 23 ⟨"ResidueFlows$Parts", "<init>", "()V"⟩ ∈ xTw ∧ Cond.instanceMethod ⟨"ResidueFlows$Parts", "<init>", "()V"⟩ ∈ xTw := ⟨xTw_1 39 rfl rfl, xTw_1 40 rfl rfl⟩
theorem xl_RF_37 : Cond.methodLink "ResidueFlows" 37 ⟨"ResidueFlows$Bin", "<init>", "()V"⟩ ∈ xTw ∧ Cond.instanceMethod ⟨"ResidueFlows$Bin", "<init>", "()V"⟩ ∈ xTw := ⟨xTw_1 63 rfl rfl, xTw_1 64 rfl rfl⟩
theorem xl_RF_44 : Cond.methodLink "ResidueFlows" 44 ⟨"ResidueFlows$Screen", "<init>", "()V"⟩ ∈ xTw ∧ Cond.instanceMethod ⟨"ResidueFlows$Screen", "<init>", "()V"⟩ ∈ xTw := ⟨xTw_1 99 rfl rfl, xTw_1 100 rfl rfl⟩
theorem xl_RF_47 : Cond.methodLink "ResidueFlows" 47 ⟨"ResidueFlows$Boiler", "<init>", "()V"⟩ ∈ xTw ∧ Cond.instanceMethod ⟨"ResidueFlows$Boiler", "<init>", "()V"⟩ ∈ xTw := ⟨xTw_1 130 rfl rfl, xTw_1 131 rfl rfl⟩
theorem xc_RF_75 : xcv "ResidueFlows" 75 Y_Sh_of 1 := ⟨xq_Sh_of, xTw_2 55 rfl rfl, xTw_2 56 rfl rfl, xTw_2 57 rfl rfl⟩
theorem xc_RF_83 : xcv "ResidueFlows" 83 Y_Pa_tell 5 := ⟨xq_Pa_tell, xTw_2 64 rfl rfl, xTw_2 65 rfl rfl, xTw_2 66 rfl rfl⟩
theorem xc_RF_87 : xcv "ResidueFlows" 87 Y_Pa_add 1 := ⟨xq_Pa_add, xTw_2 68 rfl rfl, xTw_2 69 rfl rfl, xTw_2 70 rfl rfl⟩
theorem xc_RF_94 : xcs "ResidueFlows" 94 Y_RF_checkKind 1 := ⟨xq_RF_checkKind, xTw_2 80 rfl rfl, xTw_2 81 rfl rfl⟩
theorem xc_RF_98 : xcv "ResidueFlows" 98 Y_RF_checkLogs 0 := ⟨xq_RF_checkLogs, xTw_2 84 rfl rfl, xTw_2 86 rfl rfl, xTw_p 1 rfl rfl⟩
theorem xc_RF_101 : xcv "ResidueFlows" 101 Y_Pa_ofKind 1 := ⟨xq_Pa_ofKind, xTw_2 104 rfl rfl, xTw_2 105 rfl rfl, xTw_2 106 rfl rfl⟩
theorem xc_RF_126 : xcv "ResidueFlows" 126 Y_RF_binAt 1 := ⟨xq_RF_binAt, xTw_2 132 rfl rfl, xTw_2 134 rfl rfl, xTw_p 2 rfl rfl⟩
theorem xc_RF_130 : xcs "ResidueFlows" 130 Y_RF_checkPoured 2 := ⟨xq_RF_checkPoured, xTw_2 137 rfl rfl, xTw_2 138 rfl rfl⟩
theorem xc_RF_133 : xcv "ResidueFlows" 133 Y_Bi_hasRoom 1 := ⟨xq_Bi_hasRoom, xTw_2 141 rfl rfl, xTw_2 142 rfl rfl, xTw_2 143 rfl rfl⟩
theorem xc_RF_137 : xcv "ResidueFlows" 137 Y_RF_pourInto 3 := ⟨xq_RF_pourInto, xTw_2 150 rfl rfl, xTw_2 152 rfl rfl, xTw_p 3 rfl rfl⟩
theorem xc_RF_150 : xcv "ResidueFlows" 150 Y_Bi_grams 0 := ⟨xq_Bi_grams, xTw_2 166 rfl rfl, xTw_2 146 rfl rfl, xTw_2 147 rfl rfl⟩
theorem xc_RF_156 : xcv "ResidueFlows" 156 Y_RF_screenAt 1 := ⟨xq_RF_screenAt, xTw_2 175 rfl rfl, xTw_2 177 rfl rfl, xTw_p 4 rfl rfl⟩
theorem xc_RF_168 : xcv "ResidueFlows" 168 Y_Sc_tell 5 := ⟨xq_Sc_tell, xTw_2 184 rfl rfl, xTw_2 185 rfl rfl, xTw_2 186 rfl rfl⟩
theorem xc_RF_196 : xcv "ResidueFlows" 196 Y_RF_gramsLost 0 := ⟨xq_RF_gramsLost, xTw_2 212 rfl rfl, xTw_2 214 rfl rfl, xTw_p 5 rfl rfl⟩
theorem xc_RF_212 : xcs "ResidueFlows" 212 Y_RF_checkDay 1 := ⟨xq_RF_checkDay, xTw_2 224 rfl rfl, xTw_2 225 rfl rfl⟩
theorem xc_RF_215 : xcv "ResidueFlows" 215 Y_Bo_lastDay 0 := ⟨xq_Bo_lastDay, xTw_2 228 rfl rfl, xTw_2 229 rfl rfl, xTw_2 230 rfl rfl⟩
theorem xc_RF_221 : xcv "ResidueFlows" 221 Y_Bo_add 2 := ⟨xq_Bo_add, xTw_2 233 rfl rfl, xTw_2 234 rfl rfl, xTw_2 235 rfl rfl⟩
theorem xc_RF_229 : xcs "ResidueFlows" 229 Y_RF_checkTaken 1 := ⟨xq_RF_checkTaken, xTw_3 5 rfl rfl, xTw_3 6 rfl rfl⟩
theorem xc_RF_232 : xcs "ResidueFlows" 232 Y_RF_checkEnough 2 := ⟨xq_RF_checkEnough, xTw_3 9 rfl rfl, xTw_3 10 rfl rfl⟩
theorem xc_RF_236 : xcv "ResidueFlows" 236 Y_Bi_waterIn 1 := ⟨xq_Bi_waterIn, xTw_3 13 rfl rfl, xTw_3 14 rfl rfl, xTw_3 15 rfl rfl⟩
theorem xc_RF_239 : xcv "ResidueFlows" 239 Y_Bi_dryIn 1 := ⟨xq_Bi_dryIn, xTw_3 18 rfl rfl, xTw_3 19 rfl rfl, xTw_3 20 rfl rfl⟩
theorem xc_RF_242 : xcv "ResidueFlows" 242 Y_RF_takeAway 3 := ⟨xq_RF_takeAway, xTw_3 23 rfl rfl, xTw_3 25 rfl rfl, xTw_p 6 rfl rfl⟩
theorem xc_RF_250 : xcv "ResidueFlows" 250 Y_Bo_percentAt 1 := ⟨xq_Bo_percentAt, xTw_3 29 rfl rfl, xTw_3 30 rfl rfl, xTw_3 31 rfl rfl⟩
theorem xc_RF_270 : xcv "ResidueFlows" 270 Y_Bi_spanAllows 2 := ⟨xq_Bi_spanAllows, xTw_3 59 rfl rfl, xTw_3 60 rfl rfl, xTw_3 61 rfl rfl⟩
theorem xc_RF_274 : xcv "ResidueFlows" 274 Y_Bi_change 2 := ⟨xq_Bi_change, xTw_2 154 rfl rfl, xTw_2 155 rfl rfl, xTw_2 156 rfl rfl⟩
theorem xc_Bi_27 : xcv "ResidueFlows$Bin" 27 Y_Bi_grams 0 := ⟨xq_Bi_grams, xTw_2 145 rfl rfl, xTw_2 146 rfl rfl, xTw_2 147 rfl rfl⟩
theorem xc_Bi_36 : xcn "ResidueFlows$Bin" 36 Y_RF_portion 3 "ResidueFlows" := ⟨xq_RF_portion, by decide +kernel, xTw_2 60 rfl rfl⟩
theorem xc_Bi_40 : xcv "ResidueFlows$Bin" 40 Y_Bi_waterIn 1 := ⟨xq_Bi_waterIn, xTw_3 22 rfl rfl, xTw_3 14 rfl rfl, xTw_3 15 rfl rfl⟩
theorem xc_Sh_16 : xcn "ResidueFlows$Share" 16 Y_RF_portion 3 "ResidueFlows" := ⟨xq_RF_portion, by decide +kernel, xTw_2 60 rfl rfl⟩
theorem xc_La_7 : xcv "ResidueFlowsLaw" 7 Y_RF_share 3 := ⟨xq_RF_share, xTw_1 198 rfl rfl, xTw_1 199 rfl rfl, xTw_1 200 rfl rfl⟩
theorem xc_La_17 : xcv "ResidueFlowsLaw" 17 Y_RF_log 3 := ⟨xq_RF_log, xTw_2 49 rfl rfl, xTw_2 50 rfl rfl, xTw_2 51 rfl rfl⟩
theorem xc_La_21 : xcv "ResidueFlowsLaw" 21 Y_RF_volume 2 := ⟨xq_RF_volume, xTw_2 76 rfl rfl, xTw_2 77 rfl rfl, xTw_2 78 rfl rfl⟩
theorem xc_La_27 : xcv "ResidueFlowsLaw" 27 Y_RF_boards 1 := ⟨xq_RF_boards, xTw_2 111 rfl rfl, xTw_2 112 rfl rfl, xTw_2 113 rfl rfl⟩
theorem xc_La_31 : xcv "ResidueFlowsLaw" 31 Y_RF_bin 2 := ⟨xq_RF_bin, xTw_2 118 rfl rfl, xTw_2 119 rfl rfl, xTw_2 120 rfl rfl⟩
theorem xc_La_35 : xcv "ResidueFlowsLaw" 35 Y_RF_pour 3 := ⟨xq_RF_pour, xTw_2 128 rfl rfl, xTw_2 129 rfl rfl, xTw_2 130 rfl rfl⟩
theorem xc_La_39 : xcv "ResidueFlowsLaw" 39 Y_RF_about 2 := ⟨xq_RF_about, xTw_2 162 rfl rfl, xTw_2 163 rfl rfl, xTw_2 164 rfl rfl⟩
theorem xc_La_43 : xcv "ResidueFlowsLaw" 43 Y_RF_screen 6 := ⟨xq_RF_screen, xTw_2 171 rfl rfl, xTw_2 172 rfl rfl, xTw_2 173 rfl rfl⟩
theorem xc_La_47 : xcv "ResidueFlowsLaw" 47 Y_RF_send 3 := ⟨xq_RF_send, xTw_2 191 rfl rfl, xTw_2 192 rfl rfl, xTw_2 193 rfl rfl⟩
theorem xc_La_50 : xcv "ResidueFlowsLaw" 50 Y_RF_scale 2 := ⟨xq_RF_scale, xTw_2 199 rfl rfl, xTw_2 200 rfl rfl, xTw_2 201 rfl rfl⟩
theorem xc_La_54 : xcv "ResidueFlowsLaw" 54 Y_RF_shift 1 := ⟨xq_RF_shift, xTw_2 208 rfl rfl, xTw_2 209 rfl rfl, xTw_2 210 rfl rfl⟩
theorem xc_La_58 : xcv "ResidueFlowsLaw" 58 Y_RF_row 2 := ⟨xq_RF_row, xTw_2 220 rfl rfl, xTw_2 221 rfl rfl, xTw_2 222 rfl rfl⟩
theorem xc_La_61 : xcv "ResidueFlowsLaw" 61 Y_RF_burn 3 := ⟨xq_RF_burn, xTw_3 1 rfl rfl, xTw_3 2 rfl rfl, xTw_3 3 rfl rfl⟩
theorem xc_La_65 : xcv "ResidueFlowsLaw" 65 Y_RF_sell 3 := ⟨xq_RF_sell, xTw_3 37 rfl rfl, xTw_3 38 rfl rfl, xTw_3 39 rfl rfl⟩
theorem xc_La_68 : xcv "ResidueFlowsLaw" 68 Y_RF_span 3 := ⟨xq_RF_span, xTw_3 46 rfl rfl, xTw_3 47 rfl rfl, xTw_3 48 rfl rfl⟩
theorem xc_La_71 : xcv "ResidueFlowsLaw" 71 Y_RF_mix 3 := ⟨xq_RF_mix, xTw_3 54 rfl rfl, xTw_3 55 rfl rfl, xTw_3 56 rfl rfl⟩
theorem xl_La_74 : Cond.methodLink "ResidueFlowsLaw" 74 ⟨"ResidueFlows", "<init>", "()V"⟩ ∈ xTw ∧ Cond.instanceMethod ⟨"ResidueFlows", "<init>", "()V"⟩ ∈ xTw := ⟨xTw_1 16 rfl rfl, xTw_1 17 rfl rfl⟩
theorem xl_La_77 : Cond.methodLink "ResidueFlowsLaw" 77 ⟨"ResidueFlowsModel", "<init>", "()V"⟩ ∈ xTw ∧ Cond.instanceMethod ⟨"ResidueFlowsModel", "<init>", "()V"⟩ ∈ xTw := ⟨xTw_3 65 rfl rfl, xTw_3 66 rfl rfl⟩
theorem xc_La_78 : xcs "ResidueFlowsLaw" 78 Y_La_share 4 := ⟨xq_La_share, xTw_1 193 rfl rfl, xTw_1 194 rfl rfl⟩
theorem xc_La_83 : xcv "ResidueFlowsLaw" 83 Y_Mo_share 3 := ⟨xq_Mo_share, xTw_3 152 rfl rfl, xTw_3 153 rfl rfl, xTw_3 154 rfl rfl⟩
theorem xc_La_84 : xcv "ResidueFlowsLaw" 84 Y_Mo_thrown 0 := ⟨xq_Mo_thrown, xTw_3 148 rfl rfl, xTw_3 149 rfl rfl, xTw_3 150 rfl rfl⟩
theorem xc_La_88 : xcs "ResidueFlowsLaw" 88 Y_La_log 5 := ⟨xq_La_log, xTw_2 46 rfl rfl, xTw_2 47 rfl rfl⟩
theorem xc_La_91 : xcv "ResidueFlowsLaw" 91 Y_Mo_log 3 := ⟨xq_Mo_log, xTw_3 160 rfl rfl, xTw_3 161 rfl rfl, xTw_3 162 rfl rfl⟩
theorem xc_La_92 : xcs "ResidueFlowsLaw" 92 Y_La_volume 4 := ⟨xq_La_volume, xTw_2 72 rfl rfl, xTw_2 73 rfl rfl⟩
theorem xc_La_95 : xcv "ResidueFlowsLaw" 95 Y_Mo_volume 2 := ⟨xq_Mo_volume, xTw_3 167 rfl rfl, xTw_3 168 rfl rfl, xTw_3 169 rfl rfl⟩
theorem xc_La_96 : xcs "ResidueFlowsLaw" 96 Y_La_boards 3 := ⟨xq_La_boards, xTw_2 108 rfl rfl, xTw_2 109 rfl rfl⟩
theorem xc_La_99 : xcv "ResidueFlowsLaw" 99 Y_Mo_boards 1 := ⟨xq_Mo_boards, xTw_3 171 rfl rfl, xTw_3 172 rfl rfl, xTw_3 173 rfl rfl⟩
theorem xc_La_100 : xcs "ResidueFlowsLaw" 100 Y_La_bin 4 := ⟨xq_La_bin, xTw_2 115 rfl rfl, xTw_2 116 rfl rfl⟩
theorem xc_La_103 : xcv "ResidueFlowsLaw" 103 Y_Mo_bin 2 := ⟨xq_Mo_bin, xTw_3 175 rfl rfl, xTw_3 176 rfl rfl, xTw_3 177 rfl rfl⟩
theorem xc_La_104 : xcs "ResidueFlowsLaw" 104 Y_La_pour 5 := ⟨xq_La_pour, xTw_2 125 rfl rfl, xTw_2 126 rfl rfl⟩
theorem xc_La_106 : xcv "ResidueFlowsLaw" 106 Y_Mo_pour 3 := ⟨xq_Mo_pour, xTw_3 180 rfl rfl, xTw_3 181 rfl rfl, xTw_3 182 rfl rfl⟩
theorem xc_La_107 : xcs "ResidueFlowsLaw" 107 Y_La_about 4 := ⟨xq_La_about, xTw_2 159 rfl rfl, xTw_2 160 rfl rfl⟩
theorem xc_La_109 : xcv "ResidueFlowsLaw" 109 Y_Mo_about 2 := ⟨xq_Mo_about, xTw_3 203 rfl rfl, xTw_3 204 rfl rfl, xTw_3 205 rfl rfl⟩
theorem xc_La_110 : xcs "ResidueFlowsLaw" 110 Y_La_screen 7 := ⟨xq_La_screen, xTw_2 168 rfl rfl, xTw_2 169 rfl rfl⟩
theorem xc_La_113 : xcv "ResidueFlowsLaw" 113 Y_Mo_screen 6 := ⟨xq_Mo_screen, xTw_3 207 rfl rfl, xTw_3 208 rfl rfl, xTw_3 209 rfl rfl⟩
theorem xc_La_114 : xcs "ResidueFlowsLaw" 114 Y_La_send 5 := ⟨xq_La_send, xTw_2 188 rfl rfl, xTw_2 189 rfl rfl⟩
theorem xc_La_116 : xcv "ResidueFlowsLaw" 116 Y_Mo_send 3 := ⟨xq_Mo_send, xTw_3 212 rfl rfl, xTw_3 213 rfl rfl, xTw_3 214 rfl rfl⟩
theorem xc_La_119 : xcs "ResidueFlowsLaw" 119 Y_La_scale 3 := ⟨xq_La_scale, xTw_2 196 rfl rfl, xTw_2 197 rfl rfl⟩
theorem xc_La_122 : xcv "ResidueFlowsLaw" 122 Y_Mo_scale 2 := ⟨xq_Mo_scale, xTw_3 224 rfl rfl, xTw_3 225 rfl rfl, xTw_3 226 rfl rfl⟩
theorem xc_La_123 : xcs "ResidueFlowsLaw" 123 Y_La_shift 3 := ⟨xq_La_shift, xTw_2 205 rfl rfl, xTw_2 206 rfl rfl⟩
theorem xc_La_126 : xcv "ResidueFlowsLaw" 126 Y_Mo_shift 1 := ⟨xq_Mo_shift, xTw_3 229 rfl rfl, xTw_3 230 rfl rfl, xTw_3 231 rfl rfl⟩
theorem xc_La_127 : xcv "ResidueFlowsLaw" 127 Y_RF_begin 0 := ⟨xq_RF_begin, xTw_1 183 rfl rfl, xTw_1 184 rfl rfl, xTw_1 185 rfl rfl⟩
theorem xc_La_130 : xcv "ResidueFlowsLaw" 130 Y_Mo_begin 0 := ⟨xq_Mo_begin, xTw_3 233 rfl rfl, xTw_3 234 rfl rfl, xTw_3 235 rfl rfl⟩
theorem xc_La_131 : xcs "ResidueFlowsLaw" 131 Y_La_row 4 := ⟨xq_La_row, xTw_2 217 rfl rfl, xTw_2 218 rfl rfl⟩
theorem xc_La_133 : xcv "ResidueFlowsLaw" 133 Y_Mo_row 2 := ⟨xq_Mo_row, xTw_3 237 rfl rfl, xTw_3 238 rfl rfl, xTw_3 239 rfl rfl⟩
theorem xc_La_134 : xcs "ResidueFlowsLaw" 134 Y_La_burn 5 := ⟨xq_La_burn, xTw_2 238 rfl rfl, xTw_2 239 rfl rfl⟩
theorem xc_La_136 : xcv "ResidueFlowsLaw" 136 Y_Mo_burn 3 := ⟨xq_Mo_burn, xTw_4 3 rfl rfl, xTw_4 4 rfl rfl, xTw_4 5 rfl rfl⟩
theorem xc_La_137 : xcs "ResidueFlowsLaw" 137 Y_La_sell 5 := ⟨xq_La_sell, xTw_3 34 rfl rfl, xTw_3 35 rfl rfl⟩
theorem xc_La_139 : xcv "ResidueFlowsLaw" 139 Y_Mo_sell 3 := ⟨xq_Mo_sell, xTw_4 22 rfl rfl, xTw_4 23 rfl rfl, xTw_4 24 rfl rfl⟩
theorem xc_La_140 : xcs "ResidueFlowsLaw" 140 Y_La_span 4 := ⟨xq_La_span, xTw_3 43 rfl rfl, xTw_3 44 rfl rfl⟩
theorem xc_La_142 : xcv "ResidueFlowsLaw" 142 Y_Mo_span 3 := ⟨xq_Mo_span, xTw_4 26 rfl rfl, xTw_4 27 rfl rfl, xTw_4 28 rfl rfl⟩
theorem xc_La_143 : xcs "ResidueFlowsLaw" 143 Y_La_mix 5 := ⟨xq_La_mix, xTw_3 51 rfl rfl, xTw_3 52 rfl rfl⟩
theorem xc_La_145 : xcv "ResidueFlowsLaw" 145 Y_Mo_mix 3 := ⟨xq_Mo_mix, xTw_4 30 rfl rfl, xTw_4 31 rfl rfl, xTw_4 32 rfl rfl⟩
theorem xc_La_146 : xcv "ResidueFlowsLaw" 146 Y_RF_carbon 0 := ⟨xq_RF_carbon, xTw_1 188 rfl rfl, xTw_1 189 rfl rfl, xTw_1 190 rfl rfl⟩
theorem xc_La_150 : xcv "ResidueFlowsLaw" 150 Y_Mo_carbon 0 := ⟨xq_Mo_carbon, xTw_4 34 rfl rfl, xTw_4 35 rfl rfl, xTw_4 36 rfl rfl⟩
theorem xc_Mo_71 : xcs "ResidueFlowsModel" 71 Y_Mo_isIn 3 := ⟨xq_Mo_isIn, xTw_3 157 rfl rfl, xTw_3 158 rfl rfl⟩
theorem xc_Mo_86 : xcv "ResidueFlowsModel" 86 Y_Mo_all 1 := ⟨xq_Mo_all, xTw_3 195 rfl rfl, xTw_3 197 rfl rfl, xTw_p 9 rfl rfl⟩
theorem xc_Mo_94 : xcv "ResidueFlowsModel" 94 Y_Mo_noBin 1 := ⟨xq_Mo_noBin, xTw_3 184 rfl rfl, xTw_3 186 rfl rfl, xTw_p 7 rfl rfl⟩
theorem xc_Mo_98 : xcs "ResidueFlowsModel" 98 Y_Mo_isPoured 2 := ⟨xq_Mo_isPoured, xTw_3 188 rfl rfl, xTw_3 189 rfl rfl⟩
theorem xc_Mo_102 : xcv "ResidueFlowsModel" 102 Y_Mo_hasRoom 2 := ⟨xq_Mo_hasRoom, xTw_3 191 rfl rfl, xTw_3 193 rfl rfl, xTw_p 8 rfl rfl⟩
theorem xc_Mo_106 : xcv "ResidueFlowsModel" 106 Y_Mo_add 3 := ⟨xq_Mo_add, xTw_3 199 rfl rfl, xTw_3 201 rfl rfl, xTw_p 10 rfl rfl⟩
theorem xc_Mo_112 : xcv "ResidueFlowsModel" 112 Y_Mo_others 2 := ⟨xq_Mo_others, xTw_3 220 rfl rfl, xTw_3 222 rfl rfl, xTw_p 12 rfl rfl⟩
theorem xc_Mo_116 : xcv "ResidueFlowsModel" 116 Y_Mo_part 3 := ⟨xq_Mo_part, xTw_3 216 rfl rfl, xTw_3 218 rfl rfl, xTw_p 11 rfl rfl⟩
theorem xc_Mo_141 : xcv "ResidueFlowsModel" 141 Y_Mo_has 2 := ⟨xq_Mo_has, xTw_4 7 rfl rfl, xTw_4 9 rfl rfl, xTw_p 13 rfl rfl⟩
theorem xc_Mo_144 : xcv "ResidueFlowsModel" 144 Y_Mo_take 2 := ⟨xq_Mo_take, xTw_4 11 rfl rfl, xTw_4 13 rfl rfl, xTw_p 14 rfl rfl⟩
theorem xc_Mo_148 : xcv "ResidueFlowsModel" 148 Y_Mo_goes 1 := ⟨xq_Mo_goes, xTw_4 15 rfl rfl, xTw_4 17 rfl rfl, xTw_p 15 rfl rfl⟩
set_option maxRecDepth 100000 in
theorem xh_RF_52 : xth "ResidueFlows" 52 56 "java/lang/IndexOutOfBoundsException" ["java/lang/RuntimeException", "java/lang/Exception"] := ⟨by decide +kernel, xTw_1 202 rfl rfl, xTw_1 203 rfl rfl, xTw_1 11 rfl rfl, by decide +kernel, by decide +kernel, by decide⟩
set_option maxRecDepth 100000 in
theorem xh_RF_59 : xth "ResidueFlows" 59 63 "java/lang/IllegalArgumentException" ["java/lang/RuntimeException", "java/lang/Exception"] := ⟨by decide +kernel, xTw_2 30 rfl rfl, xTw_2 31 rfl rfl, xTw_1 12 rfl rfl, by decide +kernel, by decide +kernel, by decide⟩
set_option maxRecDepth 100000 in
theorem xh_RF_115 : xth "ResidueFlows" 115 119 "java/lang/IllegalStateException" ["java/lang/RuntimeException", "java/lang/Exception"] := ⟨by decide +kernel, xTw_2 88 rfl rfl, xTw_2 89 rfl rfl, xTw_1 13 rfl rfl, by decide +kernel, by decide +kernel, by decide⟩
theorem xs_RF_54 : ("ResidueFlows", 54, "no such share") ∈ xTs := List.mem_of_getElem? (i := 0) rfl
theorem xs_RF_61 : ("ResidueFlows", 61, "not a share") ∈ xTs := List.mem_of_getElem? (i := 1) rfl
theorem xs_RF_71 : ("ResidueFlows", 71, "not a log") ∈ xTs := List.mem_of_getElem? (i := 2) rfl
theorem xs_RF_81 : ("ResidueFlows", 81, "boards and kerf are more than the log") ∈ xTs := List.mem_of_getElem? (i := 3) rfl
theorem xs_RF_110 : ("ResidueFlows", 110, "not what a bin can hold") ∈ xTs := List.mem_of_getElem? (i := 4) rfl
theorem xs_RF_117 : ("ResidueFlows", 117, "no room for a bin more") ∈ xTs := List.mem_of_getElem? (i := 5) rfl
theorem xs_RF_154 : ("ResidueFlows", 154, "nothing such is told of a bin") ∈ xTs := List.mem_of_getElem? (i := 6) rfl
theorem xs_RF_160 : ("ResidueFlows", 160, "two bins are one") ∈ xTs := List.mem_of_getElem? (i := 7) rfl
theorem xs_RF_162 : ("ResidueFlows", 162, "bins of unlike kinds") ∈ xTs := List.mem_of_getElem? (i := 8) rfl
theorem xs_RF_166 : ("ResidueFlows", 166, "a share is below 0") ∈ xTs := List.mem_of_getElem? (i := 9) rfl
theorem xs_RF_175 : ("ResidueFlows", 175, "the screen was not told") ∈ xTs := List.mem_of_getElem? (i := 10) rfl
theorem xs_RF_194 : ("ResidueFlows", 194, "not a reading") ∈ xTs := List.mem_of_getElem? (i := 11) rfl
theorem xs_RF_208 : ("ResidueFlows", 208, "nothing such is told of a shift") ∈ xTs := List.mem_of_getElem? (i := 12) rfl
theorem xs_RF_219 : ("ResidueFlows", 219, "not a row behind the one before") ∈ xTs := List.mem_of_getElem? (i := 13) rfl
theorem xs_RF_224 : ("ResidueFlows", 224, "no room for a row more") ∈ xTs := List.mem_of_getElem? (i := 14) rfl
theorem xs_RF_256 : ("ResidueFlows", 256, "not a price") ∈ xTs := List.mem_of_getElem? (i := 15) rfl
theorem xs_RF_260 : ("ResidueFlows", 260, "not a span") ∈ xTs := List.mem_of_getElem? (i := 16) rfl
theorem xs_RF_268 : ("ResidueFlows", 268, "both bins are one") ∈ xTs := List.mem_of_getElem? (i := 17) rfl
theorem xs_RF_280 : ("ResidueFlows", 280, "no such kind") ∈ xTs := List.mem_of_getElem? (i := 18) rfl
theorem xs_RF_282 : ("ResidueFlows", 282, "there was no log") ∈ xTs := List.mem_of_getElem? (i := 19) rfl
theorem xs_RF_284 : ("ResidueFlows", 284, "not what can be poured") ∈ xTs := List.mem_of_getElem? (i := 20) rfl
theorem xs_RF_286 : ("ResidueFlows", 286, "not what can be taken") ∈ xTs := List.mem_of_getElem? (i := 21) rfl
theorem xs_RF_288 : ("ResidueFlows", 288, "not a day") ∈ xTs := List.mem_of_getElem? (i := 22) rfl
theorem xs_RF_292 : ("ResidueFlows", 292, "there is not so much") ∈ xTs := List.mem_of_getElem? (i := 23) rfl
theorem xs_RF_294 : ("ResidueFlows", 294, "no such bin") ∈ xTs := List.mem_of_getElem? (i := 24) rfl
theorem xs_RF_296 : ("ResidueFlows", 296, "no such screen") ∈ xTs := List.mem_of_getElem? (i := 25) rfl
theorem xi_RF_109 : Cond.constant "ResidueFlows" 109 (1000000) ∈ xTw := xTw_2 122 rfl rfl
theorem xj_RF_73 : Cond.constantLong "ResidueFlows" 73 (63504000) ∈ xTw := xTw_2 54 rfl rfl
theorem xj_RF_79 : Cond.constantLong "ResidueFlows" 79 (25200) ∈ xTw := xTw_2 62 rfl rfl
theorem xj_RF_164 : Cond.constantLong "ResidueFlows" 164 (60) ∈ xTw := xTw_2 182 rfl rfl
theorem xj_RF_192 : Cond.constantLong "ResidueFlows" 192 (1000000000000) ∈ xTw := xTw_2 203 rfl rfl
theorem xj_RF_210 : Cond.constantLong "ResidueFlows" 210 (-1) ∈ xTw := xTw_1 187 rfl rfl
theorem xj_RF_246 : Cond.constantLong "ResidueFlows" 246 (19) ∈ xTw := xTw_3 27 rfl rfl
theorem xj_RF_248 : Cond.constantLong "ResidueFlows" 248 (3) ∈ xTw := xTw_3 28 rfl rfl
theorem xj_RF_254 : Cond.constantLong "ResidueFlows" 254 (100) ∈ xTw := xTw_3 33 rfl rfl
theorem xj_RF_258 : Cond.constantLong "ResidueFlows" 258 (1000000) ∈ xTw := xTw_3 42 rfl rfl
theorem xj_RF_278 : Cond.constantLong "ResidueFlows" 278 (2) ∈ xTw := xTw_1 192 rfl rfl
theorem xj_RF_290 : Cond.constantLong "ResidueFlows" 290 (1000) ∈ xTw := xTw_2 158 rfl rfl
theorem xj_Bi_9 : Cond.constantLong "ResidueFlows$Bin" 9 (-1) ∈ xTw := xTw_1 67 rfl rfl
theorem xj_Bi_31 : Cond.constantLong "ResidueFlows$Bin" 31 (1000) ∈ xTw := xTw_2 149 rfl rfl
theorem xj_La_117 : Cond.constantLong "ResidueFlowsLaw" 117 (4294967295) ∈ xTw := xTw_4 39 rfl rfl
theorem xj_Mo_35 : Cond.constantLong "ResidueFlowsModel" 35 (-1) ∈ xTw := xTw_3 69 rfl rfl
theorem xj_Mo_69 : Cond.constantLong "ResidueFlowsModel" 69 (10) ∈ xTw := xTw_3 156 rfl rfl
theorem xj_Mo_75 : Cond.constantLong "ResidueFlowsModel" 75 (1000) ∈ xTw := xTw_3 164 rfl rfl
theorem xj_Mo_77 : Cond.constantLong "ResidueFlowsModel" 77 (63504000) ∈ xTw := xTw_3 165 rfl rfl
theorem xj_Mo_79 : Cond.constantLong "ResidueFlowsModel" 79 (25200) ∈ xTw := xTw_3 166 rfl rfl
theorem xj_Mo_84 : Cond.constantLong "ResidueFlowsModel" 84 (1000000) ∈ xTw := xTw_3 179 rfl rfl
theorem xj_Mo_110 : Cond.constantLong "ResidueFlowsModel" 110 (60) ∈ xTw := xTw_3 211 rfl rfl
theorem xj_Mo_120 : Cond.constantLong "ResidueFlowsModel" 120 (1000000000000) ∈ xTw := xTw_3 228 rfl rfl
theorem xj_Mo_128 : Cond.constantLong "ResidueFlowsModel" 128 (364) ∈ xTw := xTw_4 1 rfl rfl
theorem xj_Mo_133 : Cond.constantLong "ResidueFlowsModel" 133 (200) ∈ xTw := xTw_4 2 rfl rfl
theorem xj_Mo_152 : Cond.constantLong "ResidueFlowsModel" 152 (100) ∈ xTw := xTw_4 19 rfl rfl
theorem xj_Mo_154 : Cond.constantLong "ResidueFlowsModel" 154 (19) ∈ xTw := xTw_4 20 rfl rfl
theorem xj_Mo_156 : Cond.constantLong "ResidueFlowsModel" 156 (3) ∈ xTw := xTw_4 21 rfl rfl
theorem xj_Mo_158 : Cond.constantLong "ResidueFlowsModel" 158 (2) ∈ xTw := xTw_4 38 rfl rfl
theorem xa_La_share_I : xcat Y_La_share 4 "java/lang/IndexOutOfBoundsException" 10 := ⟨[], (0, 7, 10, 13), [(0, 7, 14, 15)], rfl, rfl, by decide, (fun u hu => absurd hu List.not_mem_nil), _, xTw_1 196 rfl rfl, by decide +kernel⟩
theorem xa_La_share_A : xcat Y_La_share 4 "java/lang/IllegalArgumentException" 14 := ⟨[(0, 7, 10, 13)], (0, 7, 14, 15), [], rfl, rfl, by decide, (fun u hu => by
  have hu := List.mem_singleton.mp hu; subst hu; exact ⟨_, xTw_1 196 rfl rfl, by decide +kernel⟩), _, xTw_1 197 rfl rfl, by decide +kernel⟩
theorem xa_La_log_A : xcat Y_La_log 7 "java/lang/IllegalArgumentException" 15 := ⟨[], (0, 12, 15, 15), [], rfl, rfl, by decide, (fun u hu => absurd hu List.not_mem_nil), _, xTw_1 197 rfl rfl, by decide +kernel⟩
theorem xa_La_volume_I : xcat Y_La_volume 5 "java/lang/IndexOutOfBoundsException" 12 := ⟨[], (0, 9, 12, 13), [(0, 9, 16, 25)], rfl, rfl, by decide, (fun u hu => absurd hu List.not_mem_nil), _, xTw_1 196 rfl rfl, by decide +kernel⟩
theorem xa_La_volume_S : xcat Y_La_volume 5 "java/lang/IllegalStateException" 16 := ⟨[(0, 9, 12, 13)], (0, 9, 16, 25), [], rfl, rfl, by decide, (fun u hu => by
  have hu := List.mem_singleton.mp hu; subst hu; exact ⟨_, xTw_1 196 rfl rfl, by decide +kernel⟩), _, xTw_2 75 rfl rfl, by decide +kernel⟩
theorem xa_La_boards_S : xcat Y_La_boards 4 "java/lang/IllegalStateException" 11 := ⟨[], (0, 8, 11, 25), [], rfl, rfl, by decide, (fun u hu => absurd hu List.not_mem_nil), _, xTw_2 75 rfl rfl, by decide +kernel⟩
theorem xa_La_bin_I : xcat Y_La_bin 5 "java/lang/IndexOutOfBoundsException" 13 := ⟨[], (0, 10, 13, 13), [(0, 10, 17, 15), (0, 10, 21, 25)], rfl, rfl, by decide, (fun u hu => absurd hu List.not_mem_nil), _, xTw_1 196 rfl rfl, by decide +kernel⟩
theorem xa_La_bin_A : xcat Y_La_bin 5 "java/lang/IllegalArgumentException" 17 := ⟨[(0, 10, 13, 13)], (0, 10, 17, 15), [(0, 10, 21, 25)], rfl, rfl, by decide, (fun u hu => by
  have hu := List.mem_singleton.mp hu; subst hu; exact ⟨_, xTw_1 196 rfl rfl, by decide +kernel⟩), _, xTw_1 197 rfl rfl, by decide +kernel⟩
theorem xa_La_bin_S : xcat Y_La_bin 5 "java/lang/IllegalStateException" 21 := ⟨[(0, 10, 13, 13), (0, 10, 17, 15)], (0, 10, 21, 25), [], rfl, rfl, by decide, (fun u hu => by
  rcases List.mem_cons.mp hu with rfl | hu
  · exact ⟨_, xTw_1 196 rfl rfl, by decide +kernel⟩
  · have hu := List.mem_singleton.mp hu
    subst hu
    exact ⟨_, xTw_1 197 rfl rfl, by decide +kernel⟩), _, xTw_2 75 rfl rfl, by decide +kernel⟩
theorem xa_La_pour_I : xcat Y_La_pour 7 "java/lang/IndexOutOfBoundsException" 22 := ⟨[], (0, 19, 22, 13), [(0, 19, 26, 15)], rfl, rfl, by decide, (fun u hu => absurd hu List.not_mem_nil), _, xTw_1 196 rfl rfl, by decide +kernel⟩
theorem xa_La_pour_A : xcat Y_La_pour 7 "java/lang/IllegalArgumentException" 26 := ⟨[(0, 19, 22, 13)], (0, 19, 26, 15), [], rfl, rfl, by decide, (fun u hu => by
  have hu := List.mem_singleton.mp hu; subst hu; exact ⟨_, xTw_1 196 rfl rfl, by decide +kernel⟩), _, xTw_1 197 rfl rfl, by decide +kernel⟩
theorem xa_La_about_I : xcat Y_La_about 5 "java/lang/IndexOutOfBoundsException" 12 := ⟨[], (0, 9, 12, 13), [], rfl, rfl, by decide, (fun u hu => absurd hu List.not_mem_nil), _, xTw_1 196 rfl rfl, by decide +kernel⟩
theorem xa_La_screen_I : xcat Y_La_screen 10 "java/lang/IndexOutOfBoundsException" 16 := ⟨[], (0, 13, 16, 13), [(0, 13, 20, 15)], rfl, rfl, by decide, (fun u hu => absurd hu List.not_mem_nil), _, xTw_1 196 rfl rfl, by decide +kernel⟩
theorem xa_La_screen_A : xcat Y_La_screen 10 "java/lang/IllegalArgumentException" 20 := ⟨[(0, 13, 16, 13)], (0, 13, 20, 15), [], rfl, rfl, by decide, (fun u hu => by
  have hu := List.mem_singleton.mp hu; subst hu; exact ⟨_, xTw_1 196 rfl rfl, by decide +kernel⟩), _, xTw_1 197 rfl rfl, by decide +kernel⟩
theorem xa_La_send_I : xcat Y_La_send 7 "java/lang/IndexOutOfBoundsException" 22 := ⟨[], (0, 19, 22, 13), [(0, 19, 26, 15), (0, 19, 30, 25)], rfl, rfl, by decide, (fun u hu => absurd hu List.not_mem_nil), _, xTw_1 196 rfl rfl, by decide +kernel⟩
theorem xa_La_send_A : xcat Y_La_send 7 "java/lang/IllegalArgumentException" 26 := ⟨[(0, 19, 22, 13)], (0, 19, 26, 15), [(0, 19, 30, 25)], rfl, rfl, by decide, (fun u hu => by
  have hu := List.mem_singleton.mp hu; subst hu; exact ⟨_, xTw_1 196 rfl rfl, by decide +kernel⟩), _, xTw_1 197 rfl rfl, by decide +kernel⟩
theorem xa_La_send_S : xcat Y_La_send 7 "java/lang/IllegalStateException" 30 := ⟨[(0, 19, 22, 13), (0, 19, 26, 15)], (0, 19, 30, 25), [], rfl, rfl, by decide, (fun u hu => by
  rcases List.mem_cons.mp hu with rfl | hu
  · exact ⟨_, xTw_1 196 rfl rfl, by decide +kernel⟩
  · have hu := List.mem_singleton.mp hu
    subst hu
    exact ⟨_, xTw_1 197 rfl rfl, by decide +kernel⟩), _, xTw_2 75 rfl rfl, by decide +kernel⟩
theorem xa_La_scale_I : xcat Y_La_scale 3 "java/lang/IndexOutOfBoundsException" 9 := ⟨[], (0, 6, 9, 13), [(0, 6, 13, 15)], rfl, rfl, by decide, (fun u hu => absurd hu List.not_mem_nil), _, xTw_1 196 rfl rfl, by decide +kernel⟩
theorem xa_La_scale_A : xcat Y_La_scale 3 "java/lang/IllegalArgumentException" 13 := ⟨[(0, 6, 9, 13)], (0, 6, 13, 15), [], rfl, rfl, by decide, (fun u hu => by
  have hu := List.mem_singleton.mp hu; subst hu; exact ⟨_, xTw_1 196 rfl rfl, by decide +kernel⟩), _, xTw_1 197 rfl rfl, by decide +kernel⟩
theorem xa_La_shift_I : xcat Y_La_shift 4 "java/lang/IndexOutOfBoundsException" 11 := ⟨[], (0, 8, 11, 13), [], rfl, rfl, by decide, (fun u hu => absurd hu List.not_mem_nil), _, xTw_1 196 rfl rfl, by decide +kernel⟩
theorem xa_La_row_A : xcat Y_La_row 5 "java/lang/IllegalArgumentException" 13 := ⟨[], (0, 10, 13, 15), [(0, 10, 17, 25)], rfl, rfl, by decide, (fun u hu => absurd hu List.not_mem_nil), _, xTw_1 197 rfl rfl, by decide +kernel⟩
theorem xa_La_row_S : xcat Y_La_row 5 "java/lang/IllegalStateException" 17 := ⟨[(0, 10, 13, 15)], (0, 10, 17, 25), [], rfl, rfl, by decide, (fun u hu => by
  have hu := List.mem_singleton.mp hu; subst hu; exact ⟨_, xTw_1 197 rfl rfl, by decide +kernel⟩), _, xTw_2 75 rfl rfl, by decide +kernel⟩
theorem xa_La_burn_I : xcat Y_La_burn 7 "java/lang/IndexOutOfBoundsException" 14 := ⟨[], (0, 11, 14, 13), [(0, 11, 18, 15), (0, 11, 22, 25)], rfl, rfl, by decide, (fun u hu => absurd hu List.not_mem_nil), _, xTw_1 196 rfl rfl, by decide +kernel⟩
theorem xa_La_burn_A : xcat Y_La_burn 7 "java/lang/IllegalArgumentException" 18 := ⟨[(0, 11, 14, 13)], (0, 11, 18, 15), [(0, 11, 22, 25)], rfl, rfl, by decide, (fun u hu => by
  have hu := List.mem_singleton.mp hu; subst hu; exact ⟨_, xTw_1 196 rfl rfl, by decide +kernel⟩), _, xTw_1 197 rfl rfl, by decide +kernel⟩
theorem xa_La_burn_S : xcat Y_La_burn 7 "java/lang/IllegalStateException" 22 := ⟨[(0, 11, 14, 13), (0, 11, 18, 15)], (0, 11, 22, 25), [], rfl, rfl, by decide, (fun u hu => by
  rcases List.mem_cons.mp hu with rfl | hu
  · exact ⟨_, xTw_1 196 rfl rfl, by decide +kernel⟩
  · have hu := List.mem_singleton.mp hu
    subst hu
    exact ⟨_, xTw_1 197 rfl rfl, by decide +kernel⟩), _, xTw_2 75 rfl rfl, by decide +kernel⟩
theorem xa_La_sell_I : xcat Y_La_sell 7 "java/lang/IndexOutOfBoundsException" 14 := ⟨[], (0, 11, 14, 13), [(0, 11, 18, 15), (0, 11, 22, 25)], rfl, rfl, by decide, (fun u hu => absurd hu List.not_mem_nil), _, xTw_1 196 rfl rfl, by decide +kernel⟩
theorem xa_La_sell_A : xcat Y_La_sell 7 "java/lang/IllegalArgumentException" 18 := ⟨[(0, 11, 14, 13)], (0, 11, 18, 15), [(0, 11, 22, 25)], rfl, rfl, by decide, (fun u hu => by
  have hu := List.mem_singleton.mp hu; subst hu; exact ⟨_, xTw_1 196 rfl rfl, by decide +kernel⟩), _, xTw_1 197 rfl rfl, by decide +kernel⟩
theorem xa_La_sell_S : xcat Y_La_sell 7 "java/lang/IllegalStateException" 22 := ⟨[(0, 11, 14, 13), (0, 11, 18, 15)], (0, 11, 22, 25), [], rfl, rfl, by decide, (fun u hu => by
  rcases List.mem_cons.mp hu with rfl | hu
  · exact ⟨_, xTw_1 196 rfl rfl, by decide +kernel⟩
  · have hu := List.mem_singleton.mp hu
    subst hu
    exact ⟨_, xTw_1 197 rfl rfl, by decide +kernel⟩), _, xTw_2 75 rfl rfl, by decide +kernel⟩
theorem xa_La_span_I : xcat Y_La_span 4 "java/lang/IndexOutOfBoundsException" 10 := ⟨[], (0, 7, 10, 13), [(0, 7, 14, 15)], rfl, rfl, by decide, (fun u hu => absurd hu List.not_mem_nil), _, xTw_1 196 rfl rfl, by decide +kernel⟩
theorem xa_La_span_A : xcat Y_La_span 4 "java/lang/IllegalArgumentException" 14 := ⟨[(0, 7, 10, 13)], (0, 7, 14, 15), [], rfl, rfl, by decide, (fun u hu => by
  have hu := List.mem_singleton.mp hu; subst hu; exact ⟨_, xTw_1 196 rfl rfl, by decide +kernel⟩), _, xTw_1 197 rfl rfl, by decide +kernel⟩
theorem xa_La_mix_I : xcat Y_La_mix 7 "java/lang/IndexOutOfBoundsException" 22 := ⟨[], (0, 19, 22, 13), [(0, 19, 26, 15), (0, 19, 30, 25)], rfl, rfl, by decide, (fun u hu => absurd hu List.not_mem_nil), _, xTw_1 196 rfl rfl, by decide +kernel⟩
theorem xa_La_mix_A : xcat Y_La_mix 7 "java/lang/IllegalArgumentException" 26 := ⟨[(0, 19, 22, 13)], (0, 19, 26, 15), [(0, 19, 30, 25)], rfl, rfl, by decide, (fun u hu => by
  have hu := List.mem_singleton.mp hu; subst hu; exact ⟨_, xTw_1 196 rfl rfl, by decide +kernel⟩), _, xTw_1 197 rfl rfl, by decide +kernel⟩
theorem xa_La_mix_S : xcat Y_La_mix 7 "java/lang/IllegalStateException" 30 := ⟨[(0, 19, 22, 13), (0, 19, 26, 15)], (0, 19, 30, 25), [], rfl, rfl, by decide, (fun u hu => by
  rcases List.mem_cons.mp hu with rfl | hu
  · exact ⟨_, xTw_1 196 rfl rfl, by decide +kernel⟩
  · have hu := List.mem_singleton.mp hu
    subst hu
    exact ⟨_, xTw_1 197 rfl rfl, by decide +kernel⟩), _, xTw_2 75 rfl rfl, by decide +kernel⟩
end
