section
-- ===== PART A: goes FIRST, ahead of the names: the tables' words, and 'selects' of the private methods out of them =====
/-- a private method of a class that the tables say can be made, by its rows of tables_1 -/
def lw_okq (q : MethodName × Nat) : Prop := (q.1.cls ≠ "java/lang/invoke/MethodHandle" ∧ q.1.cls ≠ "java/lang/invoke/VarHandle") ∧ Cond.instantiable q.1.cls q.2 ∈ tables_1 ∧ Cond.privateMethod q.1 ∈ tables_1 ∧ Cond.instanceMethod q.1 ∈ tables_1
theorem lw_p0 : lw_okq (⟨"java/lang/Throwable", "fillInStackTrace", "(I)Ljava/lang/Throwable;"⟩, 6) := ⟨⟨by decide +kernel, by decide +kernel⟩, List.mem_of_getElem? (i := 241) (by decide +kernel), List.mem_of_getElem? (i := 239) (by decide +kernel), List.mem_of_getElem? (i := 240) (by decide +kernel)⟩
theorem lw_p1 : lw_okq (⟨"ResidueFlows", "checkLogs", "()V"⟩, 12) := ⟨⟨by decide +kernel, by decide +kernel⟩, List.mem_of_getElem? (i := 15) (by decide +kernel), List.mem_of_getElem? (i := 325) (by decide +kernel), List.mem_of_getElem? (i := 326) (by decide +kernel)⟩
theorem lw_p2 : lw_okq (⟨"ResidueFlows", "binAt", "(I)LResidueFlows$Bin;"⟩, 12) := ⟨⟨by decide +kernel, by decide +kernel⟩, List.mem_of_getElem? (i := 15) (by decide +kernel), List.mem_of_getElem? (i := 373) (by decide +kernel), List.mem_of_getElem? (i := 374) (by decide +kernel)⟩
theorem lw_p3 : lw_okq (⟨"ResidueFlows", "pourInto", "(LResidueFlows$Bin;II)V"⟩, 12) := ⟨⟨by decide +kernel, by decide +kernel⟩, List.mem_of_getElem? (i := 15) (by decide +kernel), List.mem_of_getElem? (i := 391) (by decide +kernel), List.mem_of_getElem? (i := 392) (by decide +kernel)⟩
theorem lw_p4 : lw_okq (⟨"ResidueFlows", "screenAt", "(I)LResidueFlows$Screen;"⟩, 12) := ⟨⟨by decide +kernel, by decide +kernel⟩, List.mem_of_getElem? (i := 15) (by decide +kernel), List.mem_of_getElem? (i := 416) (by decide +kernel), List.mem_of_getElem? (i := 417) (by decide +kernel)⟩
theorem lw_p5 : lw_okq (⟨"ResidueFlows", "gramsLost", "()J"⟩, 12) := ⟨⟨by decide +kernel, by decide +kernel⟩, List.mem_of_getElem? (i := 15) (by decide +kernel), List.mem_of_getElem? (i := 453) (by decide +kernel), List.mem_of_getElem? (i := 454) (by decide +kernel)⟩
theorem lw_p6 : lw_okq (⟨"ResidueFlows", "takeAway", "(LResidueFlows$Bin;JJ)V"⟩, 12) := ⟨⟨by decide +kernel, by decide +kernel⟩, List.mem_of_getElem? (i := 15) (by decide +kernel), List.mem_of_getElem? (i := 504) (by decide +kernel), List.mem_of_getElem? (i := 505) (by decide +kernel)⟩
theorem lw_p7 : lw_okq (⟨"ResidueFlowsModel", "noBin", "(I)Z"⟩, 25) := ⟨⟨by decide +kernel, by decide +kernel⟩, List.mem_of_getElem? (i := 544) (by decide +kernel), List.mem_of_getElem? (i := 665) (by decide +kernel), List.mem_of_getElem? (i := 666) (by decide +kernel)⟩
theorem lw_p8 : lw_okq (⟨"ResidueFlowsModel", "hasRoom", "(IJ)Z"⟩, 25) := ⟨⟨by decide +kernel, by decide +kernel⟩, List.mem_of_getElem? (i := 544) (by decide +kernel), List.mem_of_getElem? (i := 672) (by decide +kernel), List.mem_of_getElem? (i := 673) (by decide +kernel)⟩
theorem lw_p9 : lw_okq (⟨"ResidueFlowsModel", "all", "(I)J"⟩, 25) := ⟨⟨by decide +kernel, by decide +kernel⟩, List.mem_of_getElem? (i := 544) (by decide +kernel), List.mem_of_getElem? (i := 676) (by decide +kernel), List.mem_of_getElem? (i := 677) (by decide +kernel)⟩
theorem lw_p10 : lw_okq (⟨"ResidueFlowsModel", "add", "(IJI)V"⟩, 25) := ⟨⟨by decide +kernel, by decide +kernel⟩, List.mem_of_getElem? (i := 544) (by decide +kernel), List.mem_of_getElem? (i := 680) (by decide +kernel), List.mem_of_getElem? (i := 681) (by decide +kernel)⟩
theorem lw_p11 : lw_okq (⟨"ResidueFlowsModel", "part", "(IIJ)J"⟩, 25) := ⟨⟨by decide +kernel, by decide +kernel⟩, List.mem_of_getElem? (i := 544) (by decide +kernel), List.mem_of_getElem? (i := 697) (by decide +kernel), List.mem_of_getElem? (i := 698) (by decide +kernel)⟩
theorem lw_p12 : lw_okq (⟨"ResidueFlowsModel", "others", "(IJ)J"⟩, 25) := ⟨⟨by decide +kernel, by decide +kernel⟩, List.mem_of_getElem? (i := 544) (by decide +kernel), List.mem_of_getElem? (i := 701) (by decide +kernel), List.mem_of_getElem? (i := 702) (by decide +kernel)⟩
theorem lw_p13 : lw_okq (⟨"ResidueFlowsModel", "has", "(II)Z"⟩, 25) := ⟨⟨by decide +kernel, by decide +kernel⟩, List.mem_of_getElem? (i := 544) (by decide +kernel), List.mem_of_getElem? (i := 728) (by decide +kernel), List.mem_of_getElem? (i := 729) (by decide +kernel)⟩
theorem lw_p14 : lw_okq (⟨"ResidueFlowsModel", "take", "(II)V"⟩, 25) := ⟨⟨by decide +kernel, by decide +kernel⟩, List.mem_of_getElem? (i := 544) (by decide +kernel), List.mem_of_getElem? (i := 732) (by decide +kernel), List.mem_of_getElem? (i := 733) (by decide +kernel)⟩
theorem lw_p15 : lw_okq (⟨"ResidueFlowsModel", "goes", "(I)V"⟩, 25) := ⟨⟨by decide +kernel, by decide +kernel⟩, List.mem_of_getElem? (i := 544) (by decide +kernel), List.mem_of_getElem? (i := 736) (by decide +kernel), List.mem_of_getElem? (i := 737) (by decide +kernel)⟩
def lw_privs_1 : List (MethodName × Nat) := [(⟨"java/lang/Throwable", "fillInStackTrace", "(I)Ljava/lang/Throwable;"⟩, 6), (⟨"ResidueFlows", "checkLogs", "()V"⟩, 12), (⟨"ResidueFlows", "binAt", "(I)LResidueFlows$Bin;"⟩, 12), (⟨"ResidueFlows", "pourInto", "(LResidueFlows$Bin;II)V"⟩, 12), (⟨"ResidueFlows", "screenAt", "(I)LResidueFlows$Screen;"⟩, 12), (⟨"ResidueFlows", "gramsLost", "()J"⟩, 12), (⟨"ResidueFlows", "takeAway", "(LResidueFlows$Bin;JJ)V"⟩, 12), (⟨"ResidueFlowsModel", "noBin", "(I)Z"⟩, 25), (⟨"ResidueFlowsModel", "hasRoom", "(IJ)Z"⟩, 25), (⟨"ResidueFlowsModel", "all", "(I)J"⟩, 25), (⟨"ResidueFlowsModel", "add", "(IJI)V"⟩, 25), (⟨"ResidueFlowsModel", "part", "(IIJ)J"⟩, 25), (⟨"ResidueFlowsModel", "others", "(IJ)J"⟩, 25), (⟨"ResidueFlowsModel", "has", "(II)Z"⟩, 25), (⟨"ResidueFlowsModel", "take", "(II)V"⟩, 25), (⟨"ResidueFlowsModel", "goes", "(I)V"⟩, 25)]
theorem lw_r1 : ∀ q ∈ lw_privs_1, lw_okq q := List.forall_mem_cons.mpr ⟨lw_p0, List.forall_mem_cons.mpr ⟨lw_p1, List.forall_mem_cons.mpr ⟨lw_p2, List.forall_mem_cons.mpr ⟨lw_p3, List.forall_mem_cons.mpr ⟨lw_p4, List.forall_mem_cons.mpr ⟨lw_p5, List.forall_mem_cons.mpr ⟨lw_p6, List.forall_mem_cons.mpr ⟨lw_p7, List.forall_mem_cons.mpr ⟨lw_p8, List.forall_mem_cons.mpr ⟨lw_p9, List.forall_mem_cons.mpr ⟨lw_p10, List.forall_mem_cons.mpr ⟨lw_p11, List.forall_mem_cons.mpr ⟨lw_p12, List.forall_mem_cons.mpr ⟨lw_p13, List.forall_mem_cons.mpr ⟨lw_p14, List.forall_mem_cons.mpr ⟨lw_p15, fun _ h => absurd h List.not_mem_nil⟩⟩⟩⟩⟩⟩⟩⟩⟩⟩⟩⟩⟩⟩⟩⟩
def lw_privs : List (MethodName × Nat) := lw_privs_1
def lw_tbl : List Cond := k2_sels lw_privs ++ tables_1
theorem lw_privs_ok : ∀ q ∈ lw_privs, lw_okq q := lw_r1
/-! NAMES: by gen/names.py -/
def xTw : List Cond := lw_tbl.filter goodWord
theorem xTw_good : ∀ w ∈ xTw, (w.onTables && w.keeps) = true ∨ ∃ ty, w = .arrayClass ty := fun w h => good_of_word (List.mem_filter.mp h).2
theorem xTw_mem {w : Cond} (i : Nat) (h : lw_tbl[i]? = some w) (hg : goodWord w = true) : w ∈ xTw := List.mem_filter.mpr ⟨List.mem_of_getElem? h, hg⟩
theorem xTw_p {w : Cond} (i : Nat) (h : (k2_sels lw_privs)[i]? = some w) (hg : goodWord w = true) : w ∈ xTw := List.mem_filter.mpr ⟨List.mem_append_left _ (List.mem_of_getElem? h), hg⟩
theorem xTw_t {w : Cond} (h : w ∈ tables_1) (hg : goodWord w = true) : w ∈ xTw := List.mem_filter.mpr ⟨List.mem_append_right _ h, hg⟩
theorem xTw_1 {w : Cond} (i : Nat) (h : tables_1_1[i]? = some w) (hg : goodWord w = true) : w ∈ xTw := xTw_t (List.mem_append_left _ (List.mem_of_getElem? h)) hg
theorem xTw_2 {w : Cond} (i : Nat) (h : tables_1_2[i]? = some w) (hg : goodWord w = true) : w ∈ xTw := xTw_t (List.mem_append_right _ (List.mem_append_left _ (List.mem_of_getElem? h))) hg
theorem xTw_3 {w : Cond} (i : Nat) (h : tables_1_3[i]? = some w) (hg : goodWord w = true) : w ∈ xTw := xTw_t (List.mem_append_right _ (List.mem_append_right _ (List.mem_append_left _ (List.mem_of_getElem? h)))) hg
theorem xTw_4 {w : Cond} (i : Nat) (h : tables_1_4[i]? = some w) (hg : goodWord w = true) : w ∈ xTw := xTw_t (List.mem_append_right _ (List.mem_append_right _ (List.mem_append_right _ (List.mem_of_getElem? h)))) hg
theorem xTw_tbl : ∀ w ∈ xTw, w ∈ lw_tbl := fun w h => (List.mem_filter.mp h).1
def xTn : List (String × Nat × MethodName × String) := [("ResidueFlows$Share", 16, ⟨"ResidueFlows", "portion", "(JJJ)J"⟩, "ResidueFlows"), ("ResidueFlows$Bin", 36, ⟨"ResidueFlows", "portion", "(JJJ)J"⟩, "ResidueFlows")]
theorem xTn_tbl : ∀ q ∈ xTn, Cond.methodLinkNest q.1 q.2.1 q.2.2.1 q.2.2.2 ∈ lw_tbl := by decide +kernel
def xTc : List (String × String) := [("java/lang/IllegalArgumentException", "java/lang/IndexOutOfBoundsException"), ("java/lang/IllegalStateException", "java/lang/IndexOutOfBoundsException"), ("java/lang/IllegalStateException", "java/lang/IllegalArgumentException")]
def xTs : List (String × Nat × String) := [("ResidueFlows", 54, "no such share"), ("ResidueFlows", 61, "not a share"), ("ResidueFlows", 71, "not a log"), ("ResidueFlows", 81, "boards and kerf are more than the log"), ("ResidueFlows", 110, "not what a bin can hold"), ("ResidueFlows", 117, "no room for a bin more"), ("ResidueFlows", 154, "nothing such is told of a bin"), ("ResidueFlows", 160, "two bins are one"), ("ResidueFlows", 162, "bins of unlike kinds"), ("ResidueFlows", 166, "a share is below 0"), ("ResidueFlows", 175, "the screen was not told"), ("ResidueFlows", 194, "not a reading"), ("ResidueFlows", 208, "nothing such is told of a shift"), ("ResidueFlows", 219, "not a row behind the one before"), ("ResidueFlows", 224, "no room for a row more"), ("ResidueFlows", 256, "not a price"), ("ResidueFlows", 260, "not a span"), ("ResidueFlows", 268, "both bins are one"), ("ResidueFlows", 280, "no such kind"), ("ResidueFlows", 282, "there was no log"), ("ResidueFlows", 284, "not what can be poured"), ("ResidueFlows", 286, "not what can be taken"), ("ResidueFlows", 288, "not a day"), ("ResidueFlows", 292, "there is not so much"), ("ResidueFlows", 294, "no such bin"), ("ResidueFlows", 296, "no such screen")]
theorem xTs_tbl : ∀ q ∈ xTs, Cond.stringRef q.1 q.2.1 q.2.2 ∈ lw_tbl := by decide +kernel
def xTk : List (String × String) := [("java/lang/IndexOutOfBoundsException", "java/lang/IndexOutOfBoundsException"), ("java/lang/IllegalArgumentException", "java/lang/IllegalArgumentException"), ("java/lang/IllegalStateException", "java/lang/IllegalStateException")]
theorem xTk_tbl : ∀ q ∈ xTk, Cond.castable q.1 q.2 ∈ lw_tbl := by decide +kernel
def xTd : List MethodName := [⟨"java/lang/RuntimeException", "<init>", "()V"⟩, ⟨"java/lang/RuntimeException", "<init>", "(Ljava/lang/String;)V"⟩, ⟨"java/lang/Exception", "<init>", "()V"⟩, ⟨"java/lang/Exception", "<init>", "(Ljava/lang/String;)V"⟩, ⟨"java/lang/Throwable", "<init>", "()V"⟩, ⟨"java/lang/Throwable", "<init>", "(Ljava/lang/String;)V"⟩]
theorem xTd_tbl : ∀ q ∈ xTd, Cond.declares q ∈ lw_tbl := by decide +kernel
def xTo : List String := ["ResidueFlows$Bin", "ResidueFlows$Screen"]
theorem xTo_tbl : ∀ q ∈ xTo, Cond.arrayOver (.object q) ∈ lw_tbl := by decide +kernel
def T_RF : u_T := fun k => match k with
  | 0 => ("ResidueFlows", "barkShare", "LResidueFlows$Share;", true)
  | 1 => ("ResidueFlows", "offcutsShare", "LResidueFlows$Share;", true)
  | 2 => ("ResidueFlows", "latest", "LResidueFlows$Parts;", true)
  | 3 => ("ResidueFlows", "total", "LResidueFlows$Parts;", true)
  | 4 => ("ResidueFlows", "logs", "I", false)
  | 5 => ("ResidueFlows", "bins", "[LResidueFlows$Bin;", true)
  | 6 => ("ResidueFlows", "binCount", "I", false)
  | 7 => ("ResidueFlows", "screens", "[LResidueFlows$Screen;", true)
  | 8 => ("ResidueFlows", "boiler", "LResidueFlows$Boiler;", true)
  | 9 => ("ResidueFlows", "gramsIn", "J", false)
  | 10 => ("ResidueFlows", "gramsOut", "J", false)
  | _ => ("ResidueFlows", "shiftsBegun", "I", false)
def t_RF : Nat → FieldType := fun k => match k with
  | 0 => (.object "ResidueFlows$Share")
  | 1 => (.object "ResidueFlows$Share")
  | 2 => (.object "ResidueFlows$Parts")
  | 3 => (.object "ResidueFlows$Parts")
  | 4 => .int
  | 5 => (.array (.object "ResidueFlows$Bin"))
  | 6 => .int
  | 7 => (.array (.object "ResidueFlows$Screen"))
  | 8 => (.object "ResidueFlows$Boiler")
  | 9 => .long
  | 10 => .long
  | _ => .int
def T_Sh : u_T := fun k => match k with
  | 0 => ("ResidueFlows$Share", "above", "I", false)
  | _ => ("ResidueFlows$Share", "below", "I", false)
def t_Sh : Nat → FieldType := fun k => match k with
  | 0 => .int
  | _ => .int
def T_Pa : u_T := fun k => match k with
  | 0 => ("ResidueFlows$Parts", "barkParts", "J", false)
  | 1 => ("ResidueFlows$Parts", "chipParts", "J", false)
  | 2 => ("ResidueFlows$Parts", "dustParts", "J", false)
  | 3 => ("ResidueFlows$Parts", "offcutParts", "J", false)
  | _ => ("ResidueFlows$Parts", "boardParts", "J", false)
def t_Pa : Nat → FieldType := fun k => match k with
  | 0 => .long
  | 1 => .long
  | 2 => .long
  | 3 => .long
  | _ => .long
def T_Bi : u_T := fun k => match k with
  | 0 => ("ResidueFlows$Bin", "kind", "I", false)
  | 1 => ("ResidueFlows$Bin", "most", "I", false)
  | 2 => ("ResidueFlows$Bin", "dry", "J", false)
  | 3 => ("ResidueFlows$Bin", "water", "J", false)
  | 4 => ("ResidueFlows$Bin", "reading", "J", false)
  | 5 => ("ResidueFlows$Bin", "low", "I", false)
  | _ => ("ResidueFlows$Bin", "high", "I", false)
def t_Bi : Nat → FieldType := fun k => match k with
  | 0 => .int
  | 1 => .int
  | 2 => .long
  | 3 => .long
  | 4 => .long
  | 5 => .int
  | _ => .int
def T_Sc : u_T := fun k => match k with
  | 0 => ("ResidueFlows$Screen", "told", "Z", false)
  | 1 => ("ResidueFlows$Screen", "bin0", "I", false)
  | 2 => ("ResidueFlows$Screen", "bin1", "I", false)
  | 3 => ("ResidueFlows$Screen", "bin2", "I", false)
  | 4 => ("ResidueFlows$Screen", "share1", "I", false)
  | _ => ("ResidueFlows$Screen", "share2", "I", false)
def t_Sc : Nat → FieldType := fun k => match k with
  | 0 => .boolean
  | 1 => .int
  | 2 => .int
  | 3 => .int
  | 4 => .int
  | _ => .int
def T_Bo : u_T := fun k => match k with
  | 0 => ("ResidueFlows$Boiler", "rows", "I", false)
  | 1 => ("ResidueFlows$Boiler", "days", "[I", true)
  | _ => ("ResidueFlows$Boiler", "percents", "[I", true)
def t_Bo : Nat → FieldType := fun k => match k with
  | 0 => .int
  | 1 => (.array .int)
  | _ => (.array .int)
def T_Mo : u_T := fun k => match k with
  | 0 => ("ResidueFlowsModel", "thrown", "I", false)
  | 1 => ("ResidueFlowsModel", "aboves", "[I", true)
  | 2 => ("ResidueFlowsModel", "belows", "[I", true)
  | 3 => ("ResidueFlowsModel", "logs", "I", false)
  | 4 => ("ResidueFlowsModel", "latest", "[J", true)
  | 5 => ("ResidueFlowsModel", "sums", "[J", true)
  | 6 => ("ResidueFlowsModel", "bins", "I", false)
  | 7 => ("ResidueFlowsModel", "kinds", "[I", true)
  | 8 => ("ResidueFlowsModel", "mosts", "[J", true)
  | 9 => ("ResidueFlowsModel", "dry", "[J", true)
  | 10 => ("ResidueFlowsModel", "water", "[J", true)
  | 11 => ("ResidueFlowsModel", "readings", "[J", true)
  | 12 => ("ResidueFlowsModel", "lows", "[I", true)
  | 13 => ("ResidueFlowsModel", "highs", "[I", true)
  | 14 => ("ResidueFlowsModel", "screens", "[Z", true)
  | 15 => ("ResidueFlowsModel", "outs", "[I", true)
  | 16 => ("ResidueFlowsModel", "shares", "[I", true)
  | 17 => ("ResidueFlowsModel", "in", "J", false)
  | 18 => ("ResidueFlowsModel", "out", "J", false)
  | 19 => ("ResidueFlowsModel", "shifts", "J", false)
  | 20 => ("ResidueFlowsModel", "rows", "I", false)
  | 21 => ("ResidueFlowsModel", "days", "[I", true)
  | 22 => ("ResidueFlowsModel", "percents", "[I", true)
  | 23 => ("ResidueFlowsModel", "takenDry", "J", false)
  | _ => ("ResidueFlowsModel", "takenWater", "J", false)
def t_Mo : Nat → FieldType := fun k => match k with
  | 0 => .int
  | 1 => (.array .int)
  | 2 => (.array .int)
  | 3 => .int
  | 4 => (.array .long)
  | 5 => (.array .long)
  | 6 => .int
  | 7 => (.array .int)
  | 8 => (.array .long)
  | 9 => (.array .long)
  | 10 => (.array .long)
  | 11 => (.array .long)
  | 12 => (.array .int)
  | 13 => (.array .int)
  | 14 => (.array .boolean)
  | 15 => (.array .int)
  | 16 => (.array .int)
  | 17 => .long
  | 18 => .long
  | 19 => .long
  | 20 => .int
  | 21 => (.array .int)
  | 22 => (.array .int)
  | 23 => .long
  | _ => .long
abbrev xcl : List vw_C := [("ResidueFlows", T_RF, 12), ("ResidueFlows$Share", T_Sh, 2), ("ResidueFlows$Parts", T_Pa, 5), ("ResidueFlows$Bin", T_Bi, 7), ("ResidueFlows$Screen", T_Sc, 6), ("ResidueFlows$Boiler", T_Bo, 3), ("ResidueFlowsModel", T_Mo, 25)]
theorem xu_RF : ∀ w ∈ u_ws "ResidueFlows" T_RF 12, w ∈ xTw := by decide +kernel
theorem xk_RF : ∀ k, k < 12 → parseFieldDescriptor (T_RF k).2.2.1 = some (t_RF k) := by decide +kernel
theorem xn_RF : ∀ a, a < 12 → ∀ b, b < 12 → a ≠ b → (T_RF a).2.1 ≠ (T_RF b).2.1 := by decide +kernel
theorem xu_Sh : ∀ w ∈ u_ws "ResidueFlows$Share" T_Sh 2, w ∈ xTw := by decide +kernel
theorem xk_Sh : ∀ k, k < 2 → parseFieldDescriptor (T_Sh k).2.2.1 = some (t_Sh k) := by decide +kernel
theorem xn_Sh : ∀ a, a < 2 → ∀ b, b < 2 → a ≠ b → (T_Sh a).2.1 ≠ (T_Sh b).2.1 := by decide +kernel
theorem xu_Pa : ∀ w ∈ u_ws "ResidueFlows$Parts" T_Pa 5, w ∈ xTw := by decide +kernel
theorem xk_Pa : ∀ k, k < 5 → parseFieldDescriptor (T_Pa k).2.2.1 = some (t_Pa k) := by decide +kernel
theorem xn_Pa : ∀ a, a < 5 → ∀ b, b < 5 → a ≠ b → (T_Pa a).2.1 ≠ (T_Pa b).2.1 := by decide +kernel
theorem xu_Bi : ∀ w ∈ u_ws "ResidueFlows$Bin" T_Bi 7, w ∈ xTw := by decide +kernel
theorem xk_Bi : ∀ k, k < 7 → parseFieldDescriptor (T_Bi k).2.2.1 = some (t_Bi k) := by decide +kernel
theorem xn_Bi : ∀ a, a < 7 → ∀ b, b < 7 → a ≠ b → (T_Bi a).2.1 ≠ (T_Bi b).2.1 := by decide +kernel
theorem xu_Sc : ∀ w ∈ u_ws "ResidueFlows$Screen" T_Sc 6, w ∈ xTw := by decide +kernel
theorem xk_Sc : ∀ k, k < 6 → parseFieldDescriptor (T_Sc k).2.2.1 = some (t_Sc k) := by decide +kernel
theorem xn_Sc : ∀ a, a < 6 → ∀ b, b < 6 → a ≠ b → (T_Sc a).2.1 ≠ (T_Sc b).2.1 := by decide +kernel
theorem xu_Bo : ∀ w ∈ u_ws "ResidueFlows$Boiler" T_Bo 3, w ∈ xTw := by decide +kernel
theorem xk_Bo : ∀ k, k < 3 → parseFieldDescriptor (T_Bo k).2.2.1 = some (t_Bo k) := by decide +kernel
theorem xn_Bo : ∀ a, a < 3 → ∀ b, b < 3 → a ≠ b → (T_Bo a).2.1 ≠ (T_Bo b).2.1 := by decide +kernel
theorem xu_Mo : ∀ w ∈ u_ws "ResidueFlowsModel" T_Mo 25, w ∈ xTw := by decide +kernel
theorem xk_Mo : ∀ k, k < 25 → parseFieldDescriptor (T_Mo k).2.2.1 = some (t_Mo k) := by decide +kernel
theorem xn_Mo : ∀ a, a < 25 → ∀ b, b < 25 → a ≠ b → (T_Mo a).2.1 ≠ (T_Mo b).2.1 := by decide +kernel
def Y_RF_init : MethodName × ByteArray × Nat × Option FieldType × Room × List (Nat × Nat × Nat × Nat) := (⟨"ResidueFlows", "<init>", "()V"⟩, prog_1_method_1_code, 2, none, { frames := 10, cells := 21, slots := 140, locals := 387 }, [])
def Y_Sh_init : MethodName × ByteArray × Nat × Option FieldType × Room × List (Nat × Nat × Nat × Nat) := (⟨"ResidueFlows$Share", "<init>", "(II)V"⟩, prog_6_method_1_code, 3, none, { frames := 9, cells := 0, slots := 0, locals := 365 }, [])
def Y_Pa_init : MethodName × ByteArray × Nat × Option FieldType × Room × List (Nat × Nat × Nat × Nat) := (⟨"ResidueFlows$Parts", "<init>", "()V"⟩, prog_4_method_1_code, 1, none, { frames := 9, cells := 0, slots := 0, locals := 367 }, [])
def Y_Bi_init : MethodName × ByteArray × Nat × Option FieldType × Room × List (Nat × Nat × Nat × Nat) := (⟨"ResidueFlows$Bin", "<init>", "()V"⟩, prog_2_method_1_code, 1, none, { frames := 9, cells := 0, slots := 0, locals := 367 }, [])
def Y_Sc_init : MethodName × ByteArray × Nat × Option FieldType × Room × List (Nat × Nat × Nat × Nat) := (⟨"ResidueFlows$Screen", "<init>", "()V"⟩, prog_5_method_1_code, 1, none, { frames := 9, cells := 0, slots := 0, locals := 367 }, [])
def Y_Bo_init : MethodName × ByteArray × Nat × Option FieldType × Room × List (Nat × Nat × Nat × Nat) := (⟨"ResidueFlows$Boiler", "<init>", "()V"⟩, prog_3_method_1_code, 1, none, { frames := 9, cells := 2, slots := 16, locals := 367 }, [])
def Y_RF_begin : MethodName × ByteArray × Nat × Option FieldType × Room × List (Nat × Nat × Nat × Nat) := (⟨"ResidueFlows", "begin", "()V"⟩, prog_1_method_13_code, 2, none, { frames := 10, cells := 1, slots := 6, locals := 387 }, [])
def Y_RF_carbon : MethodName × ByteArray × Nat × Option FieldType × Room × List (Nat × Nat × Nat × Nat) := (⟨"ResidueFlows", "carbon", "()J"⟩, prog_1_method_19_code, 4, (some .long), { frames := 10, cells := 1, slots := 6, locals := 385 }, [])
def Y_La_share : MethodName × ByteArray × Nat × Option FieldType × Room × List (Nat × Nat × Nat × Nat) := (⟨"ResidueFlowsLaw", "share", "(LResidueFlows;III)I"⟩, method_3_code, 5, (some .int), { frames := 10, cells := 1, slots := 6, locals := 384 }, [(0, 7, 10, 13), (0, 7, 14, 15)])
def Y_RF_share : MethodName × ByteArray × Nat × Option FieldType × Room × List (Nat × Nat × Nat × Nat) := (⟨"ResidueFlows", "share", "(III)V"⟩, prog_1_method_2_code, 5, none, { frames := 9, cells := 1, slots := 6, locals := 360 }, [])
def Y_La_log : MethodName × ByteArray × Nat × Option FieldType × Room × List (Nat × Nat × Nat × Nat) := (⟨"ResidueFlowsLaw", "log", "(LResidueFlows;III[J)I"⟩, method_4_code, 6, (some .int), { frames := 10, cells := 1, slots := 6, locals := 383 }, [(0, 12, 15, 15)])
def Y_RF_log : MethodName × ByteArray × Nat × Option FieldType × Room × List (Nat × Nat × Nat × Nat) := (⟨"ResidueFlows", "log", "(III)I"⟩, prog_1_method_3_code, 15, (some .int), { frames := 9, cells := 1, slots := 6, locals := 349 }, [])
def Y_Sh_of : MethodName × ByteArray × Nat × Option FieldType × Room × List (Nat × Nat × Nat × Nat) := (⟨"ResidueFlows$Share", "of", "(J)J"⟩, prog_6_method_2_code, 3, (some .long), { frames := 8, cells := 1, slots := 6, locals := 327 }, [])
def Y_RF_portion : MethodName × ByteArray × Nat × Option FieldType × Room × List (Nat × Nat × Nat × Nat) := (⟨"ResidueFlows", "portion", "(JJJ)J"⟩, prog_1_method_31_code, 6, (some .long), { frames := 6, cells := 1, slots := 6, locals := 286 }, [])
def Y_Pa_tell : MethodName × ByteArray × Nat × Option FieldType × Room × List (Nat × Nat × Nat × Nat) := (⟨"ResidueFlows$Parts", "tell", "(JJJJJ)V"⟩, prog_4_method_2_code, 11, none, { frames := 8, cells := 1, slots := 6, locals := 319 }, [])
def Y_Pa_add : MethodName × ByteArray × Nat × Option FieldType × Room × List (Nat × Nat × Nat × Nat) := (⟨"ResidueFlows$Parts", "add", "(LResidueFlows$Parts;)V"⟩, prog_4_method_3_code, 2, none, { frames := 8, cells := 1, slots := 6, locals := 328 }, [])
def Y_La_volume : MethodName × ByteArray × Nat × Option FieldType × Room × List (Nat × Nat × Nat × Nat) := (⟨"ResidueFlowsLaw", "volume", "(LResidueFlows;IZ[J)I"⟩, method_5_code, 5, (some .int), { frames := 10, cells := 1, slots := 6, locals := 384 }, [(0, 9, 12, 13), (0, 9, 16, 25)])
def Y_RF_volume : MethodName × ByteArray × Nat × Option FieldType × Room × List (Nat × Nat × Nat × Nat) := (⟨"ResidueFlows", "volume", "(IZ)J"⟩, prog_1_method_4_code, 3, (some .long), { frames := 9, cells := 1, slots := 6, locals := 362 }, [])
def Y_RF_checkKind : MethodName × ByteArray × Nat × Option FieldType × Room × List (Nat × Nat × Nat × Nat) := (⟨"ResidueFlows", "checkKind", "(I)V"⟩, prog_1_method_20_code, 1, none, { frames := 8, cells := 1, slots := 6, locals := 341 }, [])
def Y_RF_checkLogs : MethodName × ByteArray × Nat × Option FieldType × Room × List (Nat × Nat × Nat × Nat) := (⟨"ResidueFlows", "checkLogs", "()V"⟩, prog_1_method_21_code, 1, none, { frames := 8, cells := 1, slots := 6, locals := 342 }, [])
def Y_Pa_ofKind : MethodName × ByteArray × Nat × Option FieldType × Room × List (Nat × Nat × Nat × Nat) := (⟨"ResidueFlows$Parts", "ofKind", "(I)J"⟩, prog_4_method_4_code, 2, (some .long), { frames := 8, cells := 1, slots := 6, locals := 341 }, [])
def Y_La_boards : MethodName × ByteArray × Nat × Option FieldType × Room × List (Nat × Nat × Nat × Nat) := (⟨"ResidueFlowsLaw", "boards", "(LResidueFlows;Z[J)I"⟩, method_6_code, 4, (some .int), { frames := 10, cells := 1, slots := 6, locals := 385 }, [(0, 8, 11, 25)])
def Y_RF_boards : MethodName × ByteArray × Nat × Option FieldType × Room × List (Nat × Nat × Nat × Nat) := (⟨"ResidueFlows", "boards", "(Z)J"⟩, prog_1_method_5_code, 2, (some .long), { frames := 9, cells := 1, slots := 6, locals := 364 }, [])
def Y_La_bin : MethodName × ByteArray × Nat × Option FieldType × Room × List (Nat × Nat × Nat × Nat) := (⟨"ResidueFlowsLaw", "bin", "(LResidueFlows;II[J)I"⟩, method_7_code, 5, (some .int), { frames := 10, cells := 1, slots := 6, locals := 384 }, [(0, 10, 13, 13), (0, 10, 17, 15), (0, 10, 21, 25)])
def Y_RF_bin : MethodName × ByteArray × Nat × Option FieldType × Room × List (Nat × Nat × Nat × Nat) := (⟨"ResidueFlows", "bin", "(II)I"⟩, prog_1_method_6_code, 4, (some .int), { frames := 9, cells := 1, slots := 6, locals := 361 }, [])
def Y_La_pour : MethodName × ByteArray × Nat × Option FieldType × Room × List (Nat × Nat × Nat × Nat) := (⟨"ResidueFlowsLaw", "pour", "(LResidueFlows;III[J)I"⟩, method_8_code, 6, (some .int), { frames := 10, cells := 1, slots := 6, locals := 383 }, [(0, 19, 22, 13), (0, 19, 26, 15)])
def Y_RF_pour : MethodName × ByteArray × Nat × Option FieldType × Room × List (Nat × Nat × Nat × Nat) := (⟨"ResidueFlows", "pour", "(III)Z"⟩, prog_1_method_7_code, 5, (some .boolean), { frames := 9, cells := 1, slots := 6, locals := 359 }, [])
def Y_RF_binAt : MethodName × ByteArray × Nat × Option FieldType × Room × List (Nat × Nat × Nat × Nat) := (⟨"ResidueFlows", "binAt", "(I)LResidueFlows$Bin;"⟩, prog_1_method_26_code, 2, (some (.object "ResidueFlows$Bin")), { frames := 8, cells := 1, slots := 6, locals := 330 }, [])
def Y_RF_checkPoured : MethodName × ByteArray × Nat × Option FieldType × Room × List (Nat × Nat × Nat × Nat) := (⟨"ResidueFlows", "checkPoured", "(II)V"⟩, prog_1_method_22_code, 2, none, { frames := 8, cells := 1, slots := 6, locals := 332 }, [])
def Y_Bi_hasRoom : MethodName × ByteArray × Nat × Option FieldType × Room × List (Nat × Nat × Nat × Nat) := (⟨"ResidueFlows$Bin", "hasRoom", "(I)Z"⟩, prog_2_method_3_code, 2, (some .boolean), { frames := 8, cells := 1, slots := 6, locals := 332 }, [])
def Y_Bi_grams : MethodName × ByteArray × Nat × Option FieldType × Room × List (Nat × Nat × Nat × Nat) := (⟨"ResidueFlows$Bin", "grams", "()J"⟩, prog_2_method_2_code, 1, (some .long), { frames := 6, cells := 1, slots := 6, locals := 291 }, [])
def Y_RF_pourInto : MethodName × ByteArray × Nat × Option FieldType × Room × List (Nat × Nat × Nat × Nat) := (⟨"ResidueFlows", "pourInto", "(LResidueFlows$Bin;II)V"⟩, prog_1_method_28_code, 4, none, { frames := 8, cells := 1, slots := 6, locals := 330 }, [])
def Y_Bi_change : MethodName × ByteArray × Nat × Option FieldType × Room × List (Nat × Nat × Nat × Nat) := (⟨"ResidueFlows$Bin", "change", "(JJ)V"⟩, prog_2_method_7_code, 5, none, { frames := 7, cells := 1, slots := 6, locals := 304 }, [])
def Y_La_about : MethodName × ByteArray × Nat × Option FieldType × Room × List (Nat × Nat × Nat × Nat) := (⟨"ResidueFlowsLaw", "about", "(LResidueFlows;II[J)I"⟩, method_9_code, 5, (some .int), { frames := 10, cells := 1, slots := 6, locals := 384 }, [(0, 9, 12, 13)])
def Y_RF_about : MethodName × ByteArray × Nat × Option FieldType × Room × List (Nat × Nat × Nat × Nat) := (⟨"ResidueFlows", "about", "(II)J"⟩, prog_1_method_8_code, 4, (some .long), { frames := 9, cells := 1, slots := 6, locals := 361 }, [])
def Y_La_screen : MethodName × ByteArray × Nat × Option FieldType × Room × List (Nat × Nat × Nat × Nat) := (⟨"ResidueFlowsLaw", "screen", "(LResidueFlows;IIIIII)I"⟩, method_10_code, 8, (some .int), { frames := 10, cells := 1, slots := 6, locals := 381 }, [(0, 13, 16, 13), (0, 13, 20, 15)])
def Y_RF_screen : MethodName × ByteArray × Nat × Option FieldType × Room × List (Nat × Nat × Nat × Nat) := (⟨"ResidueFlows", "screen", "(IIIIII)V"⟩, prog_1_method_9_code, 11, none, { frames := 9, cells := 1, slots := 6, locals := 351 }, [])
def Y_RF_screenAt : MethodName × ByteArray × Nat × Option FieldType × Room × List (Nat × Nat × Nat × Nat) := (⟨"ResidueFlows", "screenAt", "(I)LResidueFlows$Screen;"⟩, prog_1_method_27_code, 2, (some (.object "ResidueFlows$Screen")), { frames := 8, cells := 1, slots := 6, locals := 330 }, [])
def Y_Sc_tell : MethodName × ByteArray × Nat × Option FieldType × Room × List (Nat × Nat × Nat × Nat) := (⟨"ResidueFlows$Screen", "tell", "(IIIII)V"⟩, prog_5_method_2_code, 6, none, { frames := 8, cells := 1, slots := 6, locals := 326 }, [])
def Y_La_send : MethodName × ByteArray × Nat × Option FieldType × Room × List (Nat × Nat × Nat × Nat) := (⟨"ResidueFlowsLaw", "send", "(LResidueFlows;III[J)I"⟩, method_11_code, 6, (some .int), { frames := 10, cells := 1, slots := 6, locals := 383 }, [(0, 19, 22, 13), (0, 19, 26, 15), (0, 19, 30, 25)])
def Y_RF_send : MethodName × ByteArray × Nat × Option FieldType × Room × List (Nat × Nat × Nat × Nat) := (⟨"ResidueFlows", "send", "(III)Z"⟩, prog_1_method_10_code, 11, (some .boolean), { frames := 9, cells := 1, slots := 6, locals := 353 }, [])
def Y_La_scale : MethodName × ByteArray × Nat × Option FieldType × Room × List (Nat × Nat × Nat × Nat) := (⟨"ResidueFlowsLaw", "scale", "(LResidueFlows;IJ)I"⟩, method_12_code, 5, (some .int), { frames := 10, cells := 1, slots := 6, locals := 384 }, [(0, 6, 9, 13), (0, 6, 13, 15)])
def Y_RF_scale : MethodName × ByteArray × Nat × Option FieldType × Room × List (Nat × Nat × Nat × Nat) := (⟨"ResidueFlows", "scale", "(IJ)V"⟩, prog_1_method_11_code, 5, none, { frames := 9, cells := 1, slots := 6, locals := 360 }, [])
def Y_La_shift : MethodName × ByteArray × Nat × Option FieldType × Room × List (Nat × Nat × Nat × Nat) := (⟨"ResidueFlowsLaw", "shift", "(LResidueFlows;I[J)I"⟩, method_13_code, 4, (some .int), { frames := 10, cells := 1, slots := 6, locals := 385 }, [(0, 8, 11, 13)])
def Y_RF_shift : MethodName × ByteArray × Nat × Option FieldType × Room × List (Nat × Nat × Nat × Nat) := (⟨"ResidueFlows", "shift", "(I)J"⟩, prog_1_method_12_code, 2, (some .long), { frames := 9, cells := 1, slots := 6, locals := 364 }, [])
def Y_RF_gramsLost : MethodName × ByteArray × Nat × Option FieldType × Room × List (Nat × Nat × Nat × Nat) := (⟨"ResidueFlows", "gramsLost", "()J"⟩, prog_1_method_30_code, 4, (some .long), { frames := 8, cells := 1, slots := 6, locals := 341 }, [])
def Y_La_row : MethodName × ByteArray × Nat × Option FieldType × Room × List (Nat × Nat × Nat × Nat) := (⟨"ResidueFlowsLaw", "row", "(LResidueFlows;II[J)I"⟩, method_14_code, 5, (some .int), { frames := 10, cells := 1, slots := 6, locals := 384 }, [(0, 10, 13, 15), (0, 10, 17, 25)])
def Y_RF_row : MethodName × ByteArray × Nat × Option FieldType × Room × List (Nat × Nat × Nat × Nat) := (⟨"ResidueFlows", "row", "(II)I"⟩, prog_1_method_14_code, 3, (some .int), { frames := 9, cells := 1, slots := 6, locals := 362 }, [])
def Y_RF_checkDay : MethodName × ByteArray × Nat × Option FieldType × Room × List (Nat × Nat × Nat × Nat) := (⟨"ResidueFlows", "checkDay", "(I)V"⟩, prog_1_method_24_code, 1, none, { frames := 8, cells := 1, slots := 6, locals := 333 }, [])
def Y_Bo_lastDay : MethodName × ByteArray × Nat × Option FieldType × Room × List (Nat × Nat × Nat × Nat) := (⟨"ResidueFlows$Boiler", "lastDay", "()I"⟩, prog_3_method_2_code, 1, (some .int), { frames := 8, cells := 1, slots := 6, locals := 342 }, [])
def Y_Bo_add : MethodName × ByteArray × Nat × Option FieldType × Room × List (Nat × Nat × Nat × Nat) := (⟨"ResidueFlows$Boiler", "add", "(II)Z"⟩, prog_3_method_3_code, 3, (some .boolean), { frames := 8, cells := 1, slots := 6, locals := 340 }, [])
def Y_La_burn : MethodName × ByteArray × Nat × Option FieldType × Room × List (Nat × Nat × Nat × Nat) := (⟨"ResidueFlowsLaw", "burn", "(LResidueFlows;III[J)I"⟩, method_15_code, 6, (some .int), { frames := 10, cells := 1, slots := 6, locals := 383 }, [(0, 11, 14, 13), (0, 11, 18, 15), (0, 11, 22, 25)])
def Y_RF_burn : MethodName × ByteArray × Nat × Option FieldType × Room × List (Nat × Nat × Nat × Nat) := (⟨"ResidueFlows", "burn", "(III)J"⟩, prog_1_method_15_code, 11, (some .long), { frames := 9, cells := 1, slots := 6, locals := 353 }, [])
def Y_RF_checkTaken : MethodName × ByteArray × Nat × Option FieldType × Room × List (Nat × Nat × Nat × Nat) := (⟨"ResidueFlows", "checkTaken", "(I)V"⟩, prog_1_method_23_code, 1, none, { frames := 8, cells := 1, slots := 6, locals := 333 }, [])
def Y_RF_checkEnough : MethodName × ByteArray × Nat × Option FieldType × Room × List (Nat × Nat × Nat × Nat) := (⟨"ResidueFlows", "checkEnough", "(LResidueFlows$Bin;I)V"⟩, prog_1_method_25_code, 2, none, { frames := 8, cells := 1, slots := 6, locals := 332 }, [])
def Y_Bi_waterIn : MethodName × ByteArray × Nat × Option FieldType × Room × List (Nat × Nat × Nat × Nat) := (⟨"ResidueFlows$Bin", "waterIn", "(I)J"⟩, prog_2_method_4_code, 2, (some .long), { frames := 7, cells := 1, slots := 6, locals := 311 }, [])
def Y_Bi_dryIn : MethodName × ByteArray × Nat × Option FieldType × Room × List (Nat × Nat × Nat × Nat) := (⟨"ResidueFlows$Bin", "dryIn", "(I)J"⟩, prog_2_method_5_code, 2, (some .long), { frames := 8, cells := 1, slots := 6, locals := 332 }, [])
def Y_RF_takeAway : MethodName × ByteArray × Nat × Option FieldType × Room × List (Nat × Nat × Nat × Nat) := (⟨"ResidueFlows", "takeAway", "(LResidueFlows$Bin;JJ)V"⟩, prog_1_method_29_code, 6, none, { frames := 8, cells := 1, slots := 6, locals := 328 }, [])
def Y_Bo_percentAt : MethodName × ByteArray × Nat × Option FieldType × Room × List (Nat × Nat × Nat × Nat) := (⟨"ResidueFlows$Boiler", "percentAt", "(I)I"⟩, prog_3_method_4_code, 4, (some .int), { frames := 8, cells := 1, slots := 6, locals := 330 }, [])
def Y_La_sell : MethodName × ByteArray × Nat × Option FieldType × Room × List (Nat × Nat × Nat × Nat) := (⟨"ResidueFlowsLaw", "sell", "(LResidueFlows;III[J)I"⟩, method_16_code, 6, (some .int), { frames := 10, cells := 1, slots := 6, locals := 383 }, [(0, 11, 14, 13), (0, 11, 18, 15), (0, 11, 22, 25)])
def Y_RF_sell : MethodName × ByteArray × Nat × Option FieldType × Room × List (Nat × Nat × Nat × Nat) := (⟨"ResidueFlows", "sell", "(III)J"⟩, prog_1_method_16_code, 7, (some .long), { frames := 9, cells := 1, slots := 6, locals := 357 }, [])
def Y_La_span : MethodName × ByteArray × Nat × Option FieldType × Room × List (Nat × Nat × Nat × Nat) := (⟨"ResidueFlowsLaw", "span", "(LResidueFlows;III)I"⟩, method_17_code, 5, (some .int), { frames := 10, cells := 1, slots := 6, locals := 384 }, [(0, 7, 10, 13), (0, 7, 14, 15)])
def Y_RF_span : MethodName × ByteArray × Nat × Option FieldType × Room × List (Nat × Nat × Nat × Nat) := (⟨"ResidueFlows", "span", "(III)V"⟩, prog_1_method_17_code, 5, none, { frames := 9, cells := 1, slots := 6, locals := 360 }, [])
def Y_La_mix : MethodName × ByteArray × Nat × Option FieldType × Room × List (Nat × Nat × Nat × Nat) := (⟨"ResidueFlowsLaw", "mix", "(LResidueFlows;III[J)I"⟩, method_18_code, 6, (some .int), { frames := 10, cells := 1, slots := 6, locals := 383 }, [(0, 19, 22, 13), (0, 19, 26, 15), (0, 19, 30, 25)])
def Y_RF_mix : MethodName × ByteArray × Nat × Option FieldType × Room × List (Nat × Nat × Nat × Nat) := (⟨"ResidueFlows", "mix", "(III)Z"⟩, prog_1_method_18_code, 10, (some .boolean), { frames := 9, cells := 1, slots := 6, locals := 354 }, [])
def Y_Bi_spanAllows : MethodName × ByteArray × Nat × Option FieldType × Room × List (Nat × Nat × Nat × Nat) := (⟨"ResidueFlows$Bin", "spanAllows", "(JJ)Z"⟩, prog_2_method_6_code, 7, (some .boolean), { frames := 8, cells := 1, slots := 6, locals := 328 }, [])
def Y_Mo_init : MethodName × ByteArray × Nat × Option FieldType × Room × List (Nat × Nat × Nat × Nat) := (⟨"ResidueFlowsModel", "<init>", "()V"⟩, prog_8_method_1_code, 1, none, { frames := 10, cells := 16, slots := 200, locals := 388 }, [])
def Y_Mo_thrown : MethodName × ByteArray × Nat × Option FieldType × Room × List (Nat × Nat × Nat × Nat) := (⟨"ResidueFlowsModel", "thrown", "()I"⟩, prog_8_method_2_code, 1, (some .int), { frames := 10, cells := 1, slots := 6, locals := 388 }, [])
def Y_Mo_share : MethodName × ByteArray × Nat × Option FieldType × Room × List (Nat × Nat × Nat × Nat) := (⟨"ResidueFlowsModel", "share", "(III)V"⟩, prog_8_method_5_code, 4, none, { frames := 10, cells := 1, slots := 6, locals := 385 }, [])
def Y_Mo_isIn : MethodName × ByteArray × Nat × Option FieldType × Room × List (Nat × Nat × Nat × Nat) := (⟨"ResidueFlowsModel", "isIn", "(JJJ)Z"⟩, prog_8_method_3_code, 6, (some .boolean), { frames := 8, cells := 1, slots := 6, locals := 337 }, [])
def Y_Mo_log : MethodName × ByteArray × Nat × Option FieldType × Room × List (Nat × Nat × Nat × Nat) := (⟨"ResidueFlowsModel", "log", "(III)I"⟩, prog_8_method_6_code, 11, (some .int), { frames := 10, cells := 1, slots := 6, locals := 378 }, [])
def Y_Mo_volume : MethodName × ByteArray × Nat × Option FieldType × Room × List (Nat × Nat × Nat × Nat) := (⟨"ResidueFlowsModel", "volume", "(IZ)J"⟩, prog_8_method_7_code, 3, (some .long), { frames := 10, cells := 1, slots := 6, locals := 386 }, [])
def Y_Mo_boards : MethodName × ByteArray × Nat × Option FieldType × Room × List (Nat × Nat × Nat × Nat) := (⟨"ResidueFlowsModel", "boards", "(Z)J"⟩, prog_8_method_8_code, 2, (some .long), { frames := 10, cells := 1, slots := 6, locals := 387 }, [])
def Y_Mo_bin : MethodName × ByteArray × Nat × Option FieldType × Room × List (Nat × Nat × Nat × Nat) := (⟨"ResidueFlowsModel", "bin", "(II)I"⟩, prog_8_method_9_code, 3, (some .int), { frames := 10, cells := 1, slots := 6, locals := 386 }, [])
def Y_Mo_pour : MethodName × ByteArray × Nat × Option FieldType × Room × List (Nat × Nat × Nat × Nat) := (⟨"ResidueFlowsModel", "pour", "(III)Z"⟩, prog_8_method_14_code, 4, (some .boolean), { frames := 10, cells := 1, slots := 6, locals := 385 }, [])
def Y_Mo_noBin : MethodName × ByteArray × Nat × Option FieldType × Room × List (Nat × Nat × Nat × Nat) := (⟨"ResidueFlowsModel", "noBin", "(I)Z"⟩, prog_8_method_4_code, 2, (some .boolean), { frames := 9, cells := 1, slots := 6, locals := 357 }, [])
def Y_Mo_isPoured : MethodName × ByteArray × Nat × Option FieldType × Room × List (Nat × Nat × Nat × Nat) := (⟨"ResidueFlowsModel", "isPoured", "(II)Z"⟩, prog_8_method_13_code, 2, (some .boolean), { frames := 9, cells := 1, slots := 6, locals := 362 }, [])
def Y_Mo_hasRoom : MethodName × ByteArray × Nat × Option FieldType × Room × List (Nat × Nat × Nat × Nat) := (⟨"ResidueFlowsModel", "hasRoom", "(IJ)Z"⟩, prog_8_method_11_code, 4, (some .boolean), { frames := 9, cells := 1, slots := 6, locals := 358 }, [])
def Y_Mo_all : MethodName × ByteArray × Nat × Option FieldType × Room × List (Nat × Nat × Nat × Nat) := (⟨"ResidueFlowsModel", "all", "(I)J"⟩, prog_8_method_10_code, 2, (some .long), { frames := 8, cells := 1, slots := 6, locals := 336 }, [])
def Y_Mo_add : MethodName × ByteArray × Nat × Option FieldType × Room × List (Nat × Nat × Nat × Nat) := (⟨"ResidueFlowsModel", "add", "(IJI)V"⟩, prog_8_method_12_code, 5, none, { frames := 9, cells := 1, slots := 6, locals := 359 }, [])
def Y_Mo_about : MethodName × ByteArray × Nat × Option FieldType × Room × List (Nat × Nat × Nat × Nat) := (⟨"ResidueFlowsModel", "about", "(II)J"⟩, prog_8_method_15_code, 3, (some .long), { frames := 10, cells := 1, slots := 6, locals := 386 }, [])
def Y_Mo_screen : MethodName × ByteArray × Nat × Option FieldType × Room × List (Nat × Nat × Nat × Nat) := (⟨"ResidueFlowsModel", "screen", "(IIIIII)V"⟩, prog_8_method_16_code, 11, none, { frames := 10, cells := 1, slots := 6, locals := 378 }, [])
def Y_Mo_send : MethodName × ByteArray × Nat × Option FieldType × Room × List (Nat × Nat × Nat × Nat) := (⟨"ResidueFlowsModel", "send", "(III)Z"⟩, prog_8_method_19_code, 6, (some .boolean), { frames := 10, cells := 1, slots := 6, locals := 383 }, [])
def Y_Mo_part : MethodName × ByteArray × Nat × Option FieldType × Room × List (Nat × Nat × Nat × Nat) := (⟨"ResidueFlowsModel", "part", "(IIJ)J"⟩, prog_8_method_17_code, 5, (some .long), { frames := 9, cells := 1, slots := 6, locals := 359 }, [])
def Y_Mo_others : MethodName × ByteArray × Nat × Option FieldType × Room × List (Nat × Nat × Nat × Nat) := (⟨"ResidueFlowsModel", "others", "(IJ)J"⟩, prog_8_method_18_code, 4, (some .long), { frames := 8, cells := 1, slots := 6, locals := 336 }, [])
def Y_Mo_scale : MethodName × ByteArray × Nat × Option FieldType × Room × List (Nat × Nat × Nat × Nat) := (⟨"ResidueFlowsModel", "scale", "(IJ)V"⟩, prog_8_method_20_code, 4, none, { frames := 10, cells := 1, slots := 6, locals := 385 }, [])
def Y_Mo_shift : MethodName × ByteArray × Nat × Option FieldType × Room × List (Nat × Nat × Nat × Nat) := (⟨"ResidueFlowsModel", "shift", "(I)J"⟩, prog_8_method_21_code, 5, (some .long), { frames := 10, cells := 1, slots := 6, locals := 384 }, [])
def Y_Mo_begin : MethodName × ByteArray × Nat × Option FieldType × Room × List (Nat × Nat × Nat × Nat) := (⟨"ResidueFlowsModel", "begin", "()V"⟩, prog_8_method_22_code, 2, none, { frames := 10, cells := 1, slots := 6, locals := 387 }, [])
def Y_Mo_row : MethodName × ByteArray × Nat × Option FieldType × Room × List (Nat × Nat × Nat × Nat) := (⟨"ResidueFlowsModel", "row", "(II)I"⟩, prog_8_method_23_code, 4, (some .int), { frames := 10, cells := 1, slots := 6, locals := 385 }, [])
def Y_Mo_burn : MethodName × ByteArray × Nat × Option FieldType × Room × List (Nat × Nat × Nat × Nat) := (⟨"ResidueFlowsModel", "burn", "(III)J"⟩, prog_8_method_27_code, 8, (some .long), { frames := 10, cells := 1, slots := 6, locals := 381 }, [])
def Y_Mo_has : MethodName × ByteArray × Nat × Option FieldType × Room × List (Nat × Nat × Nat × Nat) := (⟨"ResidueFlowsModel", "has", "(II)Z"⟩, prog_8_method_24_code, 3, (some .boolean), { frames := 9, cells := 1, slots := 6, locals := 359 }, [])
def Y_Mo_take : MethodName × ByteArray × Nat × Option FieldType × Room × List (Nat × Nat × Nat × Nat) := (⟨"ResidueFlowsModel", "take", "(II)V"⟩, prog_8_method_25_code, 5, none, { frames := 9, cells := 1, slots := 6, locals := 357 }, [])
def Y_Mo_goes : MethodName × ByteArray × Nat × Option FieldType × Room × List (Nat × Nat × Nat × Nat) := (⟨"ResidueFlowsModel", "goes", "(I)V"⟩, prog_8_method_26_code, 2, none, { frames := 9, cells := 1, slots := 6, locals := 360 }, [])
def Y_Mo_sell : MethodName × ByteArray × Nat × Option FieldType × Room × List (Nat × Nat × Nat × Nat) := (⟨"ResidueFlowsModel", "sell", "(III)J"⟩, prog_8_method_28_code, 4, (some .long), { frames := 10, cells := 1, slots := 6, locals := 385 }, [])
def Y_Mo_span : MethodName × ByteArray × Nat × Option FieldType × Room × List (Nat × Nat × Nat × Nat) := (⟨"ResidueFlowsModel", "span", "(III)V"⟩, prog_8_method_29_code, 4, none, { frames := 10, cells := 1, slots := 6, locals := 385 }, [])
def Y_Mo_mix : MethodName × ByteArray × Nat × Option FieldType × Room × List (Nat × Nat × Nat × Nat) := (⟨"ResidueFlowsModel", "mix", "(III)Z"⟩, prog_8_method_30_code, 8, (some .boolean), { frames := 10, cells := 1, slots := 6, locals := 381 }, [])
def Y_Mo_carbon : MethodName × ByteArray × Nat × Option FieldType × Room × List (Nat × Nat × Nat × Nat) := (⟨"ResidueFlowsModel", "carbon", "()J"⟩, prog_8_method_31_code, 4, (some .long), { frames := 10, cells := 1, slots := 6, locals := 385 }, [])
def Y_La_law : MethodName × ByteArray × Nat × Option FieldType × Room × List (Nat × Nat × Nat × Nat) := (⟨"ResidueFlowsLaw", "law", "([I)Z"⟩, code, 8, (some .boolean), { frames := 11, cells := 663135, slots := 7106699, locals := 408 }, [])
end
section
/-! A LOGIC OVER THE MACHINE: one world for all (the law's own, the class's, the reference's cells), whose places are numbers from the law's start on.
A method is met by 'XM': from any heap that holds the picture w it ends as r says. 'JW' is the same from a frame. -/
abbrev xY : Type := MethodName × ByteArray × Nat × Option FieldType × Room × List (Nat × Nat × Nat × Nat)
abbrev xG : Type := Launch × va_G × List (ClassId × FieldType) × Nat × Nat × Nat × (Nat → Int32)
/-- a picture of the heap: its mode (1: nothing was written since the method's entry; 2: every cell made so far is in the picture; 0: neither) and its cells; a reference is a place in the list -/
abbrev xH : Type := Nat × List va_E
/-- an end: the answer, or the class of what is thrown; the picture; how many cells and slots came at most -/
abbrev xR : Type := (Option Value ⊕ String) × xH × Nat × Nat
abbrev gl (G : xG) : Launch := G.1
abbrev gD (G : xG) : va_G := G.2.1
abbrev gT (G : xG) : List (ClassId × FieldType) := G.2.2.1
abbrev gb (G : xG) : Nat := G.2.2.2.1
abbrev gs (G : xG) : Nat := G.2.2.2.2.1
abbrev gN (G : xG) : Nat := G.2.2.2.2.2.1
abbrev gx (G : xG) : Nat → Int32 := G.2.2.2.2.2.2
/-- a value of the picture as the machine has it: a reference's place counts from the law's start; '.float 0' stands for the script -/
def xv (G : xG) (v : Value) : Value := match v with
  | .ref i => .ref (gb G + i)
  | .float _ => .ref (gs G)
  | w => w
theorem xv_cat (G : xG) (v : Value) : (xv G v).category = v.category := by cases v <;> rfl
def xe (G : xG) (c : va_E) : va_E := match c with
  | .inl (t, n, .inr (.inr (.inr (.inr g)))) => .inl (((gT G).getD t (0, .int)).1, n, .inr (.inr (.inr (.inr (fun j => (g j).map (fun i => gb G + i))))))
  | .inl (t, n, f) => .inl (((gT G).getD t (0, .int)).1, n, f)
  | .inr (ci, fs) => .inr (ci, fs.map (xv G))
def xws (G : xG) (h : List va_E) : va_W := h.mapIdx (fun i c => (gb G + i, xe G c))
theorem xws_at (G : xG) (h : List va_E) (k : Nat) : (xws G h)[k]? = (h[k]?).map (fun c => (gb G + k, xe G c)) := by
  unfold xws
  rw [List.getElem?_mapIdx]
theorem xws_get {G : xG} {h : List va_E} {i : Nat} {c : va_E} (hc : h[i]? = some c) : (xws G h)[i]? = some (gb G + i, xe G c) := by
  rw [xws_at, hc]; rfl
theorem xws_inv {G : xG} {h : List va_E} {k : Nat} {q : Nat × va_E} (hq : (xws G h)[k]? = some q) : ∃ c, h[k]? = some c ∧ q = (gb G + k, xe G c) := by
  rw [xws_at] at hq
  cases hc : h[k]? with
  | none => rw [hc] at hq; cases hq
  | some c => rw [hc] at hq; exact ⟨c, rfl, (Option.some.inj hq).symm⟩
theorem xws_set (G : xG) (h : List va_E) (i : Nat) (c : va_E) : xws G (h.set i c) = (xws G h).set i (gb G + i, xe G c) := by
  apply List.ext_getElem?
  intro k
  rw [xws_at, List.getElem?_set, List.getElem?_set, xws_at]
  have hlen : (xws G h).length = h.length := by unfold xws; simp
  rw [hlen]
  by_cases hk : i = k
  · subst hk
    by_cases hl : i < h.length
    · simp [hl]
    · simp [hl]
  · simp [hk]
theorem xws_app (G : xG) (h : List va_E) (c : va_E) : xws G (h ++ [c]) = xws G h ++ [(gb G + h.length, xe G c)] := by
  apply List.ext_getElem?
  intro k
  have hlen : (xws G h).length = h.length := by unfold xws; simp
  rw [xws_at]
  rcases Nat.lt_trichotomy k h.length with hk | hk | hk
  · rw [List.getElem?_append_left hk, List.getElem?_append_left (by rw [hlen]; exact hk), xws_at]
  · subst hk
    rw [List.getElem?_append_right (Nat.le_refl _), List.getElem?_append_right (by rw [hlen]; exact Nat.le_refl _), hlen]
    simp
  · rw [List.getElem?_eq_none (by simp; omega), List.getElem?_eq_none (by simp [hlen]; omega)]
    rfl
def xA (G : xG) : Nat → Prop := fun q => gb G ≤ q
theorem xD (G : xG) (h : List va_E) : va_D (xA G) (xws G h) := by
  refine ⟨fun i j p q hi hj he => ?_, fun k q hk => ?_⟩
  · obtain ⟨c, -, rfl⟩ := xws_inv hi
    obtain ⟨d, -, rfl⟩ := xws_inv hj
    exact Nat.add_left_cancel he
  · obtain ⟨c, -, rfl⟩ := xws_inv hk
    exact Nat.le_add_right _ _
/-- the heap holds the picture -/
def xW (G : xG) (h : List va_E) (H : Heap) : Prop := va_P (gD G) xcl (xws G h) H
theorem xW_len {G : xG} {h : List va_E} {H : Heap} (hW : xW G h H) (hb : gb G ≤ H.size) : gb G + h.length ≤ H.size := by
  cases hn : h.length with
  | zero => exact hb
  | succ n =>
    have hi : n < h.length := by omega
    have h1 : h[n]? = some h[n] := List.getElem?_eq_getElem hi
    have h2 := (hW n _ (xws_get (G := G) h1)).lt
    have h3 : gb G + n < H.size := h2
    omega
/-- what holds at every state: the flags, the tables' numbers, the two statics of Throwable, the nest's words, the script -/
def xKx (U : State) : Prop := (∀ q ∈ xTs, (Cond.stringRef q.1 q.2.1 q.2.2).before #[] U = true) ∧ (∀ q ∈ xTk, (Cond.castable q.1 q.2).before #[] U = true) ∧ (∀ q ∈ xTd, (Cond.declares q).before #[] U = true) ∧ (Cond.laysStatic "java/lang/Throwable" "UNASSIGNED_STACK" "[Ljava/lang/StackTraceElement;").before #[] U = true ∧ (Cond.laysStatic "java/lang/Throwable" "SUPPRESSED_SENTINEL" "Ljava/util/List;").before #[] U = true ∧ ∀ q ∈ xTo, va_AO q U
def xK (G : xG) (U : State) : Prop := (gl G).stackTraces = false ∧ gb G ≤ U.heap.size ∧ va_K (gD G) xcl (gT G) U ∧ va_Zq "java/lang/Throwable" "UNASSIGNED_STACK" "[Ljava/lang/StackTraceElement;" (xA G) U U.heap ∧ va_Zq "java/lang/Throwable" "SUPPRESSED_SENTINEL" "Ljava/util/List;" (xA G) U U.heap ∧ (∀ q ∈ xTn, va_Nw (.methodLinkNest q.1 q.2.1 q.2.2.1 q.2.2.2) U) ∧ va_X (gs G) (gN G) (gx G) U U.heap ∧ gs G < gb G ∧ (∀ q ∈ xTc, ∀ c t : ClassId, U.vm.findClass q.1 = some c → U.vm.findClass q.2 = some t → U.vm.assignable c t = false) ∧ xKx U
theorem xLS {A : Nat → Prop} {C n d : String} {s U : State} (hvm : s.vm.Alike U.vm) (hH : ∀ q : Nat, q < s.heap.size → ¬ A q → U.heap[q]? = s.heap[q]?) (hz : va_Zq C n d A s s.heap) (h : (Cond.laysStatic C n d).before #[] s = true) : (Cond.laysStatic C n d).before #[] U = true := by
  obtain ⟨c, k, i, f, a, cell, h1, h2, h3, h4, h5, h6, h7, h8, h9⟩ := Cond.laysStatic_spec h
  have hA : ¬ A a := by
    rcases hz with ⟨cf, kf, fi, f', a', cell', g1, g2, g3, g4, g5, g6, g7, g8⟩ | ⟨t, cf, kf, fi, f', a', cell', g1, g2, g3, g4, g5, g6, g7, g8⟩
    · cases h2.symm.trans g1
      cases h4.symm.trans g4
      exact g8
    · cases h2.symm.trans g1
      cases h4.symm.trans g4
      exact g8
  obtain ⟨k', hi', he⟩ := State.fieldFound?_setVm hvm h2
  exact Cond.laysStatic_of (s := U) (by rw [hvm.findClass]; exact h1) hi' h3 (by rw [he]; exact h4) (by rw [hH a (Array.getElem?_eq_some_iff.mp h5).1 hA]; exact h5) h6 h7 h8 (by rw [he]; exact h9)
theorem xK.moved {G : xG} {s U : State} (h : xK G s) (hW : s.WarmedH U.vm) (hz : s.heap.size ≤ U.heap.size) (hH : ∀ q : Nat, q < s.heap.size → ¬ xA G q → U.heap[q]? = s.heap[q]?) : xK G U := by
  obtain ⟨h1, h2, h3, h4, h5, h6, h7, h8, h9, k1, k2, k3, k4, k5, k6⟩ := h
  refine ⟨h1, Nat.le_trans h2 hz, va_K.moved hW.alike h3, va_Zq.moved hW.alike (h4.kept hH), va_Zq.moved hW.alike (h5.kept hH), fun q hq => va_Nw.warmM hW (h6 q hq), va_X.moved hW.alike (h7.kept (hH _ (Nat.lt_of_lt_of_le h8 h2) (Nat.not_le.mpr h8))), h8, fun q hq c t e1 e2 => ?_, fun q hq => ?_, fun q hq => ?_, fun q hq => ?_, xLS hW.alike hH h4 k4, xLS hW.alike hH h5 k5, fun q hq => (k6 q hq).moved hW.alike⟩
  · rw [hW.alike.findClass] at e1 e2
    rw [hW.alike.assignable]
    exact h9 q hq c t e1 e2
  · exact Cond.stringRef_warmed (args := #[]) hW (k1 q hq)
  · have e := Cond.castable_setVm (args := #[]) (s := s) hW.alike q.1 q.2
    exact va_tabs rfl (rfl : (s.setVm U.vm).vm = U.vm) (e.trans (k2 q hq))
  · have e := Cond.declares_setVm (args := #[]) (s := s) hW.alike q
    exact va_tabs rfl (rfl : (s.setVm U.vm).vm = U.vm) (e.trans (k3 q hq))
/-- the method's own word -/
def xwd (y : xY) : Cond := match y.2.2.2.2.2 with
  | [] => .code y.1 y.2.1 y.2.2.1 y.2.2.2.1
  | q :: r => .codeWith y.1 y.2.1 y.2.2.1 y.2.2.2.1 (q :: r)
def xTab (y : xY) (c : Code) : Prop := c.exceptionTable.toList.map (fun h => (h.startPc, h.endPc, h.handlerPc, h.catchType)) = y.2.2.2.2.2
theorem xwd_spec {y : xY} {args : Array Value} {s : State} (h : (xwd y).before args s = true) : ∃ mk methY cY, s.methodNamed? y.1 = some mk ∧ s.vm.method? mk = some methY ∧ methY.code = some cY ∧ cY.code = y.2.1 ∧ cY.maxLocals = y.2.2.1 ∧ methY.sig.returnType = y.2.2.2.1 ∧ methY.locks = false ∧ xTab y cY ∧ parseMethodDescriptor y.1.desc = some methY.sig := by
  obtain ⟨nm, by_, ml, rt, rm, hh⟩ := y
  cases hh with
  | nil =>
    have h' : (Cond.code nm by_ ml rt).before args s = true := h
    obtain ⟨mk, hn⟩ := Cond.code_named h'
    obtain ⟨methY, cY, h1, h2, h3, h4, h5, h6, h7, h8⟩ := Cond.code_spec hn h'
    refine ⟨mk, methY, cY, hn, h1, h2, h3, h4, h5, h6, ?_, h8⟩
    show cY.exceptionTable.toList.map _ = []
    have : cY.exceptionTable = #[] := by simpa [Array.isEmpty_iff] using h7
    rw [this]; rfl
  | cons q r =>
    have h' : (Cond.codeWith nm by_ ml rt (q :: r)).before args s = true := h
    obtain ⟨mk, methY, cY, hn, h1, h2, h3, h4, h5, h6, h7, h8⟩ := Cond.codeWith_spec h'
    exact ⟨mk, methY, cY, hn, h1, h2, h3, h4, h6, h7, h5, h8⟩
/-- where a frame stands -/
def xC (G : xG) (y : xY) (p : Program) (s : State) (m : MethodId) (args : Array Value) (meth : Method) (c : Code) : Prop :=
  p.tables.exec = Jvm.exec ∧ c.code = y.2.1 ∧ meth.sig.returnType = y.2.2.2.1 ∧ c.maxLocals = y.2.2.1 ∧ s.vm.findClass y.1.cls = some m.cls ∧ (∀ w ∈ xTw, w.before args s = true) ∧ meth.locks = false ∧ xTab y c ∧ xK G s ∧ meth.name = y.1.name
def xO (G : xG) (out : Option Value ⊕ String) (st : State) (o : Outcome) (t : State) : Prop := match out with
  | .inl v => o = .returned (v.map (xv G))
  | .inr E => ∃ (x : Addr) (cell : Cell), o = .threw x ∧ t.heap[x]? = some cell ∧ cell.vm = .none ∧ st.vm.findClass E = some cell.cls
def xQ (G : xG) (r : xR) (st : State) (o : Outcome) (t : State) : Prop :=
  xO G r.1 st o t ∧ xW G r.2.1.2 t.heap ∧ va_F (xA G) st t ∧ ∃ L : List Loc, st.WarmedH t.vm ∧ st.sameButNew ({ t with vm := st.vm } : State) L r.2.2.1 r.2.2.2 ∧ (∀ q ∈ L, xA G q.base) ∧ (r.2.1.1 = 1 → t.heap = st.heap ∧ L = [])
def XM (G : xG) (y : xY) (avs : List Value) (w : xH) (r : xR) : Prop :=
  MetFree (gl G) y.1 (headSpec (xwd y :: xTw) y.2.2.2.2.1) (fun a U => a = (avs.map (xv G)).toArray ∧ xW G w.2 U.heap ∧ xK G U ∧ (w.1 = 2 → U.heap.size = gb G + w.2.length)) (fun _ _ _ _ _ => True) (fun _ st o t => xQ G r st o t)
def xZ (G : xG) (r : xR) (below : List Frame) (s : State) : State → Prop := fun t => ∃ o, t.status = .running ∧ Ended t below o ∧ xQ G r s o t
def xmp (G : xG) (L : List (Nat × Value)) : List (Nat × Value) := L.map (fun q => (q.1, xv G q.2))
def xM (G : xG) (k : Nat × Nat) (w : xH) (s : State) (H : Heap) (locs : List Loc) : Prop := (w.1 = 1 → H = s.heap ∧ locs = []) ∧ (w.1 = 2 → s.heap.size + k.1 = gb G + w.2.length)
def JW (G : xG) (y : xY) (k : Nat × Nat) (pc : Nat) (L : List (Nat × Value)) (st : List Value) (w : xH) (r : xR) : Prop :=
  ∀ (p : Program) (e : Env) (s : State) (m : MethodId) (args : Array Value) (below : List Frame) (meth : Method) (c : Code) (H : Heap) (locs : List Loc) (ls : Array Slot),
    xC G y p s m args meth c → va_S (xA G) s.heap H locs → xW G w.2 H → xM G k w s H locs → lv_has ls y.2.2.1 (xmp G L) →
    W p (gl G) e y.2.2.2.2.1 s m args below meth c H locs k.1 k.2 (xZ G r below s) (F0 m pc ls (st.map (xv G)))
theorem x_mono {p : Program} {l : Launch} {e : Env} {R : Room} {s : State} {m : MethodId} {args : Array Value} {below : List Frame} {meth : Method} {c : Code} {H : Heap} {locs : List Loc} {cells slots : Nat} {Q Q' : State → Prop} {g : JFrame} (h : ∀ t, Q t → Q' t) (k : W p l e R s m args below meth c H locs cells slots Q g) : W p l e R s m args below meth c H locs cells slots Q' g :=
  fun T hT X => by
    obtain ⟨t, a, b⟩ := k T hT X
    exact ⟨t, a, h t b⟩
theorem lv_args_map (G : xG) : ∀ (vs : List Value) (i : Nat), lv_args i (vs.map (xv G)) = xmp G (lv_args i vs)
  | [], _ => rfl
  | v :: vs, i => by
    show (i, xv G v) :: lv_args (if (xv G v).category = 2 then i + 2 else i + 1) (vs.map (xv G)) = (i, xv G v) :: xmp G (lv_args (if v.category = 2 then i + 2 else i + 1) vs)
    rw [xv_cat, lv_args_map G vs]
theorem lg_sl_len (G : xG) (vs : List Value) : (lg_sl (vs.map (xv G))).length = (lg_sl vs).length := by
  induction vs with
  | nil => rfl
  | cons v t ih =>
    simp only [lg_sl, List.map_cons, List.flatMap_cons, List.length_append, xv_cat] at ih ⊢
    rw [ih]
    split <;> rfl
/-- a method is met if its body is -/
theorem XM_of {G : xG} {y : xY} {avs : List Value} {w : xH} {r : xR} (hy : plainName y.1.cls = true) (hn : (lg_sl avs).length ≤ y.2.2.1) (hw : w.1 = 1 ∨ w.1 = 2) (h : JW G y (0, 0) 0 (lv_args 0 avs) [] w r) : XM G y avs w r := by
  refine MetFree.of_bodyS (code := y.2.1) (maxLocals := y.2.2.1) (ret := y.2.2.2.1) hy ?_ ?_
  · intro args s m hp hnm
    obtain ⟨mk, methY, cY, h0, h1, h2, h3, h4, h5, h6, h7, h8⟩ := xwd_spec (atoms_spec (ws := xwd y :: xTw) hp _ List.mem_cons_self)
    cases hnm.symm.trans h0
    exact ⟨methY, cY, h1, h2, h3, h4, h5, h6⟩
  · intro p e s m args below meth c s₁ B hml hP _
    obtain ⟨rfl, hW, hK, hE⟩ := hP
    have hts := atoms_spec (ws := xwd y :: xTw) B.pre
    have hh0 : s₁.heap = s.heap := by rw [B.state]; rfl
    obtain ⟨mk, methY, cY, h0, h1, h2, h3, h4, h5, h6, h7, h8⟩ := xwd_spec (hts _ List.mem_cons_self)
    cases B.named.symm.trans h0
    cases B.method.symm.trans h1
    have X₀ := Stand.of_body B
    cases X₀.code.symm.trans h2
    have hl := lv_entry (avs.map (xv G)) (n := y.2.2.1) (by rw [lg_sl_len]; exact hn)
    have K := h p e s m _ below meth c s.heap [] _ ⟨B.exec, h3, h5, h4, findClass_of_methodNamed B.named, fun w hw => hts w (List.mem_cons_of_mem _ hw), h6, h7, hK, (name_of_methodNamed B.named B.method).1⟩ va_S.rf hW ⟨fun _ => ⟨rfl, rfl⟩, fun h2 => hE h2⟩ (by rw [← lv_args_map]; exact hl)
    have K2 := K s₁ hh0 X₀
    rw [show F0 m 0 _ (([] : List Value).map (xv G)) = entryFrame m ((avs.map (xv G))).toArray y.2.2.1 from (lg_entry_eq m (avs.map (xv G)) y.2.2.1).symm] at K2
    obtain ⟨t, a1, o, b1, b2, b3⟩ := K2
    exact ⟨t, o, a1, b1, b2, b3⟩
end
section
section XCALL
variable {p : Program} {l : Launch} {e : Env} {R : Room} {s : State} {m : MethodId} {sargs : Array Value} {below : List Frame} {meth : Method} {c : Code} {U : State} {Ls : List Loc} {c0 s0 : Nat}
/-- a call of a method that is met: it returns, or it throws; the frame below is as it was -/
theorem x_call (X : Stand p l e R s m sargs below meth c U Ls c0 s0) {z : MethodName} {S : Spec} {P : Array Value → State → Prop} {Q : Array Value → State → Outcome → State → Prop} (hM : MetFree l z S P (fun _ _ _ _ _ => True) Q)
    {g : JFrame} (hg : g.method = m) (hsize : g.locals.size = c.maxLocals) {ig : Instr} {len : Nat} (hdg : decode c.code g.pc = .ok (ig, len)) {mk : MethodId} {a : Array Value} (hn : U.methodNamed? z = some mk) {methY : Method} {cY : Code} (hmY : U.vm.method? mk = some methY) (hcY : methY.code = some cY) (hini : (Cond.initialized z.cls).before a U = true)
    (hfr0 : S.room.frames + 1 ≤ R.frames) (hlo : 2 * g.monitorRoom + (g.stack.map fun v => v.category).sum + (cY.maxLocals + 11) + S.room.locals ≤ R.locals) (hce : c0 + S.room.cells ≤ R.cells) (hsl : s0 + S.room.slots ≤ R.slots)
    (hpre : S.pre.before a U = true) (hP : P a (U.calling g mk a))
    {E : Outcome → State → List Loc → Nat → Nat → Prop} (hQ : ∀ o t, Q a (U.calling g mk a) o t → ∃ L k n, (U.calling g mk a).WarmedH t.vm ∧ (U.calling g mk a).sameButNew ({ t with vm := (U.calling g mk a).vm } : State) L k n ∧ E o t L k n) :
    ∃ (o : Outcome) (t T' : State) (L : List Loc) (k n : Nat), E o t L k n ∧ T'.heap = t.heap ∧ T'.vm = t.vm ∧ U.WarmedH t.vm ∧ Stand p l e R s m sargs below meth c T' (Ls ++ L) (c0 + k) (s0 + n) ∧
      (∀ v, o = .returned v → Steps p.tables e below (doInvoke e (U.setTop g) [] mk a).1 (T'.setTop { g with pc := g.pc + len, stack := v.toList ++ g.stack })) ∧
      (∀ x, o = .threw x → Steps p.tables e below (doInvoke e (U.setTop g) [] mk a).1 ((T'.setTop g).pushFrame (.throwing x))) := by
  obtain ⟨kY, hkY, -⟩ := className_of_methodNamed hn
  have hinitY : kY.init = .initialized := Cond.initialized_spec (findClass_of_methodNamed hn) hkY hini
  have h : At U g.method c below := by rw [hg]; exact X.here
  have happ : S.appliesLoose z e.platform (U.calling g mk a) = true :=
    Spec.appliesLoose_calling (g := g) h hdg hn hkY hinitY (X.room_calling (g := g) (R' := S.room) hsize hmY hcY hfr0 hlo hce hsl) hpre
  obtain ⟨mid, hmid⟩ := h.above
  have hfr : (U.setTop g).frames = (.java g :: mid) ++ below := by rw [State.frames_setTop' g h.top, hmid]; rfl
  obtain ⟨o, s₂, hsteps, -, hend, hq⟩ := Steps.callFree hM p X.admits X.cas X.clock (acts := []) hfr happ hP trivial
  have hq' : Q a (U.calling g mk a) o s₂ := hq
  rw [State.frames_setTop' g h.top] at hend
  obtain ⟨L, k, n, hW₂, ⟨e2, q2, q3, q4, q5, q6⟩, hE⟩ := hQ _ _ hq'
  have e3 : s₂ = ({ (U.calling g mk a).setFrames s₂.frames with heap := s₂.heap, slotsUsed := s₂.slotsUsed } : State).setVm s₂.vm := by
    have : s₂ = ({ s₂ with vm := (U.calling g mk a).vm } : State).setVm s₂.vm := rfl
    rw [e2] at this
    exact this
  have hW' : U.WarmedH s₂.vm := hW₂
  obtain ⟨g₀, hg0⟩ := Option.isSome_iff_exists.mp h.top
  obtain ⟨r, hr⟩ := State.topJava?_eq_some.mp hg0
  have hr' : (({ U with heap := s₂.heap, slotsUsed := s₂.slotsUsed } : State).setVm s₂.vm).frames = .java g₀ :: r := hr
  have hsame : U.sameButNew ({ U with heap := s₂.heap, slotsUsed := s₂.slotsUsed } : State) L k n := by
    refine ⟨?_, q2, q3, q4, q5, q6⟩
    obtain ⟨t, ht, -⟩ := State.frames_cons hr
    show ({ U with heap := s₂.heap, slotsUsed := s₂.slotsUsed } : State) = { U.setFrames U.frames with heap := s₂.heap, slotsUsed := s₂.slotsUsed }
    rw [State.setFrames_self ht]
  refine ⟨o, s₂, (({ U with heap := s₂.heap, slotsUsed := s₂.slotsUsed } : State).setVm s₂.vm), L, k, n, hE, rfl, rfl, hW', ?_, ?_, ?_⟩
  · exact ⟨X.admits, X.cas, X.clock, X.frames, X.room, X.hears, X.method, X.code, (X.here.setHeapUsed s₂.heap s₂.slotsUsed).setVm hW'.alike, X.tail, State.WarmedH.trans X.warmed hW', X.limits, X.bytes, X.same.trans (hsame.setVm s.vm)⟩
  · intro v hv
    subst hv
    obtain ⟨c₂, i₂, len₂, hc₂, hd₂, hf₂⟩ := hend
    have hcc : c₂ = c := by
      have h1 : s₂.code? g.method = U.code? g.method := by rw [State.code?_eq, State.code?_eq, hW'.alike.method?]
      exact Option.some.inj (hc₂.symm.trans (h1.trans h.code))
    subst hcc
    have hlen : len₂ = len := by rw [hdg] at hd₂; cases hd₂; rfl
    subst hlen
    have hs₂ : s₂ = (({ U with heap := s₂.heap, slotsUsed := s₂.slotsUsed } : State).setVm s₂.vm).setTop { g with pc := g.pc + len₂, stack := v.toList ++ g.stack } := by
      refine e3.trans ?_
      rw [hf₂, State.calling_eq h.top, State.setFrames_setFrames, State.setTop_of_frames _ hr', hr]
      rfl
    rw [← hs₂]
    exact hsteps
  · intro x hx
    subst hx
    have hf₂ : s₂.frames = .throwing x :: .java g :: U.frames.tail := hend
    have hs₂ : s₂ = ((({ U with heap := s₂.heap, slotsUsed := s₂.slotsUsed } : State).setVm s₂.vm).setTop g).pushFrame (.throwing x) := by
      refine e3.trans ?_
      rw [hf₂, State.calling_eq h.top, State.setFrames_setFrames, State.pushFrame, State.frames_setTop _ hr', State.setTop_of_frames _ hr', State.setFrames_setFrames, hr]
      rfl
    rw [← hs₂]
    exact hsteps
/-- an invocation is under way: the machine has come to the callee's entry -/
def xInv (p : Program) (l : Launch) (e : Env) (R : Room) (s : State) (m : MethodId) (sargs : Array Value) (below : List Frame) (meth : Method) (c : Code) (T : State) (Ls : List Loc) (c0 s0 : Nat) (g : JFrame) (z : xY) (a : Array Value) (rest : List Value) : Prop :=
  ∃ (vm₁ : Vm) (mk : MethodId) (methY : Method) (cY : Code) (ig : Instr), Stand p l e R s m sargs below meth c (T.setVm vm₁) Ls c0 s0 ∧ (T.setVm vm₁).methodNamed? z.1 = some mk ∧ (T.setVm vm₁).vm.method? mk = some methY ∧ methY.code = some cY ∧ cY.maxLocals = z.2.2.1 ∧ decode c.code g.pc = .ok (ig, 3) ∧
    ∀ target, Steps p.tables e below (doInvoke e ((T.setVm vm₁).setTop { g with stack := rest }) [] mk a).1 target → Steps p.tables e below (T.setTop g) target
theorem xInv_virt {T : State} (X : Stand p l e R s m sargs below meth c T Ls c0 s0) (hexec : p.tables.exec = Jvm.exec) {own : String} {index : Nat} {z : xY} (hown : s.vm.findClass own = some m.cls)
    (hlink : (Cond.methodLink own index z.1).before sargs s = true) (hinst : (Cond.instanceMethod z.1).before sargs s = true) (hsel : (Cond.selects z.1.cls z.1 z.1).before sargs s = true) (hcode : (xwd z).before sargs s = true) (hy : z.1.cls ≠ "java/lang/invoke/MethodHandle" ∧ z.1.cls ≠ "java/lang/invoke/VarHandle")
    {b : Addr} {cellB : Cell} (hcell : T.heap[b]? = some cellB) (hobj : cellB.vm.isStatics = false) (hcls : s.vm.findClass z.1.cls = some cellB.cls)
    {g : JFrame} (hg : g.method = m) {argsL rest : List Value} {n : Nat} (hlen : (parseMethodDescriptor z.1.desc).map (fun d => d.parameters.length) = some n) (hn : argsL.length = n)
    (hstack : g.stack = argsL.reverse ++ .ref b :: rest) (hdg : decode c.code g.pc = .ok (.invokevirtual index, 3)) : xInv p l e R s m sargs below meth c T Ls c0 s0 g z (Value.ref b :: argsL).toArray rest := by
  obtain ⟨mk, methY, cY, hnamed, hmethM, hcY, -, hml, -, -, -, hsig⟩ := xwd_spec hcode
  obtain ⟨mk', methM, hnamed', hmethM', hstM, habM⟩ := Cond.instanceMethod_spec hinst
  cases hnamed.symm.trans hnamed'
  cases hmethM.symm.trans hmethM'
  obtain ⟨c2, r2, m2, q1, q2, q3, q4, kP, hkP, hkPi⟩ := Cond.selects_spec hsel
  cases hcls.symm.trans q1
  cases (State.methodFound?_of_named hnamed hy).symm.trans q2
  cases hnamed.symm.trans q3
  have hselP : selectMethod e.platform s.vm cellB.cls mk = .method mk := by rw [Launch.admits_selectMethod X.admits]; exact q4
  have hl : argsL.length = methY.sig.parameters.length := by
    rw [hsig] at hlen
    exact hn.trans (Option.some.inj hlen).symm
  obtain ⟨vm₁, X₁, hstep₁⟩ := X.invokevirtual hexec hown hlink hnamed hmethM hstM hkP hkPi hy (a := b) (cell := cellB) hcell
    (fun q h => by rw [h] at hobj; cases hobj) hselP hmethM habM hkP hkPi (g := g) hg (argsL := argsL) (rest := rest) hl hstack hdg
  refine ⟨vm₁, mk, methY, cY, _, X₁, X₁.named hnamed, ?_, hcY, hml, hdg, fun target h => hstep₁ _ fun acts => by rw [doInvoke_state]; exact h⟩
  rw [X₁.warmed.alike.method?]; exact hmethM
theorem xInv_stat {T : State} (X : Stand p l e R s m sargs below meth c T Ls c0 s0) (hexec : p.tables.exec = Jvm.exec) {own : String} {index : Nat} {z : xY} (hown : s.vm.findClass own = some m.cls)
    (hlink : (Cond.methodLink own index z.1).before sargs s = true) (hstat : (Cond.static z.1).before sargs s = true) (hini : (Cond.initialized z.1.cls).before sargs s = true) (hcode : (xwd z).before sargs s = true) (hy : z.1.cls ≠ "java/lang/invoke/MethodHandle" ∧ z.1.cls ≠ "java/lang/invoke/VarHandle")
    {g : JFrame} (hg : g.method = m) {argsL rest : List Value} {n : Nat} (hlen : (parseMethodDescriptor z.1.desc).map (fun d => d.parameters.length) = some n) (hn : argsL.length = n)
    (hstack : g.stack = argsL.reverse ++ rest) (hdg : decode c.code g.pc = .ok (.invokestatic index, 3)) : xInv p l e R s m sargs below meth c T Ls c0 s0 g z argsL.toArray rest := by
  obtain ⟨mk, methY, cY, hnamed, hmethM, hcY, -, hml, -, -, -, hsig⟩ := xwd_spec hcode
  have hstatic : methY.isStatic = true := Cond.static_spec hnamed hmethM hstat
  obtain ⟨kP, hkP, -⟩ := className_of_methodNamed hnamed
  have hinitP : kP.init = .initialized := Cond.initialized_spec (findClass_of_methodNamed hnamed) hkP hini
  have hl : argsL.length = methY.sig.parameters.length := by
    rw [hsig] at hlen
    exact hn.trans (Option.some.inj hlen).symm
  obtain ⟨vm₁, X₁, hstep₁⟩ := X.invokestatic hexec hown hlink hnamed hmethM hstatic hkP hinitP hy (g := g) hg (argsL := argsL) (rest := rest) hl hstack hdg
  refine ⟨vm₁, mk, methY, cY, _, X₁, X₁.named hnamed, ?_, hcY, hml, hdg, fun target h => hstep₁ _ fun acts => by rw [doInvoke_state]; exact h⟩
  rw [X₁.warmed.alike.method?]; exact hmethM
theorem xInv_statN {T : State} (X : Stand p l e R s m sargs below meth c T Ls c0 s0) (hexec : p.tables.exec = Jvm.exec) {own host : String} {index : Nat} {z : xY} (hown : s.vm.findClass own = some m.cls)
    (hlink : (Cond.methodLinkNest own index z.1 host).before sargs s = true) (hstat : (Cond.static z.1).before sargs s = true) (hini : (Cond.initialized z.1.cls).before sargs s = true) (hcode : (xwd z).before sargs s = true) (hy : z.1.cls ≠ "java/lang/invoke/MethodHandle" ∧ z.1.cls ≠ "java/lang/invoke/VarHandle")
    {g : JFrame} (hg : g.method = m) {argsL rest : List Value} {n : Nat} (hlen : (parseMethodDescriptor z.1.desc).map (fun d => d.parameters.length) = some n) (hn : argsL.length = n)
    (hstack : g.stack = argsL.reverse ++ rest) (hdg : decode c.code g.pc = .ok (.invokestatic index, 3)) : xInv p l e R s m sargs below meth c T Ls c0 s0 g z argsL.toArray rest := by
  obtain ⟨mk, methY, cY, hnamed, hmethM, hcY, -, hml, -, -, -, hsig⟩ := xwd_spec hcode
  have hstatic : methY.isStatic = true := Cond.static_spec hnamed hmethM hstat
  obtain ⟨kP, hkP, -⟩ := className_of_methodNamed hnamed
  have hinitP : kP.init = .initialized := Cond.initialized_spec (findClass_of_methodNamed hnamed) hkP hini
  have hl : argsL.length = methY.sig.parameters.length := by
    rw [hsig] at hlen
    exact hn.trans (Option.some.inj hlen).symm
  obtain ⟨vm₁, X₁, hstep₁⟩ := X.invokestaticNest hexec hown hlink hnamed hmethM hstatic hkP hinitP hy (g := g) hg (argsL := argsL) (rest := rest) hl hstack hdg
  refine ⟨vm₁, mk, methY, cY, _, X₁, X₁.named hnamed, ?_, hcY, hml, hdg, fun target h => hstep₁ _ fun acts => by rw [doInvoke_state]; exact h⟩
  rw [X₁.warmed.alike.method?]; exact hmethM
theorem xInv_init {T : State} (X : Stand p l e R s m sargs below meth c T Ls c0 s0) (hexec : p.tables.exec = Jvm.exec) {own : String} {index : Nat} {nm : MethodName} {by_ : ByteArray} {ml : Nat} {rm : Room} (hown : s.vm.findClass own = some m.cls) (hy1 : nm.name = "<init>")
    (hlink : (Cond.methodLink own index nm).before sargs s = true) (hinst : (Cond.instanceMethod nm).before sargs s = true) (hcode : (Cond.code nm by_ ml none).before sargs s = true) (hy : nm.cls ≠ "java/lang/invoke/MethodHandle" ∧ nm.cls ≠ "java/lang/invoke/VarHandle")
    {b : Addr} {g : JFrame} (hg : g.method = m) {argsL rest : List Value} {n : Nat} (hlen : (parseMethodDescriptor nm.desc).map (fun d => d.parameters.length) = some n) (hn : argsL.length = n)
    (hstack : g.stack = argsL.reverse ++ .ref b :: rest) (hdg : decode c.code g.pc = .ok (.invokespecial index, 3)) : xInv p l e R s m sargs below meth c T Ls c0 s0 g (nm, by_, ml, none, rm, []) (Value.ref b :: argsL).toArray rest := by
  subst hg
  have hpl : e.platform.magicAccessors = ({} : Platform).magicAccessors := by rw [X.admits.platform]
  have hl : ∀ sig, parseMethodDescriptor nm.desc = some sig → argsL.length = sig.parameters.length := fun sig h => by
    rw [h] at hlen
    exact hn.trans (Option.some.inj hlen).symm
  obtain ⟨mk, methM, cM, kP, vm₁, hnamed, hmethM, hcodeM, -, hlocalsM, -, hkP, -, hW₁, hstep₁⟩ := Steps.initColdArgs (e := e) X.here hexec X.warmed hpl hown hy1 hy hlink hinst hcode (f := g) rfl hl hstack hdg
  have X₁ := X.noted hW₁
  refine ⟨vm₁, mk, methM, cM, _, X₁, X₁.named hnamed, ?_, hcodeM, hlocalsM, hdg, fun target h => hstep₁ _ fun acts => by rw [doInvoke_state]; exact h⟩
  rw [X₁.warmed.alike.method?]; exact hmethM
end XCALL
/-- behind an invocation: the callee's end, in the caller's words -/
theorem x_ran {G : xG} {p : Program} {e : Env} {R : Room} {s : State} {m : MethodId} {sargs : Array Value} {below : List Frame} {meth : Method} {c : Code} {T : State} {Ls : List Loc} {c0 s0 : Nat} {g : JFrame} {z : xY} {avs : List Value} {w : xH} {r : xR} {rest : List Value}
    (I : xInv p (gl G) e R s m sargs below meth c T Ls c0 s0 g z (avs.map (xv G)).toArray rest) (hM : XM G z avs w r) (hts : ∀ w ∈ xTw, w.before sargs s = true) (hz : xwd z ∈ xTw) (hzi : Cond.initialized z.1.cls ∈ xTw) (hK : xK G s) (hS : va_S (xA G) s.heap T.heap Ls) (hW : xW G w.2 T.heap) (hE : w.1 = 2 → T.heap.size = gb G + w.2.length)
    (hg : g.method = m) (hsize : g.locals.size = c.maxLocals) (hst : 2 * g.monitorRoom + (rest.map fun v => v.category).sum ≤ 8)
    (hR : z.2.2.2.2.1.frames + 1 ≤ R.frames ∧ 8 + (z.2.2.1 + 11) + z.2.2.2.2.1.locals ≤ R.locals ∧ c0 + z.2.2.2.2.1.cells ≤ R.cells ∧ s0 + z.2.2.2.2.1.slots ≤ R.slots) :
    ∃ (o : Outcome) (T' : State) (L : List Loc), Stand p (gl G) e R s m sargs below meth c T' (Ls ++ L) (c0 + r.2.2.1) (s0 + r.2.2.2) ∧ xW G r.2.1.2 T'.heap ∧ va_S (xA G) s.heap T'.heap (Ls ++ L) ∧ (r.2.1.1 = 1 → T'.heap = T.heap ∧ L = []) ∧
      (∀ v, r.1 = .inl v → ∀ target, Steps p.tables e below (T'.setTop { g with pc := g.pc + 3, stack := (v.map (xv G)).toList ++ rest }) target → Steps p.tables e below (T.setTop g) target) ∧
      (∀ E, r.1 = .inr E → ∃ (x : Addr) (cell : Cell), T'.heap[x]? = some cell ∧ cell.vm = .none ∧ s.vm.findClass E = some cell.cls ∧ ∀ target, Steps p.tables e below ((T'.setTop { g with stack := rest }).pushFrame (.throwing x)) target → Steps p.tables e below (T.setTop g) target) := by
  obtain ⟨vm₁, mk, methY, cY, ig, X₁, hn, hmY, hcY, hml, hdg, st⟩ := I
  have hWs : s.WarmedH vm₁ := X₁.warmed
  have hGd : ∀ w ∈ xTw, ∀ (a' : Array Value), w.before a' (T.setVm vm₁) = true := fun w hw a' => word_at (U := T.setVm vm₁) hWs (xTw_good w hw) (hts w hw)
  have hKT : ∀ (gg : JFrame) (a' : Array Value), xK G ((T.setVm vm₁).calling gg mk a') := fun gg a' => hK.moved (U := (T.setVm vm₁).calling gg mk a') hWs hS.1 hS.2.1
  obtain ⟨o, t, T', L, k, n, ⟨hq, rfl, rfl, hLA, hmode⟩, e1, e2, hWt, X', hret, hthr⟩ := x_call X₁ hM (g := { g with stack := rest }) hg hsize hdg hn hmY hcY (hGd _ hzi _) hR.1 (by rw [hml]; have := hR.2.1; show 2 * g.monitorRoom + (rest.map fun v => v.category).sum + (z.2.2.1 + 11) + z.2.2.2.2.1.locals ≤ R.locals; omega) hR.2.2.1 hR.2.2.2
    (atoms_intro (fun w hw => by
      rcases List.mem_cons.mp hw with h | h
      · rw [h]; exact hGd _ hz _
      · exact hGd _ h _)) ⟨rfl, hW, hKT _ _, hE⟩
    (E := fun o t L k n => (xO G r.1 ((T.setVm vm₁).calling { g with stack := rest } mk (avs.map (xv G)).toArray) o t ∧ xW G r.2.1.2 t.heap ∧ va_F (xA G) ((T.setVm vm₁).calling { g with stack := rest } mk (avs.map (xv G)).toArray) t) ∧ k = r.2.2.1 ∧ n = r.2.2.2 ∧ (∀ q ∈ L, xA G q.base) ∧ (r.2.1.1 = 1 → t.heap = T.heap ∧ L = []))
    (fun o t hq => by
      obtain ⟨h1, h2, h3, L, h4, h5, h6, h7⟩ := hq
      exact ⟨L, _, _, h4, h5, ⟨h1, h2, h3⟩, rfl, rfl, h6, h7⟩)
  obtain ⟨hO, hWr, hF⟩ := hq
  have hF1 : T.heap.size ≤ t.heap.size := hF.1
  have hF2 : ∀ q : Nat, q < T.heap.size → ¬ xA G q → t.heap[q]? = T.heap[q]? := hF.2
  refine ⟨o, T', L, X', by rw [e1]; exact hWr, ⟨by rw [e1]; exact Nat.le_trans hS.1 hF1, fun q h1 h2 => by rw [e1, hF2 q (Nat.lt_of_lt_of_le h1 hS.1) h2]; exact hS.2.1 q h1 h2, fun q hq => ?_⟩, fun h => by rw [e1]; exact hmode h, fun v hv target ht => st target ?_, fun E hE => ?_⟩
  · rcases List.mem_append.mp hq with h | h
    · exact hS.2.2 q h
    · exact hLA q h
  · rw [hv] at hO
    exact (hret _ hO).trans ht
  · rw [hE] at hO
    obtain ⟨x, cell, h1, h2, h3, h4⟩ := hO
    refine ⟨x, cell, by rw [e1]; exact h2, h3, ?_, fun target ht => st target ((hthr _ h1).trans ht)⟩
    have h4' : vm₁.findClass E = some cell.cls := h4
    rw [hWs.alike.findClass] at h4'
    exact h4'
end
section
section XJ
variable {G : xG} {y : xY} {k : Nat × Nat} {pc : Nat} {L : List (Nat × Value)} {st : List Value} {w : xH} {r : xR}
def xlk (L : List (Nat × Value)) (i : Nat) : Option Value := (L.find? (fun q => q.1 == i)).map (fun q => q.2)
def xst (L : List (Nat × Value)) (i : Nat) (v : Value) : List (Nat × Value) := (i, v) :: L.filter (fun q => !(q.1 == i) && !(q.1 + 1 == i && q.2.category == 2))
def xst2 (L : List (Nat × Value)) (i : Nat) (v : Value) : List (Nat × Value) := (i, v) :: L.filter (fun q => !(q.1 == i) && (!(q.1 == i + 1) && !(q.1 + 1 == i && q.2.category == 2)))
theorem xlk_mem {G : xG} {L : List (Nat × Value)} {i : Nat} {v : Value} (h : xlk L i = some v) : (i, xv G v) ∈ xmp G L := by
  unfold xlk at h
  cases hf : L.find? (fun q => q.1 == i) with
  | none => rw [hf] at h; cases h
  | some q =>
    rw [hf] at h
    have h1 := List.mem_of_find?_eq_some hf
    have h2 := List.find?_some hf
    have h3 : q.1 = i := by simpa using h2
    have h4 : q.2 = v := Option.some.inj h
    exact List.mem_map.mpr ⟨q, h1, by rw [h3, h4]⟩
theorem xlk_at {G : xG} {ls : Array Slot} {n : Nat} {L : List (Nat × Value)} {i : Nat} {v : Value} (hl : lv_has ls n (xmp G L)) (h : xlk L i = some v) : ls[i]? = some (.val (xv G v)) := hl.2.2 _ (xlk_mem h)
theorem xst_map (G : xG) (L : List (Nat × Value)) (i : Nat) (v : Value) : (i, xv G v) :: (xmp G L).filter (fun q => !(q.1 == i) && !(q.1 + 1 == i && q.2.category == 2)) = xmp G (xst L i v) := by
  simp only [xmp, xst, List.map_cons, List.filter_map, Function.comp_def, xv_cat]
theorem xst2_map (G : xG) (L : List (Nat × Value)) (i : Nat) (v : Value) : (i, xv G v) :: (xmp G L).filter (fun q => !(q.1 == i) && (!(q.1 == i + 1) && !(q.1 + 1 == i && q.2.category == 2))) = xmp G (xst2 L i v) := by
  simp only [xmp, xst2, List.map_cons, List.filter_map, Function.comp_def, xv_cat]

theorem J_iconst {n : Int} {v : Int32} (hd : decode y.2.1 pc = .ok (.iconst n, 1)) (hv : Int32.ofInt n = v) (h : JW G y k (pc + 1) L (.int v :: st) w r) : JW G y k pc L st w r :=
  fun p e s m args below meth c H locs ls C hS hW hM hl => lv_iconst C.1 C.2.1 hd hv (h p e s m args below meth c H locs ls C hS hW hM hl)
theorem J_bipush {n : Int} {v : Int32} (hd : decode y.2.1 pc = .ok (.bipush n, 2)) (hv : (Int8.ofInt n).toInt32 = v) (h : JW G y k (pc + 2) L (.int v :: st) w r) : JW G y k pc L st w r :=
  fun p e s m args below meth c H locs ls C hS hW hM hl => lv_bipush C.1 C.2.1 hd hv (h p e s m args below meth c H locs ls C hS hW hM hl)
theorem J_sipush {n : Int} {v : Int32} (hd : decode y.2.1 pc = .ok (.sipush n, 3)) (hv : (Int16.ofInt n).toInt32 = v) (h : JW G y k (pc + 3) L (.int v :: st) w r) : JW G y k pc L st w r :=
  fun p e s m args below meth c H locs ls C hS hW hM hl => lv_sipush C.1 C.2.1 hd hv (h p e s m args below meth c H locs ls C hS hW hM hl)
theorem J_lconst {n : Fin 2} {v : Int64} (hd : decode y.2.1 pc = .ok (.lconst n, 1)) (hv : Int64.ofNat (n : Nat) = v) (h : JW G y k (pc + 1) L (.long v :: st) w r) : JW G y k pc L st w r :=
  fun p e s m args below meth c H locs ls C hS hW hM hl => lv_lconst C.1 C.2.1 hd hv (h p e s m args below meth c H locs ls C hS hW hM hl)
theorem J_ldc {index : Nat} {v : Int32} (hd : decode y.2.1 pc = .ok (.ldc index, 2)) (hw : Cond.constant y.1.cls index v ∈ xTw) (h : JW G y k (pc + 2) L (.int v :: st) w r) : JW G y k pc L st w r :=
  fun p e s m args below meth c H locs ls C hS hW hM hl => lv_ldc C.1 C.2.1 C.2.2.2.2.1 (C.2.2.2.2.2.1 _ hw) hd (h p e s m args below meth c H locs ls C hS hW hM hl)
theorem J_ldc_w {index : Nat} {v : Int32} (hd : decode y.2.1 pc = .ok (.ldc_w index, 3)) (hw : Cond.constant y.1.cls index v ∈ xTw) (h : JW G y k (pc + 3) L (.int v :: st) w r) : JW G y k pc L st w r :=
  fun p e s m args below meth c H locs ls C hS hW hM hl => lv_ldcw C.1 C.2.1 C.2.2.2.2.1 (C.2.2.2.2.2.1 _ hw) hd (h p e s m args below meth c H locs ls C hS hW hM hl)
theorem J_ldc2_w {index : Nat} {v : Int64} (hd : decode y.2.1 pc = .ok (.ldc2_w index, 3)) (hw : Cond.constantLong y.1.cls index v ∈ xTw) (h : JW G y k (pc + 3) L (.long v :: st) w r) : JW G y k pc L st w r :=
  fun p e s m args below meth c H locs ls C hS hW hM hl => lv_ldc2 C.1 C.2.1 C.2.2.2.2.1 (C.2.2.2.2.2.1 _ hw) hd (h p e s m args below meth c H locs ls C hS hW hM hl)
theorem J_iload_n {j : Fin 4} {i : Nat} {x : Int32} (hd : decode y.2.1 pc = .ok (.iload_n j, 1)) (hi : (j : Nat) = i) (hx : xlk L i = some (.int x)) (h : JW G y k (pc + 1) L (.int x :: st) w r) : JW G y k pc L st w r :=
  fun p e s m args below meth c H locs ls C hS hW hM hl => lv_iload_n C.1 C.2.1 hd hi (xlk_at hl hx) (h p e s m args below meth c H locs ls C hS hW hM hl)
theorem J_iload {i : Nat} {x : Int32} (hd : decode y.2.1 pc = .ok (.iload i, 2)) (hx : xlk L i = some (.int x)) (h : JW G y k (pc + 2) L (.int x :: st) w r) : JW G y k pc L st w r :=
  fun p e s m args below meth c H locs ls C hS hW hM hl => lv_iload C.1 C.2.1 hd (xlk_at hl hx) (h p e s m args below meth c H locs ls C hS hW hM hl)
theorem J_lload_n {j : Fin 4} {i : Nat} {x : Int64} (hd : decode y.2.1 pc = .ok (.lload_n j, 1)) (hi : (j : Nat) = i) (hx : xlk L i = some (.long x)) (h : JW G y k (pc + 1) L (.long x :: st) w r) : JW G y k pc L st w r :=
  fun p e s m args below meth c H locs ls C hS hW hM hl => lv_lload_n C.1 C.2.1 hd hi (xlk_at hl hx) (h p e s m args below meth c H locs ls C hS hW hM hl)
theorem J_lload {i : Nat} {x : Int64} (hd : decode y.2.1 pc = .ok (.lload i, 2)) (hx : xlk L i = some (.long x)) (h : JW G y k (pc + 2) L (.long x :: st) w r) : JW G y k pc L st w r :=
  fun p e s m args below meth c H locs ls C hS hW hM hl => lv_lload C.1 C.2.1 hd (xlk_at hl hx) (h p e s m args below meth c H locs ls C hS hW hM hl)
theorem J_aload_n {j : Fin 4} {i : Nat} {x : Nat} (hd : decode y.2.1 pc = .ok (.aload_n j, 1)) (hi : (j : Nat) = i) (hx : xlk L i = some (.ref x)) (h : JW G y k (pc + 1) L (.ref x :: st) w r) : JW G y k pc L st w r :=
  fun p e s m args below meth c H locs ls C hS hW hM hl => lv_aload_n C.1 C.2.1 hd hi (xlk_at hl hx) (h p e s m args below meth c H locs ls C hS hW hM hl)
theorem J_aload {i : Nat} {x : Nat} (hd : decode y.2.1 pc = .ok (.aload i, 2)) (hx : xlk L i = some (.ref x)) (h : JW G y k (pc + 2) L (.ref x :: st) w r) : JW G y k pc L st w r :=
  fun p e s m args below meth c H locs ls C hS hW hM hl => lv_aload C.1 C.2.1 hd (xlk_at hl hx) (h p e s m args below meth c H locs ls C hS hW hM hl)
theorem J_sload_n {j : Fin 4} {i : Nat} {x : UInt32} (hd : decode y.2.1 pc = .ok (.aload_n j, 1)) (hi : (j : Nat) = i) (hx : xlk L i = some (.float x)) (h : JW G y k (pc + 1) L (.float x :: st) w r) : JW G y k pc L st w r :=
  fun p e s m args below meth c H locs ls C hS hW hM hl => lv_aload_n C.1 C.2.1 hd hi (xlk_at hl hx) (h p e s m args below meth c H locs ls C hS hW hM hl)
theorem J_istore_n {j : Fin 4} {i : Nat} {x : Int32} (hd : decode y.2.1 pc = .ok (.istore_n j, 1)) (hi : (j : Nat) = i) (hn : i < y.2.2.1) (h : JW G y k (pc + 1) (xst L i (.int x)) st w r) : JW G y k pc L (.int x :: st) w r :=
  fun p e s m args below meth c H locs ls C hS hW hM hl => lv_istore_n (lv' := xmp G (xst L i (.int x))) C.1 C.2.1 hd hi hl hn (xst_map G L i (.int x)) (fun ls' hl' => h p e s m args below meth c H locs ls' C hS hW hM hl')
theorem J_istore {i : Nat} {x : Int32} (hd : decode y.2.1 pc = .ok (.istore i, 2)) (hn : i < y.2.2.1) (h : JW G y k (pc + 2) (xst L i (.int x)) st w r) : JW G y k pc L (.int x :: st) w r :=
  fun p e s m args below meth c H locs ls C hS hW hM hl => lv_istore (lv' := xmp G (xst L i (.int x))) C.1 C.2.1 hd hl hn (xst_map G L i (.int x)) (fun ls' hl' => h p e s m args below meth c H locs ls' C hS hW hM hl')
theorem J_lstore_n {j : Fin 4} {i : Nat} {x : Int64} (hd : decode y.2.1 pc = .ok (.lstore_n j, 1)) (hi : (j : Nat) = i) (hn : i + 1 < y.2.2.1) (h : JW G y k (pc + 1) (xst2 L i (.long x)) st w r) : JW G y k pc L (.long x :: st) w r :=
  fun p e s m args below meth c H locs ls C hS hW hM hl => lv_lstore_n (lv' := xmp G (xst2 L i (.long x))) C.1 C.2.1 hd hi hl hn (xst2_map G L i (.long x)) (fun ls' hl' => h p e s m args below meth c H locs ls' C hS hW hM hl')
theorem J_lstore {i : Nat} {x : Int64} (hd : decode y.2.1 pc = .ok (.lstore i, 2)) (hn : i + 1 < y.2.2.1) (h : JW G y k (pc + 2) (xst2 L i (.long x)) st w r) : JW G y k pc L (.long x :: st) w r :=
  fun p e s m args below meth c H locs ls C hS hW hM hl => lv_lstore (lv' := xmp G (xst2 L i (.long x))) C.1 C.2.1 hd hl hn (xst2_map G L i (.long x)) (fun ls' hl' => h p e s m args below meth c H locs ls' C hS hW hM hl')
theorem J_astore_n {j : Fin 4} {i : Nat} {x : Nat} (hd : decode y.2.1 pc = .ok (.astore_n j, 1)) (hi : (j : Nat) = i) (hn : i < y.2.2.1) (h : JW G y k (pc + 1) (xst L i (.ref x)) st w r) : JW G y k pc L (.ref x :: st) w r :=
  fun p e s m args below meth c H locs ls C hS hW hM hl => lv_astore_n (lv' := xmp G (xst L i (.ref x))) C.1 C.2.1 hd hi hl hn (xst_map G L i (.ref x)) (fun ls' hl' => h p e s m args below meth c H locs ls' C hS hW hM hl')
theorem J_astore {i : Nat} {x : Nat} (hd : decode y.2.1 pc = .ok (.astore i, 2)) (hn : i < y.2.2.1) (h : JW G y k (pc + 2) (xst L i (.ref x)) st w r) : JW G y k pc L (.ref x :: st) w r :=
  fun p e s m args below meth c H locs ls C hS hW hM hl => lv_astore (lv' := xmp G (xst L i (.ref x))) C.1 C.2.1 hd hl hn (xst_map G L i (.ref x)) (fun ls' hl' => h p e s m args below meth c H locs ls' C hS hW hM hl')
theorem J_iinc {i : Nat} {n : Int} {x v : Int32} (hd : decode y.2.1 pc = .ok (.iinc i n, 3)) (hx : xlk L i = some (.int x)) (hv : x + Int32.ofInt n = v) (hn : i < y.2.2.1) (h : JW G y k (pc + 3) (xst L i (.int v)) st w r) : JW G y k pc L st w r := by
  intro p e s m args below meth c H locs ls C hS hW hM hl
  obtain ⟨k', hk'⟩ := List.getElem?_of_mem (xlk_mem (G := G) hx)
  exact lv_iinc (k := k') (x := x) (v := v) (lv' := xmp G (xst L i (.int v))) C.1 C.2.1 hd hl hk' hv hn (xst_map G L i (.int v)) (fun ls' hl' => h p e s m args below meth c H locs ls' C hS hW hM hl')
theorem J_iadd {a b : Int32} (hd : decode y.2.1 pc = .ok (.iadd, 1)) (h : JW G y k (pc + 1) L (.int (a + b) :: st) w r) : JW G y k pc L (.int b :: .int a :: st) w r :=
  fun p e s m args below meth c H locs ls C hS hW hM hl => lv_iadd C.1 C.2.1 hd (h p e s m args below meth c H locs ls C hS hW hM hl)
theorem J_isub {a b : Int32} (hd : decode y.2.1 pc = .ok (.isub, 1)) (h : JW G y k (pc + 1) L (.int (a - b) :: st) w r) : JW G y k pc L (.int b :: .int a :: st) w r :=
  fun p e s m args below meth c H locs ls C hS hW hM hl => lv_isub C.1 C.2.1 hd (h p e s m args below meth c H locs ls C hS hW hM hl)
theorem J_imul {a b : Int32} (hd : decode y.2.1 pc = .ok (.imul, 1)) (h : JW G y k (pc + 1) L (.int (a * b) :: st) w r) : JW G y k pc L (.int b :: .int a :: st) w r :=
  fun p e s m args below meth c H locs ls C hS hW hM hl => lv_imul C.1 C.2.1 hd (h p e s m args below meth c H locs ls C hS hW hM hl)
theorem J_iand {a b : Int32} (hd : decode y.2.1 pc = .ok (.iand, 1)) (h : JW G y k (pc + 1) L (.int (a &&& b) :: st) w r) : JW G y k pc L (.int b :: .int a :: st) w r :=
  fun p e s m args below meth c H locs ls C hS hW hM hl => lv_iand C.1 C.2.1 hd (h p e s m args below meth c H locs ls C hS hW hM hl)
theorem J_ladd {a b : Int64} (hd : decode y.2.1 pc = .ok (.ladd, 1)) (h : JW G y k (pc + 1) L (.long (a + b) :: st) w r) : JW G y k pc L (.long b :: .long a :: st) w r :=
  fun p e s m args below meth c H locs ls C hS hW hM hl => lv_ladd C.1 C.2.1 hd (h p e s m args below meth c H locs ls C hS hW hM hl)
theorem J_lsub {a b : Int64} (hd : decode y.2.1 pc = .ok (.lsub, 1)) (h : JW G y k (pc + 1) L (.long (a - b) :: st) w r) : JW G y k pc L (.long b :: .long a :: st) w r :=
  fun p e s m args below meth c H locs ls C hS hW hM hl => lv_lsub C.1 C.2.1 hd (h p e s m args below meth c H locs ls C hS hW hM hl)
theorem J_lmul {a b : Int64} (hd : decode y.2.1 pc = .ok (.lmul, 1)) (h : JW G y k (pc + 1) L (.long (a * b) :: st) w r) : JW G y k pc L (.long b :: .long a :: st) w r :=
  fun p e s m args below meth c H locs ls C hS hW hM hl => lv_lmul C.1 C.2.1 hd (h p e s m args below meth c H locs ls C hS hW hM hl)
theorem J_land {a b : Int64} (hd : decode y.2.1 pc = .ok (.land, 1)) (h : JW G y k (pc + 1) L (.long (a &&& b) :: st) w r) : JW G y k pc L (.long b :: .long a :: st) w r :=
  fun p e s m args below meth c H locs ls C hS hW hM hl => lv_land C.1 C.2.1 hd (h p e s m args below meth c H locs ls C hS hW hM hl)
theorem J_lor {a b : Int64} (hd : decode y.2.1 pc = .ok (.lor, 1)) (h : JW G y k (pc + 1) L (.long (a ||| b) :: st) w r) : JW G y k pc L (.long b :: .long a :: st) w r :=
  fun p e s m args below meth c H locs ls C hS hW hM hl => lv_lor C.1 C.2.1 hd (h p e s m args below meth c H locs ls C hS hW hM hl)
theorem J_idiv {a b : Int32} (hd : decode y.2.1 pc = .ok (.idiv, 1)) (hb : ¬ b = 0) (h : JW G y k (pc + 1) L (.int (a / b) :: st) w r) : JW G y k pc L (.int b :: .int a :: st) w r :=
  fun p e s m args below meth c H locs ls C hS hW hM hl => lv_idiv C.1 C.2.1 hd hb (h p e s m args below meth c H locs ls C hS hW hM hl)
theorem J_ldiv {a b : Int64} (hd : decode y.2.1 pc = .ok (.ldiv, 1)) (hb : ¬ b = 0) (h : JW G y k (pc + 1) L (.long (a / b) :: st) w r) : JW G y k pc L (.long b :: .long a :: st) w r :=
  fun p e s m args below meth c H locs ls C hS hW hM hl => lv_ldiv C.1 C.2.1 hd hb (h p e s m args below meth c H locs ls C hS hW hM hl)
theorem J_lneg {a : Int64} (hd : decode y.2.1 pc = .ok (.lneg, 1)) (h : JW G y k (pc + 1) L (.long (-a) :: st) w r) : JW G y k pc L (.long a :: st) w r :=
  fun p e s m args below meth c H locs ls C hS hW hM hl => lv_lneg C.1 C.2.1 hd (h p e s m args below meth c H locs ls C hS hW hM hl)
theorem J_i2l {a : Int32} (hd : decode y.2.1 pc = .ok (.i2l, 1)) (h : JW G y k (pc + 1) L (.long a.toInt64 :: st) w r) : JW G y k pc L (.int a :: st) w r :=
  fun p e s m args below meth c H locs ls C hS hW hM hl => lv_i2l C.1 C.2.1 hd rfl (h p e s m args below meth c H locs ls C hS hW hM hl)
theorem J_lshl {a : Int64} {b : Int32} {v : Int64} (hd : decode y.2.1 pc = .ok (.lshl, 1)) (hv : a <<< (b.toInt64 &&& 63) = v) (h : JW G y k (pc + 1) L (.long v :: st) w r) : JW G y k pc L (.int b :: .long a :: st) w r :=
  fun p e s m args below meth c H locs ls C hS hW hM hl => lv_lshl C.1 C.2.1 hd hv (h p e s m args below meth c H locs ls C hS hW hM hl)
theorem J_lcmp {a b : Int64} (hd : decode y.2.1 pc = .ok (.lcmp, 1)) (h : JW G y k (pc + 1) L (.int (lg_cmp a b) :: st) w r) : JW G y k pc L (.long b :: .long a :: st) w r :=
  fun p e s m args below meth c H locs ls C hS hW hM hl => W.lcmp C.1 C.2.1 hd (h p e s m args below meth c H locs ls C hS hW hM hl)
theorem J_dup {i : Nat} (hd : decode y.2.1 pc = .ok (.dup, 1)) (h : JW G y k (pc + 1) L (.ref i :: .ref i :: st) w r) : JW G y k pc L (.ref i :: st) w r :=
  fun p e s m args below meth c H locs ls C hS hW hM hl => lv_dup C.1 C.2.1 hd rfl (h p e s m args below meth c H locs ls C hS hW hM hl)
theorem J_goto {off : Int} {tgt : Nat} (hd : decode y.2.1 pc = .ok (.goto off, 3)) (ht : (pc : Int) + off = (tgt : Int)) (h : JW G y k tgt L st w r) : JW G y k pc L st w r :=
  fun p e s m args below meth c H locs ls C hS hW hM hl => lv_goto C.1 C.2.1 hd ht (h p e s m args below meth c H locs ls C hS hW hM hl)
theorem J_if_eq {x : Int32} {off : Int} {tgt : Nat} (hd : decode y.2.1 pc = .ok (.ifCond .eq off, 3)) (ht : (pc : Int) + off = (tgt : Int)) (kt : x = 0 → JW G y k tgt L st w r) (kf : ¬ x = 0 → JW G y k (pc + 3) L st w r) : JW G y k pc L (.int x :: st) w r :=
  fun p e s m args below meth c H locs ls C hS hW hM hl => lv_if_eq C.1 C.2.1 hd ht (fun q => kt q p e s m args below meth c H locs ls C hS hW hM hl) (fun q => kf q p e s m args below meth c H locs ls C hS hW hM hl)
theorem J_if_ne {x : Int32} {off : Int} {tgt : Nat} (hd : decode y.2.1 pc = .ok (.ifCond .ne off, 3)) (ht : (pc : Int) + off = (tgt : Int)) (kt : ¬ x = 0 → JW G y k tgt L st w r) (kf : ¬ (¬ x = 0) → JW G y k (pc + 3) L st w r) : JW G y k pc L (.int x :: st) w r :=
  fun p e s m args below meth c H locs ls C hS hW hM hl => lv_if_ne C.1 C.2.1 hd ht (fun q => kt q p e s m args below meth c H locs ls C hS hW hM hl) (fun q => kf (fun z => z q) p e s m args below meth c H locs ls C hS hW hM hl)
theorem J_if_lt {x : Int32} {off : Int} {tgt : Nat} (hd : decode y.2.1 pc = .ok (.ifCond .lt off, 3)) (ht : (pc : Int) + off = (tgt : Int)) (kt : x < 0 → JW G y k tgt L st w r) (kf : ¬ x < 0 → JW G y k (pc + 3) L st w r) : JW G y k pc L (.int x :: st) w r :=
  fun p e s m args below meth c H locs ls C hS hW hM hl => lv_if_lt C.1 C.2.1 hd ht (fun q => kt q p e s m args below meth c H locs ls C hS hW hM hl) (fun q => kf q p e s m args below meth c H locs ls C hS hW hM hl)
theorem J_if_ge {x : Int32} {off : Int} {tgt : Nat} (hd : decode y.2.1 pc = .ok (.ifCond .ge off, 3)) (ht : (pc : Int) + off = (tgt : Int)) (kt : 0 ≤ x → JW G y k tgt L st w r) (kf : ¬ 0 ≤ x → JW G y k (pc + 3) L st w r) : JW G y k pc L (.int x :: st) w r :=
  fun p e s m args below meth c H locs ls C hS hW hM hl => lv_if_ge C.1 C.2.1 hd ht (fun q => kt q p e s m args below meth c H locs ls C hS hW hM hl) (fun q => kf q p e s m args below meth c H locs ls C hS hW hM hl)
theorem J_if_gt {x : Int32} {off : Int} {tgt : Nat} (hd : decode y.2.1 pc = .ok (.ifCond .gt off, 3)) (ht : (pc : Int) + off = (tgt : Int)) (kt : 0 < x → JW G y k tgt L st w r) (kf : ¬ 0 < x → JW G y k (pc + 3) L st w r) : JW G y k pc L (.int x :: st) w r :=
  fun p e s m args below meth c H locs ls C hS hW hM hl => lv_if_gt C.1 C.2.1 hd ht (fun q => kt q p e s m args below meth c H locs ls C hS hW hM hl) (fun q => kf q p e s m args below meth c H locs ls C hS hW hM hl)
theorem J_if_le {x : Int32} {off : Int} {tgt : Nat} (hd : decode y.2.1 pc = .ok (.ifCond .le off, 3)) (ht : (pc : Int) + off = (tgt : Int)) (kt : x ≤ 0 → JW G y k tgt L st w r) (kf : ¬ x ≤ 0 → JW G y k (pc + 3) L st w r) : JW G y k pc L (.int x :: st) w r :=
  fun p e s m args below meth c H locs ls C hS hW hM hl => lv_if_le C.1 C.2.1 hd ht (fun q => kt q p e s m args below meth c H locs ls C hS hW hM hl) (fun q => kf q p e s m args below meth c H locs ls C hS hW hM hl)
theorem J_icmp_eq {x z : Int32} {off : Int} {tgt : Nat} (hd : decode y.2.1 pc = .ok (.if_icmp .eq off, 3)) (ht : (pc : Int) + off = (tgt : Int)) (kt : x = z → JW G y k tgt L st w r) (kf : ¬ x = z → JW G y k (pc + 3) L st w r) : JW G y k pc L (.int z :: .int x :: st) w r :=
  fun p e s m args below meth c H locs ls C hS hW hM hl => lv_icmp_eq C.1 C.2.1 hd ht (fun q => kt q p e s m args below meth c H locs ls C hS hW hM hl) (fun q => kf q p e s m args below meth c H locs ls C hS hW hM hl)
theorem J_icmp_ne {x z : Int32} {off : Int} {tgt : Nat} (hd : decode y.2.1 pc = .ok (.if_icmp .ne off, 3)) (ht : (pc : Int) + off = (tgt : Int)) (kt : ¬ x = z → JW G y k tgt L st w r) (kf : ¬ (¬ x = z) → JW G y k (pc + 3) L st w r) : JW G y k pc L (.int z :: .int x :: st) w r :=
  fun p e s m args below meth c H locs ls C hS hW hM hl => lv_icmp_ne C.1 C.2.1 hd ht (fun q => kt q p e s m args below meth c H locs ls C hS hW hM hl) (fun q => kf (fun z => z q) p e s m args below meth c H locs ls C hS hW hM hl)
theorem J_icmp_lt {x z : Int32} {off : Int} {tgt : Nat} (hd : decode y.2.1 pc = .ok (.if_icmp .lt off, 3)) (ht : (pc : Int) + off = (tgt : Int)) (kt : x < z → JW G y k tgt L st w r) (kf : ¬ x < z → JW G y k (pc + 3) L st w r) : JW G y k pc L (.int z :: .int x :: st) w r :=
  fun p e s m args below meth c H locs ls C hS hW hM hl => lv_icmp_lt C.1 C.2.1 hd ht (fun q => kt q p e s m args below meth c H locs ls C hS hW hM hl) (fun q => kf q p e s m args below meth c H locs ls C hS hW hM hl)
theorem J_icmp_ge {x z : Int32} {off : Int} {tgt : Nat} (hd : decode y.2.1 pc = .ok (.if_icmp .ge off, 3)) (ht : (pc : Int) + off = (tgt : Int)) (kt : z ≤ x → JW G y k tgt L st w r) (kf : ¬ z ≤ x → JW G y k (pc + 3) L st w r) : JW G y k pc L (.int z :: .int x :: st) w r :=
  fun p e s m args below meth c H locs ls C hS hW hM hl => lv_icmp_ge C.1 C.2.1 hd ht (fun q => kt q p e s m args below meth c H locs ls C hS hW hM hl) (fun q => kf q p e s m args below meth c H locs ls C hS hW hM hl)
theorem J_icmp_gt {x z : Int32} {off : Int} {tgt : Nat} (hd : decode y.2.1 pc = .ok (.if_icmp .gt off, 3)) (ht : (pc : Int) + off = (tgt : Int)) (kt : z < x → JW G y k tgt L st w r) (kf : ¬ z < x → JW G y k (pc + 3) L st w r) : JW G y k pc L (.int z :: .int x :: st) w r :=
  fun p e s m args below meth c H locs ls C hS hW hM hl => lv_icmp_gt C.1 C.2.1 hd ht (fun q => kt q p e s m args below meth c H locs ls C hS hW hM hl) (fun q => kf q p e s m args below meth c H locs ls C hS hW hM hl)
theorem J_icmp_le {x z : Int32} {off : Int} {tgt : Nat} (hd : decode y.2.1 pc = .ok (.if_icmp .le off, 3)) (ht : (pc : Int) + off = (tgt : Int)) (kt : x ≤ z → JW G y k tgt L st w r) (kf : ¬ x ≤ z → JW G y k (pc + 3) L st w r) : JW G y k pc L (.int z :: .int x :: st) w r :=
  fun p e s m args below meth c H locs ls C hS hW hM hl => lv_icmp_le C.1 C.2.1 hd ht (fun q => kt q p e s m args below meth c H locs ls C hS hW hM hl) (fun q => kf q p e s m args below meth c H locs ls C hS hW hM hl)
theorem J_lif_eq {a b : Int64} {off : Int} {tgt : Nat} (hd : decode y.2.1 pc = .ok (.ifCond .eq off, 3)) (ht : (pc : Int) + off = (tgt : Int)) (kt : a = b → JW G y k tgt L st w r) (kf : ¬ a = b → JW G y k (pc + 3) L st w r) : JW G y k pc L (.int (lg_cmp a b) :: st) w r :=
  J_if_eq hd ht (fun q => kt ((lg_cmp_eq a b).mp q)) (fun q => kf (fun q2 => q ((lg_cmp_eq a b).mpr q2)))
theorem J_lif_lt {a b : Int64} {off : Int} {tgt : Nat} (hd : decode y.2.1 pc = .ok (.ifCond .lt off, 3)) (ht : (pc : Int) + off = (tgt : Int)) (kt : a < b → JW G y k tgt L st w r) (kf : ¬ a < b → JW G y k (pc + 3) L st w r) : JW G y k pc L (.int (lg_cmp a b) :: st) w r :=
  J_if_lt hd ht (fun q => kt ((lg_cmp_lt a b).mp q)) (fun q => kf (fun q2 => q ((lg_cmp_lt a b).mpr q2)))
theorem J_lif_ge {a b : Int64} {off : Int} {tgt : Nat} (hd : decode y.2.1 pc = .ok (.ifCond .ge off, 3)) (ht : (pc : Int) + off = (tgt : Int)) (kt : b ≤ a → JW G y k tgt L st w r) (kf : ¬ b ≤ a → JW G y k (pc + 3) L st w r) : JW G y k pc L (.int (lg_cmp a b) :: st) w r :=
  J_if_ge hd ht (fun q => kt ((lg_cmp_ge a b).mp q)) (fun q => kf (fun q2 => q ((lg_cmp_ge a b).mpr q2)))
theorem J_lif_gt {a b : Int64} {off : Int} {tgt : Nat} (hd : decode y.2.1 pc = .ok (.ifCond .gt off, 3)) (ht : (pc : Int) + off = (tgt : Int)) (kt : b < a → JW G y k tgt L st w r) (kf : ¬ b < a → JW G y k (pc + 3) L st w r) : JW G y k pc L (.int (lg_cmp a b) :: st) w r :=
  J_if_gt hd ht (fun q => kt ((lg_cmp_gt a b).mp q)) (fun q => kf (fun q2 => q ((lg_cmp_gt a b).mpr q2)))
theorem J_lif_le {a b : Int64} {off : Int} {tgt : Nat} (hd : decode y.2.1 pc = .ok (.ifCond .le off, 3)) (ht : (pc : Int) + off = (tgt : Int)) (kt : a ≤ b → JW G y k tgt L st w r) (kf : ¬ a ≤ b → JW G y k (pc + 3) L st w r) : JW G y k pc L (.int (lg_cmp a b) :: st) w r :=
  J_if_le hd ht (fun q => kt ((lg_cmp_le a b).mp q)) (fun q => kf (fun q2 => q ((lg_cmp_le a b).mpr q2)))
theorem J_lif_ne {a b : Int64} {off : Int} {tgt : Nat} (hd : decode y.2.1 pc = .ok (.ifCond .ne off, 3)) (ht : (pc : Int) + off = (tgt : Int)) (kt : ¬ a = b → JW G y k tgt L st w r) (kf : a = b → JW G y k (pc + 3) L st w r) : JW G y k pc L (.int (lg_cmp a b) :: st) w r :=
  J_if_ne hd ht (fun q => kt (fun q2 => q ((lg_cmp_eq a b).mpr q2))) (fun q => kf ((lg_cmp_eq a b).mp (Classical.not_not.mp q)))
theorem J_tableOut {dflt lo hi : Int} {offs : Array Int} {len : Nat} {x : Int32} {tgt : Nat} (hd : decode y.2.1 pc = .ok (.tableswitch dflt lo hi offs, len)) (hx : x.toInt < lo ∨ hi < x.toInt) (ht : (pc : Int) + dflt = (tgt : Int)) (h : JW G y k tgt L st w r) : JW G y k pc L (.int x :: st) w r :=
  fun p e s m args below meth c H locs ls C hS hW hM hl => lv_tableOut C.1 C.2.1 hd hx ht (h p e s m args below meth c H locs ls C hS hW hM hl)
theorem J_tableIn {dflt lo hi : Int} {offs : Array Int} {len : Nat} {x : Int32} {off : Int} {tgt : Nat} (hd : decode y.2.1 pc = .ok (.tableswitch dflt lo hi offs, len)) (h1 : ¬ x.toInt < lo) (h2 : ¬ hi < x.toInt) (ho : offs[(x.toInt - lo).toNat]? = some off) (ht : (pc : Int) + off = (tgt : Int)) (h : JW G y k tgt L st w r) : JW G y k pc L (.int x :: st) w r :=
  fun p e s m args below meth c H locs ls C hS hW hM hl => lv_tableIn C.1 C.2.1 hd h1 h2 ho ht (h p e s m args below meth c H locs ls C hS hW hM hl)
/-- a field's place: the class's number and the field's, its words among the tables' -/
def xfl (own : String) (index ci j : Nat) : Prop := ∃ (C : String) (T : u_T) (N : Nat), xcl[ci]? = some (C, T, N) ∧ j < N ∧ Cond.fieldLink own index (T j).1 (T j).2.1 (T j).2.2.1 ∈ xTw ∧ (∀ w ∈ u_ws C T N, w ∈ xTw)
/-- a class of the picture: types of its fields -/
def xty (ci : Nat) (ty0 : Nat → FieldType) : Prop := ∀ (C : String) (T : u_T) (N : Nat), xcl[ci]? = some (C, T, N) → (∀ k, k < N → parseFieldDescriptor (T k).2.2.1 = some (ty0 k)) ∧ (∀ a, a < N → ∀ b, b < N → a ≠ b → (T a).2.1 ≠ (T b).2.1)
theorem J_get {i ci j index : Nat} {fs : List Value} {v : Value} (hd : decode y.2.1 pc = .ok (.getfield index, 3)) (hf : xfl y.1.cls index ci j) (hi : w.2[i]? = some (.inr (ci, fs))) (hv : fs[j]? = some v) (h : JW G y k (pc + 3) L (v :: st) w r) : JW G y k pc L (.ref i :: st) w r := by
  intro p e s m args below meth c H locs ls C hS hW hM hl
  obtain ⟨Cn, T, N, h1, h2, h3, h4⟩ := hf
  exact va_get (D := gD G) (cl := xcl) (tys := gT G) (ci := ci) (v := xv G v) (C := Cn) (T := T) (N := N) C.1 C.2.1 C.2.2.2.2.2.1 h4 C.2.2.2.2.1 C.2.2.2.2.2.2.2.2.1.2.2.1 hW i (xws_get hi) h1 j h2 (C.2.2.2.2.2.1 _ h3) (fun _ q => q) (by rw [List.getElem?_map, hv]; rfl) hd (h p e s m args below meth c H locs ls C hS hW hM hl)
/-- the mode behind a write -/
def xdn (n : Nat) : Nat := if n = 2 then 2 else 0
theorem xM_set {G : xG} {k : Nat × Nat} {w : xH} {s : State} {H H1 : Heap} {locs locs1 : List Loc} (h : xM G k w s H locs) (i : Nat) (c : va_E) : xM G k (xdn w.1, w.2.set i c) s H1 locs1 := by
  obtain ⟨n, hs⟩ := w
  unfold xdn
  by_cases hn : n = 2
  · subst hn
    exact ⟨fun q => (by cases q), fun _ => (by have := h.2 rfl; simpa using this)⟩
  · simp only [hn, if_false]
    exact ⟨fun q => (by cases q), fun q => (by cases q)⟩
theorem J_put {i ci j index : Nat} {fs : List Value} {v : Value} {ty0 : Nat → FieldType} (hd : decode y.2.1 pc = .ok (.putfield index, 3)) (hf : xfl y.1.cls index ci j) (ht : xty ci ty0) (hfin : ∀ (C : String) (T : u_T) (N : Nat), xcl[ci]? = some (C, T, N) → (T j).2.2.2 = false) (hn : narrow (ty0 j) (xv G v) = xv G v) (hfit : fits (ty0 j) (xv G v) = true) (hi : w.2[i]? = some (.inr (ci, fs))) (hjl : j < fs.length) (h : JW G y k (pc + 3) L st (xdn w.1, w.2.set i (.inr (ci, fs.set j v))) r) : JW G y k pc L (v :: .ref i :: st) w r := by
  intro p e s m args below meth c H locs ls C hS hW hM hl
  obtain ⟨Cn, T, N, h1, h2, h3, h4⟩ := hf
  obtain ⟨t1, t2⟩ := ht Cn T N h1
  refine va_put (D := gD G) (cl := xcl) (tys := gT G) (ci := ci) (v := xv G v) (ty := ty0 j) (C := Cn) (T := T) (N := N) C.1 C.2.1 C.2.2.2.2.2.1 h4 ty0 t1 t2 C.2.2.2.2.1 C.2.2.2.2.2.2.2.2.1.2.2.1 hW (xD G w.2) hS i (xws_get hi) h1 j h2 (C.2.2.2.2.2.1 _ h3) (fun _ q => q) (hfin Cn T N h1) (t1 j h2) hn hfit (by simpa using hjl) hd (fun H1 locs1 hP1 _ hS1 => ?_)
  refine h p e s m args below meth c H1 locs1 ls C hS1 ?_ (xM_set hM i _) hl
  show va_P (gD G) xcl (xws G (w.2.set i (.inr (ci, fs.set j v)))) H1
  rw [xws_set]
  have : xe G (.inr (ci, fs.set j v)) = .inr (ci, (fs.map (xv G)).set j (xv G v)) := by show Sum.inr (ci, (fs.set j v).map (xv G)) = _; rw [List.map_set]
  rw [this]
  exact hP1
theorem J_putF {i ci j index : Nat} {fs : List Value} {v : Value} {ty0 : Nat → FieldType} (hd : decode y.2.1 pc = .ok (.putfield index, 3)) (hf : xfl y.1.cls index ci j) (ht : xty ci ty0) (hfin : ∀ (C : String) (T : u_T) (N : Nat), xcl[ci]? = some (C, T, N) → (T j).2.2.2 = true ∧ (T j).1 = y.1.cls) (hinit : y.1.name = "<init>") (hn : narrow (ty0 j) (xv G v) = xv G v) (hfit : fits (ty0 j) (xv G v) = true) (hi : w.2[i]? = some (.inr (ci, fs))) (hjl : j < fs.length) (h : JW G y k (pc + 3) L st (xdn w.1, w.2.set i (.inr (ci, fs.set j v))) r) : JW G y k pc L (v :: .ref i :: st) w r := by
  intro p e s m args below meth c H locs ls C hS hW hM hl
  obtain ⟨Cn, T, N, h1, h2, h3, h4⟩ := hf
  obtain ⟨t1, t2⟩ := ht Cn T N h1
  refine va_putF (D := gD G) (cl := xcl) (tys := gT G) (ci := ci) (v := xv G v) (ty := ty0 j) (C := Cn) (T := T) (N := N) C.1 C.2.1 C.2.2.2.2.2.1 h4 ty0 t1 t2 C.2.2.2.2.1 C.2.2.2.2.2.2.2.2.1.2.2.1 hW (xD G w.2) hS i (xws_get hi) h1 j h2 (C.2.2.2.2.2.1 _ h3) (fun _ q => q) (hfin Cn T N h1).1 (C.2.2.2.2.2.2.2.2.2.trans hinit) (hfin Cn T N h1).2 (t1 j h2) hn hfit (by simpa using hjl) hd (fun H1 locs1 hP1 _ hS1 => ?_)
  refine h p e s m args below meth c H1 locs1 ls C hS1 ?_ (xM_set hM i _) hl
  show va_P (gD G) xcl (xws G (w.2.set i (.inr (ci, fs.set j v)))) H1
  rw [xws_set]
  have : xe G (.inr (ci, fs.set j v)) = .inr (ci, (fs.map (xv G)).set j (xv G v)) := by show Sum.inr (ci, (fs.set j v).map (xv G)) = _; rw [List.map_set]
  rw [this]
  exact hP1
theorem J_iald {i n t : Nat} {f : Nat → Int32} {x : Int32} (hd : decode y.2.1 pc = .ok (.iaload, 1)) (ht : ∃ cA, (gT G)[t]? = some (cA, .int)) (hi : w.2[i]? = some (.inl (t, n, .inl f))) (hx : vp_in x n) (h : JW G y k (pc + 1) L (.int (f x.toNatClampNeg) :: st) w r) : JW G y k pc L (.int x :: .ref i :: st) w r := by
  intro p e s m args below meth c H locs ls C hS hW hM hl
  obtain ⟨cA, ht⟩ := ht
  have e0 : ((gT G).getD t (0, .int)).1 = cA := by rw [List.getD_eq_getElem?_getD, ht]; rfl
  have he : (xws G w.2)[i]? = some (gb G + i, .inl (cA, n, .inl f)) := by rw [xws_get hi, ← e0]; rfl
  exact va_iald (D := gD G) (cl := xcl) (tys := gT G) C.1 C.2.1 C.2.2.2.2.2.2.2.2.1.2.2.1 hW i t he ht hx hd (h p e s m args below meth c H locs ls C hS hW hM hl)
theorem J_zald {i n t : Nat} {f : Nat → Int32} {x : Int32} (hd : decode y.2.1 pc = .ok (.baload, 1)) (ht : ∃ cA, (gT G)[t]? = some (cA, .boolean)) (hi : w.2[i]? = some (.inl (t, n, .inl f))) (hx : vp_in x n) (h : JW G y k (pc + 1) L (.int (f x.toNatClampNeg) :: st) w r) : JW G y k pc L (.int x :: .ref i :: st) w r := by
  intro p e s m args below meth c H locs ls C hS hW hM hl
  obtain ⟨cA, ht⟩ := ht
  have e0 : ((gT G).getD t (0, .int)).1 = cA := by rw [List.getD_eq_getElem?_getD, ht]; rfl
  have he : (xws G w.2)[i]? = some (gb G + i, .inl (cA, n, .inl f)) := by rw [xws_get hi, ← e0]; rfl
  exact va_zald (D := gD G) (cl := xcl) (tys := gT G) C.1 C.2.1 C.2.2.2.2.2.2.2.2.1.2.2.1 hW i t he ht hx hd (h p e s m args below meth c H locs ls C hS hW hM hl)
theorem J_lald {i n t : Nat} {f : Nat → Int64} {x : Int32} (hd : decode y.2.1 pc = .ok (.laload, 1)) (ht : ∃ cA, (gT G)[t]? = some (cA, .long)) (hi : w.2[i]? = some (.inl (t, n, .inr (.inl f)))) (hx : vp_in x n) (h : JW G y k (pc + 1) L (.long (f x.toNatClampNeg) :: st) w r) : JW G y k pc L (.int x :: .ref i :: st) w r := by
  intro p e s m args below meth c H locs ls C hS hW hM hl
  obtain ⟨cA, ht⟩ := ht
  have e0 : ((gT G).getD t (0, .int)).1 = cA := by rw [List.getD_eq_getElem?_getD, ht]; rfl
  have he : (xws G w.2)[i]? = some (gb G + i, .inl (cA, n, .inr (.inl f))) := by rw [xws_get hi, ← e0]; rfl
  exact va_lald (D := gD G) (cl := xcl) (tys := gT G) C.1 C.2.1 C.2.2.2.2.2.2.2.2.1.2.2.1 hW i t he ht hx hd (h p e s m args below meth c H locs ls C hS hW hM hl)
theorem J_aald {i n t i2 : Nat} {f : Nat → Option Nat} {x : Int32} (hd : decode y.2.1 pc = .ok (.aaload, 1)) (ht : ∃ cA C, (gT G)[t]? = some (cA, .object C)) (hi : w.2[i]? = some (.inl (t, n, .inr (.inr (.inr (.inr f)))))) (hx : vp_in x n) (hf : f x.toNatClampNeg = some i2) (h : JW G y k (pc + 1) L (.ref i2 :: st) w r) : JW G y k pc L (.int x :: .ref i :: st) w r := by
  intro p e s m args below meth c H locs ls C hS hW hM hl
  obtain ⟨cA, Cn, ht⟩ := ht
  have e0 : ((gT G).getD t (0, .int)).1 = cA := by rw [List.getD_eq_getElem?_getD, ht]; rfl
  have he : (xws G w.2)[i]? = some (gb G + i, .inl (cA, n, .inr (.inr (.inr (.inr (fun j => (f j).map (fun i => gb G + i))))))) := by rw [xws_get hi, ← e0]; rfl
  refine va_aldq (D := gD G) (cl := xcl) (tys := gT G) C.1 C.2.1 C.2.2.2.2.2.2.2.2.1.2.2.1 hW i t he ht hx hd ?_
  show W p (gl G) e y.2.2.2.2.1 s m args below meth c H locs k.1 k.2 (xZ G r below s) (F0 m (pc + 1) ls (va_rf ((f x.toNatClampNeg).map (fun i => gb G + i)) :: st.map (xv G)))
  rw [hf]
  exact h p e s m args below meth c H locs ls C hS hW hM hl
theorem J_iast {i n t : Nat} {f : Nat → Int32} {x : Int32} {v : Int32} (hd : decode y.2.1 pc = .ok (.iastore, 1)) (ht : ∃ cA, (gT G)[t]? = some (cA, .int)) (hi : w.2[i]? = some (.inl (t, n, .inl f))) (hx : vp_in x n) (h : JW G y k (pc + 1) L st (xdn w.1, w.2.set i (.inl (t, n, .inl (upd f x.toNatClampNeg v)))) r) : JW G y k pc L (.int v :: .int x :: .ref i :: st) w r := by
  intro p e s m args below meth c H locs ls C hS hW hM hl
  obtain ⟨cA, ht⟩ := ht
  have e0 : ((gT G).getD t (0, .int)).1 = cA := by rw [List.getD_eq_getElem?_getD, ht]; rfl
  have he : (xws G w.2)[i]? = some (gb G + i, .inl (cA, n, .inl f)) := by rw [xws_get hi, ← e0]; rfl
  refine va_iast (D := gD G) (cl := xcl) (tys := gT G) C.1 C.2.1 C.2.2.2.2.2.2.2.2.1.2.2.1 hW (xD G w.2) hS i t he ht hx hd (fun H1 locs1 hP1 _ hS1 => ?_)
  refine h p e s m args below meth c H1 locs1 ls C hS1 ?_ (xM_set hM i _) hl
  show va_P (gD G) xcl (xws G (w.2.set i (.inl (t, n, .inl (upd f x.toNatClampNeg v))))) H1
  rw [xws_set]
  have : xe G (.inl (t, n, .inl (upd f x.toNatClampNeg v))) = .inl (cA, n, .inl (upd f x.toNatClampNeg v)) := by rw [← e0]; rfl
  rw [this]
  exact hP1
theorem J_zast {i n t : Nat} {f : Nat → Int32} {x : Int32} {v : Int32} (hd : decode y.2.1 pc = .ok (.bastore, 1)) (ht : ∃ cA, (gT G)[t]? = some (cA, .boolean)) (hi : w.2[i]? = some (.inl (t, n, .inl f))) (hx : vp_in x n) (h : JW G y k (pc + 1) L st (xdn w.1, w.2.set i (.inl (t, n, .inl (upd f x.toNatClampNeg (vp_nar .boolean v))))) r) : JW G y k pc L (.int v :: .int x :: .ref i :: st) w r := by
  intro p e s m args below meth c H locs ls C hS hW hM hl
  obtain ⟨cA, ht⟩ := ht
  have e0 : ((gT G).getD t (0, .int)).1 = cA := by rw [List.getD_eq_getElem?_getD, ht]; rfl
  have he : (xws G w.2)[i]? = some (gb G + i, .inl (cA, n, .inl f)) := by rw [xws_get hi, ← e0]; rfl
  refine va_zast (D := gD G) (cl := xcl) (tys := gT G) C.1 C.2.1 C.2.2.2.2.2.2.2.2.1.2.2.1 hW (xD G w.2) hS i t he ht hx hd (fun H1 locs1 hP1 _ hS1 => ?_)
  refine h p e s m args below meth c H1 locs1 ls C hS1 ?_ (xM_set hM i _) hl
  show va_P (gD G) xcl (xws G (w.2.set i (.inl (t, n, .inl (upd f x.toNatClampNeg (vp_nar .boolean v)))))) H1
  rw [xws_set]
  have : xe G (.inl (t, n, .inl (upd f x.toNatClampNeg (vp_nar .boolean v)))) = .inl (cA, n, .inl (upd f x.toNatClampNeg (vp_nar .boolean v))) := by rw [← e0]; rfl
  rw [this]
  exact hP1
theorem J_last {i n t : Nat} {f : Nat → Int64} {x : Int32} {v : Int64} (hd : decode y.2.1 pc = .ok (.lastore, 1)) (ht : ∃ cA, (gT G)[t]? = some (cA, .long)) (hi : w.2[i]? = some (.inl (t, n, .inr (.inl f)))) (hx : vp_in x n) (h : JW G y k (pc + 1) L st (xdn w.1, w.2.set i (.inl (t, n, .inr (.inl (vp_updL f x.toNatClampNeg v))))) r) : JW G y k pc L (.long v :: .int x :: .ref i :: st) w r := by
  intro p e s m args below meth c H locs ls C hS hW hM hl
  obtain ⟨cA, ht⟩ := ht
  have e0 : ((gT G).getD t (0, .int)).1 = cA := by rw [List.getD_eq_getElem?_getD, ht]; rfl
  have he : (xws G w.2)[i]? = some (gb G + i, .inl (cA, n, .inr (.inl f))) := by rw [xws_get hi, ← e0]; rfl
  refine va_last (D := gD G) (cl := xcl) (tys := gT G) C.1 C.2.1 C.2.2.2.2.2.2.2.2.1.2.2.1 hW (xD G w.2) hS i t he ht hx hd (fun H1 locs1 hP1 _ hS1 => ?_)
  refine h p e s m args below meth c H1 locs1 ls C hS1 ?_ (xM_set hM i _) hl
  show va_P (gD G) xcl (xws G (w.2.set i (.inl (t, n, .inr (.inl (vp_updL f x.toNatClampNeg v)))))) H1
  rw [xws_set]
  have : xe G (.inl (t, n, .inr (.inl (vp_updL f x.toNatClampNeg v)))) = .inl (cA, n, .inr (.inl (vp_updL f x.toNatClampNeg v))) := by rw [← e0]; rfl
  rw [this]
  exact hP1
theorem J_aast {i n t i2 ci : Nat} {vs : List Value} {f : Nat → Option Nat} {x : Int32} {rr : vw_C} (hd : decode y.2.1 pc = .ok (.aastore, 1)) (hc : xcl[ci]? = some rr) (ht : ∃ cA, (gT G)[t]? = some (cA, .object rr.1)) (hi : w.2[i]? = some (.inl (t, n, .inr (.inr (.inr (.inr f)))))) (hi2 : w.2[i2]? = some (.inr (ci, vs))) (hx : vp_in x n) (h : JW G y k (pc + 1) L st (xdn w.1, w.2.set i (.inl (t, n, .inr (.inr (.inr (.inr (va_up f x.toNatClampNeg (some i2)))))))) r) : JW G y k pc L (.ref i2 :: .int x :: .ref i :: st) w r := by
  intro p e s m args below meth c H locs ls C hS hW hM hl
  obtain ⟨cA, ht⟩ := ht
  have e0 : ((gT G).getD t (0, .int)).1 = cA := by rw [List.getD_eq_getElem?_getD, ht]; rfl
  have he : (xws G w.2)[i]? = some (gb G + i, .inl (cA, n, .inr (.inr (.inr (.inr (fun j => (f j).map (fun i => gb G + i))))))) := by rw [xws_get hi, ← e0]; rfl
  refine va_astq (D := gD G) (cl := xcl) (tys := gT G) C.1 C.2.1 C.2.2.2.2.2.2.2.2.1.2.2.1 hW (xD G w.2) hS i t i2 ci he ht (xws_get hi2) hc hx hd (fun H1 locs1 hP1 _ hS1 => ?_)
  refine h p e s m args below meth c H1 locs1 ls C hS1 ?_ (xM_set hM i _) hl
  show va_P (gD G) xcl (xws G (w.2.set i (.inl (t, n, .inr (.inr (.inr (.inr (va_up f x.toNatClampNeg (some i2))))))))) H1
  rw [xws_set]
  have : xe G (.inl (t, n, .inr (.inr (.inr (.inr (va_up f x.toNatClampNeg (some i2))))))) = .inl (cA, n, .inr (.inr (.inr (.inr (va_up (fun j => (f j).map (fun i => gb G + i)) x.toNatClampNeg (some (gb G + i2))))))) := by
    rw [← e0]
    show Sum.inl (_, n, Sum.inr (Sum.inr (Sum.inr (Sum.inr _)))) = _
    congr 7
    funext j
    unfold va_up
    by_cases hj : j = x.toNatClampNeg <;> simp [hj]
  rw [this]
  exact hP1
theorem J_sald {x : Int32} {u : UInt32} (hd : decode y.2.1 pc = .ok (.iaload, 1)) (hx : vp_in x (gN G)) (h : JW G y k (pc + 1) L (.int (gx G x.toNatClampNeg) :: st) w r) : JW G y k pc L (.int x :: .float u :: st) w r := by
  intro p e s m args below meth c H locs ls C hS hW hM hl
  have K := C.2.2.2.2.2.2.2.2.1
  exact va_sld C.1 C.2.1 K.2.2.2.2.2.2.1 (Nat.lt_of_lt_of_le K.2.2.2.2.2.2.2.1 K.2.1) (Nat.not_le.mpr K.2.2.2.2.2.2.2.1) hS hx hd (h p e s m args below meth c H locs ls C hS hW hM hl)
theorem J_slen {u : UInt32} (hd : decode y.2.1 pc = .ok (.arraylength, 1)) (h : JW G y k (pc + 1) L (.int (Int32.ofNat (gN G)) :: st) w r) : JW G y k pc L (.float u :: st) w r := by
  intro p e s m args below meth c H locs ls C hS hW hM hl
  have K := C.2.2.2.2.2.2.2.2.1
  exact va_slen C.1 C.2.1 K.2.2.2.2.2.2.1 (Nat.lt_of_lt_of_le K.2.2.2.2.2.2.2.1 K.2.1) (Nat.not_le.mpr K.2.2.2.2.2.2.2.1) hS hd (h p e s m args below meth c H locs ls C hS hW hM hl)
end XJ
end
section
section XE
variable {G : xG} {y : xY} {k : Nat × Nat} {pc : Nat} {L : List (Nat × Value)} {st : List Value} {w : xH} {r : xR}
/-- a return, from what the kit's own rows leave -/
theorem xZ_ret {G : xG} {r : xR} {k : Nat × Nat} {w : xH} {below : List Frame} {s : State} {args : Array Value} {H : Heap} {locs : List Loc} {o0 : Option Value} (hr : r = (.inl o0, w, k)) (hS : va_S (xA G) s.heap H locs) (hW : xW G w.2 H) (hM : xM G k w s H locs) (t : State)
    (h : ∃ o, t.status = .running ∧ Ended t below o ∧ (o = .returned (o0.map (xv G)) ∧ t.heap = H ∧ s.WarmedH t.vm) ∧ s.sameButNew ({ t with vm := s.vm } : State) locs k.1 k.2) : xZ G r below s t := by
  obtain ⟨o, h1, h2, ⟨h3, h4, h5⟩, h6⟩ := h
  subst hr
  exact ⟨o, h1, h2, h3, by show xW G w.2 t.heap; rw [h4]; exact hW, hS.F h4, locs, h5, h6, hS.2.2, fun q => ⟨h4.trans (hM.1 q).1, (hM.1 q).2⟩⟩
/-- a method leaves with a value: the kit's 'leave', with the places that were written -/
theorem x_iret {p : Program} {l : Launch} {e : Env} {R : Room} {s : State} {m : MethodId} {args : Array Value} {below : List Frame} {meth : Method} {c : Code} {H : Heap} {locs : List Loc} {a b : Nat} {cc : ByteArray} {v : Int32} {ty : FieldType} (hexec : p.tables.exec = Jvm.exec) (hb : c.code = cc) (hr : meth.sig.returnType = some ty) (hn : narrow ty (.int v) = .int v) (hty : ty = .int ∨ ty = .boolean)
    {pc : Nat} {ls : Array Slot} (hdg : decode cc pc = .ok (.ireturn, 1)) (hlocks : meth.locks = false) : W p l e R s m args below meth c H locs a b (fun t => ∃ o, t.status = .running ∧ Ended t below o ∧ (o = .returned (some (.int v)) ∧ t.heap = H ∧ s.WarmedH t.vm) ∧ s.sameButNew ({ t with vm := s.vm } : State) locs a b) (F0 m pc ls [.int v]) := by
  intro T hT X
  obtain ⟨fs, hret, hrun, hended, hW, hframe⟩ := X.leave (v := some (.int v)) (hlocks := hlocks) (fun h => by rw [hr] at h; cases h)
  have hmeth' : T.vm.method? m = some meth := X.method'
  refine ⟨T.setFrames fs, ?_, .returned (some (.int v)), hrun, hended, ⟨rfl, hT, hW⟩, hframe⟩
  jvm_step X.here [X.here.top, hexec, hb, hdg, hmeth', hr, hn]
  (try refine ⟨rfl, ?_⟩); (try refine ⟨rfl, ?_⟩)
  first | (intro acts; rw [hret _ acts rfl rfl rfl]) | rw [hret _ _ rfl rfl rfl]
  exact Steps.refl _
theorem x_lret {p : Program} {l : Launch} {e : Env} {R : Room} {s : State} {m : MethodId} {args : Array Value} {below : List Frame} {meth : Method} {c : Code} {H : Heap} {locs : List Loc} {a b : Nat} {cc : ByteArray} {v : Int64} (hexec : p.tables.exec = Jvm.exec) (hb : c.code = cc) (hr : meth.sig.returnType = some .long)
    {pc : Nat} {ls : Array Slot} (hdg : decode cc pc = .ok (.lreturn, 1)) (hlocks : meth.locks = false) : W p l e R s m args below meth c H locs a b (fun t => ∃ o, t.status = .running ∧ Ended t below o ∧ (o = .returned (some (.long v)) ∧ t.heap = H ∧ s.WarmedH t.vm) ∧ s.sameButNew ({ t with vm := s.vm } : State) locs a b) (F0 m pc ls [.long v]) := by
  intro T hT X
  obtain ⟨fs, hret, hrun, hended, hW, hframe⟩ := X.leave (v := some (.long v)) (hlocks := hlocks) (fun h => by rw [hr] at h; cases h)
  have hmeth' : T.vm.method? m = some meth := X.method'
  refine ⟨T.setFrames fs, ?_, .returned (some (.long v)), hrun, hended, ⟨rfl, hT, hW⟩, hframe⟩
  jvm_step X.here [X.here.top, hexec, hb, hdg, hmeth', hr, narrow]
  (try refine ⟨rfl, ?_⟩); (try refine ⟨rfl, ?_⟩)
  first | (intro acts; rw [hret _ acts rfl rfl rfl]) | rw [hret _ _ rfl rfl rfl]
  exact Steps.refl _
theorem x_aret {p : Program} {l : Launch} {e : Env} {R : Room} {s : State} {m : MethodId} {args : Array Value} {below : List Frame} {meth : Method} {c : Code} {H : Heap} {locs : List Loc} {a b : Nat} {cc : ByteArray} {v : Nat} {n : String} (hexec : p.tables.exec = Jvm.exec) (hb : c.code = cc) (hr : meth.sig.returnType = some (.object n))
    {pc : Nat} {ls : Array Slot} (hdg : decode cc pc = .ok (.areturn, 1)) (hlocks : meth.locks = false) : W p l e R s m args below meth c H locs a b (fun t => ∃ o, t.status = .running ∧ Ended t below o ∧ (o = .returned (some (.ref v)) ∧ t.heap = H ∧ s.WarmedH t.vm) ∧ s.sameButNew ({ t with vm := s.vm } : State) locs a b) (F0 m pc ls [.ref v]) := by
  intro T hT X
  obtain ⟨fs, hret, hrun, hended, hW, hframe⟩ := X.leave (v := some (.ref v)) (hlocks := hlocks) (fun h => by rw [hr] at h; cases h)
  have hmeth' : T.vm.method? m = some meth := X.method'
  refine ⟨T.setFrames fs, ?_, .returned (some (.ref v)), hrun, hended, ⟨rfl, hT, hW⟩, hframe⟩
  jvm_step X.here [X.here.top, hexec, hb, hdg, hmeth', hr]
  (try refine ⟨rfl, ?_⟩); (try refine ⟨rfl, ?_⟩)
  first | (intro acts; rw [hret _ acts rfl rfl rfl]) | rw [hret _ _ rfl rfl rfl]
  exact Steps.refl _
theorem x_vret {p : Program} {l : Launch} {e : Env} {R : Room} {s : State} {m : MethodId} {args : Array Value} {below : List Frame} {meth : Method} {c : Code} {H : Heap} {locs : List Loc} {a b : Nat} {cc : ByteArray} (hexec : p.tables.exec = Jvm.exec) (hb : c.code = cc) (hr : meth.sig.returnType = none)
    {pc : Nat} {ls : Array Slot} (hdg : decode cc pc = .ok (.return_, 1)) (hlocks : meth.locks = false) : W p l e R s m args below meth c H locs a b (fun t => ∃ o, t.status = .running ∧ Ended t below o ∧ (o = .returned none ∧ t.heap = H ∧ s.WarmedH t.vm) ∧ s.sameButNew ({ t with vm := s.vm } : State) locs a b) (F0 m pc ls []) := by
  intro T hT X
  obtain ⟨fs, hret, hrun, hended, hW, hframe⟩ := X.leave (v := none) (hlocks := hlocks) (fun _ => rfl)
  have hmeth' : T.vm.method? m = some meth := X.method'
  refine ⟨T.setFrames fs, ?_, .returned none, hrun, hended, ⟨rfl, hT, hW⟩, hframe⟩
  jvm_step X.here [X.here.top, hexec, hb, hdg, hmeth', hr]
  (try refine ⟨rfl, ?_⟩); (try refine ⟨rfl, ?_⟩)
  first | (intro acts; rw [hret _ acts rfl rfl rfl]) | rw [hret _ _ rfl rfl rfl]
  exact Steps.refl _
theorem J_ireturn {v : Int32} (hd : decode y.2.1 pc = .ok (.ireturn, 1)) (hy : y.2.2.2.1 = some .int) (hr : r = (.inl (some (.int v)), w, k)) : JW G y k pc L [.int v] w r :=
  fun p e s m args below meth c H locs ls C hS hW hM hl => x_mono (xZ_ret (args := args) hr hS hW hM) (x_iret (ty := .int) C.1 C.2.1 (C.2.2.1.trans hy) rfl (Or.inl rfl) hd C.2.2.2.2.2.2.1)
theorem J_zreturn {v : Int32} (hd : decode y.2.1 pc = .ok (.ireturn, 1)) (hy : y.2.2.2.1 = some .boolean) (hv : narrow .boolean (.int v) = .int v) (hr : r = (.inl (some (.int v)), w, k)) : JW G y k pc L [.int v] w r :=
  fun p e s m args below meth c H locs ls C hS hW hM hl => x_mono (xZ_ret (args := args) hr hS hW hM) (x_iret (ty := .boolean) C.1 C.2.1 (C.2.2.1.trans hy) hv (Or.inr rfl) hd C.2.2.2.2.2.2.1)
theorem J_lreturn {v : Int64} (hd : decode y.2.1 pc = .ok (.lreturn, 1)) (hy : y.2.2.2.1 = some .long) (hr : r = (.inl (some (.long v)), w, k)) : JW G y k pc L [.long v] w r :=
  fun p e s m args below meth c H locs ls C hS hW hM hl => x_mono (xZ_ret (args := args) hr hS hW hM) (x_lret C.1 C.2.1 (C.2.2.1.trans hy) hd C.2.2.2.2.2.2.1)
theorem J_areturn {i : Nat} {n : String} (hd : decode y.2.1 pc = .ok (.areturn, 1)) (hy : y.2.2.2.1 = some (.object n)) (hr : r = (.inl (some (.ref i)), w, k)) : JW G y k pc L [.ref i] w r :=
  fun p e s m args below meth c H locs ls C hS hW hM hl => x_mono (xZ_ret (args := args) hr hS hW hM) (x_aret C.1 C.2.1 (C.2.2.1.trans hy) hd C.2.2.2.2.2.2.1)
theorem J_return (hd : decode y.2.1 pc = .ok (.return_, 1)) (hy : y.2.2.2.1 = none) (hr : r = (.inl none, w, k)) : JW G y k pc L [] w r :=
  fun p e s m args below meth c H locs ls C hS hW hM hl => x_mono (xZ_ret (args := args) hr hS hW hM) (x_vret C.1 C.2.1 (C.2.2.1.trans hy) hd C.2.2.2.2.2.2.1)
/-- the two words of the statics, out of the world -/
theorem xZq_isRef {C n d : String} {A : Nat → Prop} {U : State} {args : Array Value} (h : va_Zq C n d A U U.heap) : (Cond.isRef (.static C n d)).before args U = true := by
  rcases h with h | ⟨t, h⟩
  · obtain ⟨cf, kf, fi, f, a, cell, h1, h2, h3, h4, h5, h6, h7, h8⟩ := h
    simp [Cond.before, Cond.holds, Cond.value, Term.eval, State.fieldNamed?, h1, h2, h4, h5, h6, h7, Value.isRef]
  · obtain ⟨cf, kf, fi, f, a, cell, h1, h2, h3, h4, h5, h6, h7, h8⟩ := h
    simp [Cond.before, Cond.holds, Cond.value, Term.eval, State.fieldNamed?, h1, h2, h4, h5, h6, h7, Value.isRef]
/-- 'new E; dup; ldc; invokespecial; athrow', nothing written before: the words of the throw -/
def xth (own : String) (ik ic : Nat) (E : String) (names : List String) : Prop :=
  (∀ a ∈ Bundle.ownAtoms own ic E names, a ∈ xTw ∨ a = .isRef (.static "java/lang/Throwable" "UNASSIGNED_STACK" "[Ljava/lang/StackTraceElement;") ∨ a = .isRef (.static "java/lang/Throwable" "SUPPRESSED_SENTINEL" "Ljava/util/List;") ∨ a = .laysStatic "java/lang/Throwable" "UNASSIGNED_STACK" "[Ljava/lang/StackTraceElement;" ∨ a = .laysStatic "java/lang/Throwable" "SUPPRESSED_SENTINEL" "Ljava/util/List;" ∨ (∃ q ∈ xTk, a = .castable q.1 q.2) ∨ (∃ q ∈ xTd, a = .declares q)) ∧ Cond.classLink own ik E ∈ xTw ∧ Cond.instantiable E 6 ∈ xTw ∧ Cond.initialized E ∈ xTw ∧ Bundle.fit E = true ∧ (∀ n ∈ names, Bundle.fit n = true) ∧ names.length ≤ 3
/-- the room that a throw needs -/
def xthR (R : Room) : Prop := 7 ≤ R.frames ∧ 110 ≤ R.locals ∧ 1 ≤ R.cells ∧ 6 ≤ R.slots
theorem x_throw {own : String} {ik ic : Nat} {E : String} {names : List String} {p : Program} {e : Env} {s : State} {m : MethodId} {args : Array Value} {below : List Frame} {meth : Method} {c : Code} {ls : Array Slot} {pc pc6 : Nat} {q0 : Nat}
    (hown : own = y.1.cls) (hth : xth own ik ic E names) (hR : xthR y.2.2.2.2.1) (hhh : y.2.2.2.2.2 = []) (hr : r = (.inr E, (0, w.2), (1, 6))) (C : xC G y p s m args meth c) (hW : xW G w.2 s.heap) (hl : lv_has ls y.2.2.1 (xmp G L))
    (hd0 : decode y.2.1 pc = .ok (.new ik, 3)) (hd3 : decode y.2.1 (pc + 3) = .ok (.dup, 1)) (hd6 : decode y.2.1 pc6 = .ok (.invokespecial ic, 3)) (hd9 : decode y.2.1 (pc6 + 3) = .ok (.athrow, 1))
    (hldc : ∀ {H : Heap} {cells slots : Nat} {Q : State → Prop} {rest : List Value}, W p (gl G) e y.2.2.2.2.1 s m args below meth c H [] cells slots Q (F0 m pc6 ls (.ref q0 :: rest)) → W p (gl G) e y.2.2.2.2.1 s m args below meth c H [] cells slots Q (F0 m (pc + 4) ls rest)) :
    W p (gl G) e y.2.2.2.2.1 s m args below meth c s.heap [] 0 0 (xZ G r below s) (F0 m pc ls []) := by
  subst hown
  obtain ⟨ha, hck, hin, hini, hfE, hfn, hnl⟩ := hth
  obtain ⟨hx, hb, -, hml, hown, hts, hlocks, htab, hK, -⟩ := C
  obtain ⟨cE, kE, hfc, hkE, -, -, -, hn6⟩ := Cond.instantiable_spec (hts _ hin)
  refine W.newcK hx hb hown (hts _ hck) (hts _ hin) (hts _ hini) rfl hd0 (by have := hR.2.2.1; omega) (by have := hR.2.2.2; omega) hfc rfl fun H1 kC hkC e1 z1 o1 => ?_
  refine lv_dup hx hb hd3 rfl ?_
  refine hldc ?_
  intro T hT X
  have hatoms : ∀ a ∈ Bundle.ownAtoms y.1.cls ic E names, a.before args s = true := fun a h => by
    obtain ⟨k1, k2, k3, k4, k5, k6⟩ := hK.2.2.2.2.2.2.2.2.2
    rcases ha a h with h | h | h | h | h | ⟨q, hq, h⟩ | ⟨q, hq, h⟩
    · exact hts a h
    · rw [h]; exact xZq_isRef hK.2.2.2.1
    · rw [h]; exact xZq_isRef hK.2.2.2.2.1
    · rw [h]; exact k4
    · rw [h]; exact k5
    · rw [h]; exact k2 q hq
    · rw [h]; exact k3 q hq
  have hempty : c.exceptionTable.toList = [] := by
    have : c.exceptionTable.toList.map (fun h => (h.startPc, h.endPc, h.handlerPc, h.catchType)) = [] := htab.trans hhh
    exact List.map_eq_nil_iff.mp this
  obtain ⟨U, hst, hrun, hend, hWU, hsame, ce, hce, hoc⟩ := X.ctorThrowS hx (by rw [X.admits.platform]; exact hK.1) hown hfE hfn hatoms (fun q hq => by cases hq) hfc hkC (by rw [hT]; exact e1) (Nat.le_refl _) (msg := .ref q0) rfl
    (g := F0 m pc6 ls [.ref q0, .ref s.heap.size, .ref s.heap.size]) rfl (by rw [hml]; exact hl.1) rfl rfl (rest := []) rfl (by rw [hb]; exact hd6) (by rw [hb]; exact hd9) (by rw [hempty]; intro q hq; cases hq) (by have := hR.1; omega)
    (by have := hR.2.1; show 2 * 0 + 1 + (13 * (names.length + 1) + 42) ≤ _; omega) hlocks
  refine ⟨U, hst, .threw s.heap.size, hrun, hend, ?_⟩
  subst hr
  have hold : ∀ q : Nat, q < s.heap.size → U.heap[q]? = s.heap[q]? := fun q hq => by
    obtain ⟨c', h1, h2, h3, h4⟩ := hsame.2.2.2.2.2 q s.heap[q] (Array.getElem?_eq_getElem hq)
    have h1' : U.heap[q]? = some c' := h1
    rw [h1', Array.getElem?_eq_getElem hq]
    congr 1
    have h5 : c'.slots = s.heap[q].slots := Array.ext_getElem? (fun i => h4 i (fun z => by cases z))
    rw [h2, h5]
  refine ⟨⟨s.heap.size, ce, rfl, hce, hoc.vm, hoc.cls⟩, ?_, ⟨hsame.2.1, fun q h1 _ => hold q h1⟩, [], hWU, hsame, fun q hq => (by cases hq), fun q => (by cases q)⟩
  exact va_P.kept hW (fun k q hk => hold q.1 (hW k q hk).lt)
theorem J_throw {ik is ic : Nat} {E tx : String} {names : List String} (hth : xth y.1.cls ik ic E names) (hs : (y.1.cls, is, tx) ∈ xTs) (hR : xthR y.2.2.2.2.1) (hhh : y.2.2.2.2.2 = [])
    (hd0 : decode y.2.1 pc = .ok (.new ik, 3)) (hd3 : decode y.2.1 (pc + 3) = .ok (.dup, 1)) (hd4 : decode y.2.1 (pc + 4) = .ok (.ldc is, 2)) (hd6 : decode y.2.1 (pc + 6) = .ok (.invokespecial ic, 3)) (hd9 : decode y.2.1 (pc + 9) = .ok (.athrow, 1)) (hw : w.1 = 1) (hk : k = (0, 0)) (hr : r = (.inr E, (0, w.2), (1, 6))) : JW G y k pc L [] w r := by
  intro p e s m args below meth c H locs ls C hS hW hM hl
  obtain ⟨rfl, rfl⟩ := hM.1 hw
  subst hk
  have hsr : (Cond.stringRef y.1.cls is tx).before args s = true := C.2.2.2.2.2.2.2.2.1.2.2.2.2.2.2.2.2.2.1 _ hs
  obtain ⟨-, -, -, q0, -, -, -, -, -, hev⟩ := Cond.stringRef_spec C.2.2.2.2.1 hsr
  exact x_throw rfl hth hR hhh hr C hW hl hd0 hd3 hd6 hd9 (q0 := q0) (fun {H cells slots Q rest} kk T hT X => by
    obtain ⟨t, a1, b1⟩ := kk T hT X
    exact ⟨t, X.ldcString C.1 C.2.2.2.2.1 (text := tx) (a := q0) hsr hev (g := F0 m (pc + 4) ls rest) rfl (by rw [C.2.1]; exact hd4) t a1, b1⟩)
theorem x_ldcWString {p : Program} {l : Launch} {e : Env} {R : Room} {s : State} {m : MethodId} {args : Array Value} {below : List Frame} {meth : Method} {c : Code} {T : State} {locs : List Loc} {cells slots : Nat} (X : Stand p l e R s m args below meth c T locs cells slots) (hexec : p.tables.exec = Jvm.exec) {own text : String} {index : Nat} {a : Addr} (hown : s.vm.findClass own = some m.cls)
    (hconst : (Cond.stringRef own index text).before args s = true) (hev : (Term.string own index).eval args s none [] s = some (.ref a)) {g : JFrame} (hg : g.method = m) (hdg : decode c.code g.pc = .ok (.ldc_w index, 3)) :
    ∀ target, Steps p.tables e below (T.setTop { g with pc := g.pc + 3, stack := .ref a :: g.stack }) target → Steps p.tables e below (T.setTop g) target := by
  obtain ⟨k, cf, i, a', hk, hcf, hcp, -, hr, hev'⟩ := Cond.stringRef_spec hown hconst
  cases hev.symm.trans hev'
  obtain ⟨k', hk', he⟩ := X.warmed.alike.2.2 _ _ hk
  have hr' : k'.resolved[index]? = some (some (.string a)) := by
    rcases X.warmed.entry hk hk' index with h | ⟨h, -⟩
    · rw [h]; exact hr
    · rw [hr] at h; cases h
  intro target hrest
  subst hg
  jvm_step X.here [hexec, hdg, ldc_w.wp_string (e := e) (s := T) (f := g) X.here.top hk' (by rw [he]; exact hcf) hcp hr']
  exact hrest
theorem J_throwW {ik is ic : Nat} {E tx : String} {names : List String} (hth : xth y.1.cls ik ic E names) (hs : (y.1.cls, is, tx) ∈ xTs) (hR : xthR y.2.2.2.2.1) (hhh : y.2.2.2.2.2 = [])
    (hd0 : decode y.2.1 pc = .ok (.new ik, 3)) (hd3 : decode y.2.1 (pc + 3) = .ok (.dup, 1)) (hd4 : decode y.2.1 (pc + 4) = .ok (.ldc_w is, 3)) (hd6 : decode y.2.1 (pc + 7) = .ok (.invokespecial ic, 3)) (hd9 : decode y.2.1 (pc + 10) = .ok (.athrow, 1)) (hw : w.1 = 1) (hk : k = (0, 0)) (hr : r = (.inr E, (0, w.2), (1, 6))) : JW G y k pc L [] w r := by
  intro p e s m args below meth c H locs ls C hS hW hM hl
  obtain ⟨rfl, rfl⟩ := hM.1 hw
  subst hk
  have hsr : (Cond.stringRef y.1.cls is tx).before args s = true := C.2.2.2.2.2.2.2.2.1.2.2.2.2.2.2.2.2.2.1 _ hs
  obtain ⟨-, -, -, q0, -, -, -, -, -, hev⟩ := Cond.stringRef_spec C.2.2.2.2.1 hsr
  exact x_throw rfl hth hR hhh hr C hW hl hd0 hd3 hd6 hd9 (q0 := q0) (fun {H cells slots Q rest} kk T hT X => by
    obtain ⟨t, a1, b1⟩ := kk T hT X
    exact ⟨t, x_ldcWString X C.1 C.2.2.2.2.1 (text := tx) (a := q0) hsr hev (g := F0 m (pc + 4) ls rest) rfl (by rw [C.2.1]; exact hd4) t a1, b1⟩)
/-- the words and the room of a call -/
def xcR (z : xY) (k : Nat × Nat) (R : Room) : Prop := z.2.2.2.2.1.frames + 1 ≤ R.frames ∧ 8 + (z.2.2.1 + 11) + z.2.2.2.2.1.locals ≤ R.locals ∧ k.1 + z.2.2.2.2.1.cells ≤ R.cells ∧ k.2 + z.2.2.2.2.1.slots ≤ R.slots
def xcw (z : xY) (n : Nat) : Prop := xwd z ∈ xTw ∧ Cond.initialized z.1.cls ∈ xTw ∧ (z.1.cls ≠ "java/lang/invoke/MethodHandle" ∧ z.1.cls ≠ "java/lang/invoke/VarHandle") ∧ (parseMethodDescriptor z.1.desc).map (fun d => d.parameters.length) = some n
def xcv (own : String) (index : Nat) (z : xY) (n : Nat) : Prop := xcw z n ∧ Cond.methodLink own index z.1 ∈ xTw ∧ Cond.instanceMethod z.1 ∈ xTw ∧ Cond.selects z.1.cls z.1 z.1 ∈ xTw
def xcs (own : String) (index : Nat) (z : xY) (n : Nat) : Prop := xcw z n ∧ Cond.methodLink own index z.1 ∈ xTw ∧ Cond.static z.1 ∈ xTw
def xcn (own : String) (index : Nat) (z : xY) (n : Nat) (host : String) : Prop := xcw z n ∧ (own, index, z.1, host) ∈ xTn ∧ Cond.static z.1 ∈ xTw
/-- an invocation at a frame of the picture's words -/
def xGo (G : xG) (y : xY) (k : Nat × Nat) (pc : Nat) (L : List (Nat × Value)) (st0 : List Value) (w : xH) (z : xY) (avs : List Value) (st : List Value) : Prop :=
  ∀ (p : Program) (e : Env) (s : State) (m : MethodId) (args : Array Value) (below : List Frame) (meth : Method) (c : Code) (T : State) (locs : List Loc) (ls : Array Slot),
    xC G y p s m args meth c → xW G w.2 T.heap → lv_has ls y.2.2.1 (xmp G L) → Stand p (gl G) e y.2.2.2.2.1 s m args below meth c T locs k.1 k.2 →
    xInv p (gl G) e y.2.2.2.2.1 s m args below meth c T locs k.1 k.2 (F0 m pc ls (st0.map (xv G))) z (avs.map (xv G)).toArray (st.map (xv G))
theorem xGo_v {z : xY} {index n i ci : Nat} {avs : List Value} {fs : List Value} {q : vw_C} (hd : decode y.2.1 pc = .ok (.invokevirtual index, 3)) (hc : xcv y.1.cls index z n) (hi : w.2[i]? = some (.inr (ci, fs))) (hq : xcl[ci]? = some q) (hqz : q.1 = z.1.cls) (hn : avs.length = n) : xGo G y k pc L (avs.reverse ++ .ref i :: st) w z (.ref i :: avs) st := by
  intro p e s m args below meth c T locs ls C hW hl X
  obtain ⟨⟨c1, c2, c3, c4⟩, c5, c6, c7⟩ := hc
  obtain ⟨cellB, b1, b2, b3⟩ := va_recv C.2.2.2.2.2.2.2.2.1.2.2.1 hW hq (xws_get hi)
  have hts := C.2.2.2.2.2.1
  exact xInv_virt X C.1 C.2.2.2.2.1 (hts _ c5) (hts _ c6) (hts _ c7) (hts _ c1) c3 b1 b2 (by rw [← hqz]; exact b3) rfl (argsL := avs.map (xv G)) (rest := st.map (xv G)) c4 (by rw [List.length_map]; exact hn) (by show (avs.reverse ++ .ref i :: st).map (xv G) = _; rw [List.map_append, List.map_reverse]; rfl) (by rw [C.2.1]; exact hd)
theorem xGo_s {z : xY} {index n : Nat} {avs : List Value} (hd : decode y.2.1 pc = .ok (.invokestatic index, 3)) (hc : xcs y.1.cls index z n) (hn : avs.length = n) : xGo G y k pc L (avs.reverse ++ st) w z avs st := by
  intro p e s m args below meth c T locs ls C hW hl X
  obtain ⟨⟨c1, c2, c3, c4⟩, c5, c6⟩ := hc
  have hts := C.2.2.2.2.2.1
  exact xInv_stat X C.1 C.2.2.2.2.1 (hts _ c5) (hts _ c6) (hts _ c2) (hts _ c1) c3 rfl (argsL := avs.map (xv G)) (rest := st.map (xv G)) c4 (by rw [List.length_map]; exact hn) (by show (avs.reverse ++ st).map (xv G) = _; rw [List.map_append, List.map_reverse]) (by rw [C.2.1]; exact hd)
theorem xGo_n {z : xY} {index n : Nat} {host : String} {avs : List Value} (hd : decode y.2.1 pc = .ok (.invokestatic index, 3)) (hc : xcn y.1.cls index z n host) (hn : avs.length = n) : xGo G y k pc L (avs.reverse ++ st) w z avs st := by
  intro p e s m args below meth c T locs ls C hW hl X
  obtain ⟨⟨c1, c2, c3, c4⟩, c5, c6⟩ := hc
  have hts := C.2.2.2.2.2.1
  exact xInv_statN X C.1 C.2.2.2.2.1 (host := host) (va_Nw.use rfl (C.2.2.2.2.2.2.2.2.1.2.2.2.2.2.1 _ c5)) (hts _ c6) (hts _ c2) (hts _ c1) c3 rfl (argsL := avs.map (xv G)) (rest := st.map (xv G)) c4 (by rw [List.length_map]; exact hn) (by show (avs.reverse ++ st).map (xv G) = _; rw [List.map_append, List.map_reverse]) (by rw [C.2.1]; exact hd)
theorem xGo_i {nm : MethodName} {by_ : ByteArray} {ml : Nat} {rm : Room} {index n i : Nat} {avs : List Value} (hd : decode y.2.1 pc = .ok (.invokespecial index, 3)) (hc : xcw (nm, by_, ml, none, rm, []) n) (hl1 : Cond.methodLink y.1.cls index nm ∈ xTw) (hl2 : Cond.instanceMethod nm ∈ xTw) (hin : nm.name = "<init>") (hn : avs.length = n) : xGo G y k pc L (avs.reverse ++ .ref i :: st) w (nm, by_, ml, none, rm, []) (.ref i :: avs) st := by
  intro p e s m args below meth c T locs ls C hW hl X
  obtain ⟨c1, c2, c3, c4⟩ := hc
  have hts := C.2.2.2.2.2.1
  exact xInv_init X C.1 C.2.2.2.2.1 hin (hts _ hl1) (hts _ hl2) (hts _ c1) c3 rfl (argsL := avs.map (xv G)) (rest := st.map (xv G)) c4 (by rw [List.length_map]; exact hn) (by show (avs.reverse ++ .ref i :: st).map (xv G) = _; rw [List.map_append, List.map_reverse]; rfl) (by rw [C.2.1]; exact hd)
/-- the mode behind a call -/
def xmd (m mz mr m2 len len2 kc : Nat) : Prop := (m2 = 1 → m = 1 ∧ mr = 1) ∧ (m2 = 2 → m = 2 ∧ len2 = len + kc) ∧ (mz = 2 → m = 2)
theorem x_exact {p : Program} {l : Launch} {e : Env} {R : Room} {s : State} {m : MethodId} {args : Array Value} {below : List Frame} {meth : Method} {c : Code} {T : State} {locs : List Loc} {k : Nat × Nat} {h : List va_E} (X : Stand p l e R s m args below meth c T locs k.1 k.2) (hb : gb G ≤ s.heap.size) (hz : s.heap.size ≤ T.heap.size) (hW : xW G h T.heap) (he : s.heap.size + k.1 = gb G + h.length) : T.heap.size = gb G + h.length := by
  have h1 := X.heapSize
  have h2 := xW_len hW (Nat.le_trans hb hz)
  omega
theorem J_call {z : xY} {avs st0 : List Value} {w2 : xH} {mz mr : Nat} {v : Option Value} {h2 : List va_E} {kz : Nat × Nat} (hg : xGo G y k pc L st0 w z avs st) (hz : xwd z ∈ xTw ∧ Cond.initialized z.1.cls ∈ xTw) (hR : xcR z k y.2.2.2.2.1) (hst : (st.map fun v => v.category).sum ≤ 8) (hM : XM G z avs (mz, w.2) (.inl v, (mr, h2), kz)) (hw2 : w2.2 = h2) (hmd : xmd w.1 mz mr w2.1 w.2.length h2.length kz.1)
    (h : JW G y (k.1 + kz.1, k.2 + kz.2) (pc + 3) L (v.toList ++ st) w2 r) : JW G y k pc L st0 w r := by
  intro p e s m args below meth c H locs ls C hS hW hMo hl T hT X
  subst hT
  have hK := C.2.2.2.2.2.2.2.2.1
  have hex : w.1 = 2 → T.heap.size = gb G + w.2.length := fun q => x_exact X hK.2.1 hS.1 hW (hMo.2 q)
  have hsum : (((st.map (xv G)).map fun v => v.category).sum) = ((st.map fun v => v.category).sum) := by rw [List.map_map]; congr 1; exact List.map_congr_left (fun v _ => xv_cat G v)
  obtain ⟨o, T', L', X', hW', hS', hmode, hret, -⟩ := x_ran (hg p e s m args below meth c T locs ls C hW hl X) hM C.2.2.2.2.2.1 hz.1 hz.2 hK hS hW (fun q => hex (hmd.2.2 q)) rfl (by rw [C.2.2.2.1]; exact hl.1) (by rw [hsum]; show 2 * 0 + _ ≤ 8; omega) hR
  have hmo' : xM G (k.1 + kz.1, k.2 + kz.2) w2 s T'.heap (locs ++ L') := by
    refine ⟨fun q => ?_, fun q => ?_⟩
    · obtain ⟨q1, q2⟩ := hmd.1 q
      obtain ⟨e1, e2⟩ := hMo.1 q1
      obtain ⟨e3, e4⟩ := hmode q2
      exact ⟨e3.trans e1, by rw [e2, e4]; rfl⟩
    · obtain ⟨q1, q2⟩ := hmd.2.1 q
      have := hMo.2 q1
      rw [hw2, q2]
      show s.heap.size + (k.1 + kz.1) = _
      omega
  have hv : (v.map (xv G)).toList ++ st.map (xv G) = (v.toList ++ st).map (xv G) := by cases v <;> rfl
  obtain ⟨t, a1, b1⟩ := h p e s m args below meth c T'.heap (locs ++ L') ls C hS' (by rw [hw2]; exact hW') hmo' hl T' rfl X'
  refine ⟨t, hret v rfl t ?_, b1⟩
  rw [show ({ F0 m pc ls (st0.map (xv G)) with pc := (F0 m pc ls (st0.map (xv G))).pc + 3, stack := (v.map (xv G)).toList ++ st.map (xv G) } : JFrame) = F0 m (pc + 3) ls ((v.toList ++ st).map (xv G)) by rw [hv]]
  exact a1
/-- a callee throws, and this method has no handler -/
theorem J_callT {z : xY} {avs st0 : List Value} {mz mr : Nat} {E : String} {h2 : List va_E} {kz : Nat × Nat} (hg : xGo G y k pc L st0 w z avs st) (hz : xwd z ∈ xTw ∧ Cond.initialized z.1.cls ∈ xTw) (hR : xcR z k y.2.2.2.2.1) (hst : (st.map fun v => v.category).sum ≤ 8) (hM : XM G z avs (mz, w.2) (.inr E, (mr, h2), kz)) (hmz : ¬ mz = 2) (hhh : y.2.2.2.2.2 = []) (hr : r = (.inr E, (0, h2), k.1 + kz.1, k.2 + kz.2)) : JW G y k pc L st0 w r := by
  intro p e s m args below meth c H locs ls C hS hW hMo hl T hT X
  subst hT
  have hK := C.2.2.2.2.2.2.2.2.1
  have hsum : (((st.map (xv G)).map fun v => v.category).sum) = ((st.map fun v => v.category).sum) := by rw [List.map_map]; congr 1; exact List.map_congr_left (fun v _ => xv_cat G v)
  obtain ⟨o, T', L', X', hW', hS', hmode, -, hthr⟩ := x_ran (hg p e s m args below meth c T locs ls C hW hl X) hM C.2.2.2.2.2.1 hz.1 hz.2 hK hS hW (fun q => absurd q hmz) rfl (by rw [C.2.2.2.1]; exact hl.1) (by rw [hsum]; show 2 * 0 + _ ≤ 8; omega) hR
  obtain ⟨x, cell, h1, h2', h3, hst⟩ := hthr E rfl
  have hempty : c.exceptionTable.toList = [] := by
    have : c.exceptionTable.toList.map (fun h => (h.startPc, h.endPc, h.handlerPc, h.catchType)) = [] := C.2.2.2.2.2.2.2.1.trans hhh
    exact List.map_eq_nil_iff.mp this
  obtain ⟨hw, hrun, hend, hWU, hsame⟩ := X'.leaveThrown x (g := { F0 m pc ls (st0.map (xv G)) with stack := st.map (xv G) }) rfl rfl rfl (by rw [hempty]; intro q hq; cases hq) C.2.2.2.2.2.2.1
  subst hr
  exact ⟨_, hst _ hw, .threw x, hrun, hend, ⟨x, cell, rfl, h1, h2', h3⟩, hW', hS'.F rfl, locs ++ L', hWU, hsame, hS'.2.2, fun q => (by cases q)⟩
end XE
end
section
section XF
variable {Q : Handler → Pre} {E : CtlPost} {e : Env} {d : Bool} {acts : List Action} {s : State} {f : JFrame} {a : Addr}
/-- the search passes an entry whose class the object isn't of, its pool entry cold or warm -/
theorem xf_pass {x : ExceptionTableEntry} {t : List ExceptionTableEntry} {c : ClassId} {cell : Cell} (hx : covers x f.pc = true) (h0 : x.catchType ≠ 0) (hl : s.vm.ClassLinks e.platform f.method.cls x.catchType c) (hcell : s.heap[a]? = some cell) (hobj : ∀ k, cell.vm ≠ .statics k)
    (hk : ∃ k, s.vm.classes[cell.cls]? = some k) (hc : ∃ k, s.vm.classes[c]? = some k) (hfit : s.vm.assignable cell.cls c = false) :
    wp (findHandler.go f a (x :: t)) Q E e d acts s ↔ wp (findHandler.go f a t) Q E e d acts (s.setVm (s.vm.noted f.method.cls x.catchType (.cls c))) := by
  simp only [covers] at hx
  obtain ⟨ha, ht⟩ := (resolveClass_links e.toSetting hl).op (op := VmOp.resolveClass f.method.cls x.catchType) rfl
  have hal : s.vm.Alike (s.vm.noted f.method.cls x.catchType (.cls c)) := (Vm.Alike.refl s.vm).noted _ _ _
  obtain ⟨k1, hk1⟩ := hk
  obtain ⟨k2, hk2⟩ := hc
  obtain ⟨k1', hk1', -⟩ := hal.2.2 _ _ hk1
  obtain ⟨k2', hk2', -⟩ := hal.2.2 _ _ hk2
  have hfit' : (s.vm.noted f.method.cls x.catchType (.cls c)).assignable cell.cls c = false := by rw [hal.assignable]; exact hfit
  simp [findHandler.go, hx, h0, ha, ht, hcell, hobj, hk1', hk2', hfit', VmOp.dirties, VmOp.acts]
theorem xf_found {x : ExceptionTableEntry} {t : List ExceptionTableEntry} {c : ClassId} {cell : Cell} (hx : covers x f.pc = true) (h0 : x.catchType ≠ 0) (hl : s.vm.ClassLinks e.platform f.method.cls x.catchType c) (hcell : s.heap[a]? = some cell) (hobj : ∀ k, cell.vm ≠ .statics k)
    (hk : ∃ k, s.vm.classes[cell.cls]? = some k) (hc : ∃ k, s.vm.classes[c]? = some k) (hfit : s.vm.assignable cell.cls c = true) :
    wp (findHandler.go f a (x :: t)) Q E e d acts s ↔ Q (.found x.handlerPc) d acts (s.setVm (s.vm.noted f.method.cls x.catchType (.cls c))) := by
  simp only [covers] at hx
  obtain ⟨ha, ht⟩ := (resolveClass_links e.toSetting hl).op (op := VmOp.resolveClass f.method.cls x.catchType) rfl
  have hal : s.vm.Alike (s.vm.noted f.method.cls x.catchType (.cls c)) := (Vm.Alike.refl s.vm).noted _ _ _
  obtain ⟨k1, hk1⟩ := hk
  obtain ⟨k2, hk2⟩ := hc
  obtain ⟨k1', hk1', -⟩ := hal.2.2 _ _ hk1
  obtain ⟨k2', hk2', -⟩ := hal.2.2 _ _ hk2
  have hfit' : (s.vm.noted f.method.cls x.catchType (.cls c)).assignable cell.cls c = true := by rw [hal.assignable]; exact hfit
  simp [findHandler.go, hx, h0, ha, ht, hcell, hobj, hk1', hk2', hfit', VmOp.dirties, VmOp.acts]
/-- what an entry of the table says in the tables of the method's entry s0 -/
def xEn (e : Env) (s0 : State) (f : JFrame) (cell : Cell) (fits : Bool) (x : ExceptionTableEntry) : Prop := covers x f.pc = true ∧ x.catchType ≠ 0 ∧ ∃ c, s0.vm.ClassLinks e.platform f.method.cls x.catchType c ∧ s0.vm.assignable cell.cls c = fits
theorem xf_all {s0 : State} {cell : Cell} (hobj : ∀ k, cell.vm ≠ .statics k) (hk : ∃ k, s0.vm.classes[cell.cls]? = some k) (x : ExceptionTableEntry) (rest : List ExceptionTableEntry) (hx : xEn e s0 f cell true x) :
    ∀ (pre : List ExceptionTableEntry), (∀ q ∈ pre, xEn e s0 f cell false q) → ∀ U : State, s0.WarmedH U.vm → U.heap[a]? = some cell →
      ∃ vm' : Vm, s0.WarmedH vm' ∧ ∀ (Q : Handler → Pre) (E : CtlPost) (d : Bool) (acts : List Action), wp (findHandler.go f a (pre ++ x :: rest)) Q E e d acts U ↔ Q (.found x.handlerPc) d acts (U.setVm vm') := by
  intro pre
  induction pre with
  | nil =>
    intro _ U hW hcell
    obtain ⟨h1, h2, c, hcl, hfit⟩ := hx
    obtain ⟨dk, _, _, kt, hd, _, _, _, _, hkt, _, hopen⟩ := hcl.here
    have hal := hW.alike
    obtain ⟨kt', hkt', -⟩ := hal.2.2 _ _ hkt
    obtain ⟨k0, hk0⟩ := hk
    obtain ⟨k0', hk0', -⟩ := hal.2.2 _ _ hk0
    refine ⟨_, hW.noted hd hopen (State.rightAt_cls hcl), fun Q E d acts => ?_⟩
    exact xf_found h1 h2 (hW.classLinks hcl) hcell hobj ⟨k0', hk0'⟩ ⟨kt', hkt'⟩ (by rw [hal.assignable]; exact hfit)
  | cons q qs ih =>
    intro hp U hW hcell
    obtain ⟨h1, h2, c, hcl, hfit⟩ := hp q List.mem_cons_self
    obtain ⟨dk, _, _, kt, hd, _, _, _, _, hkt, _, hopen⟩ := hcl.here
    have hal := hW.alike
    obtain ⟨kt', hkt', -⟩ := hal.2.2 _ _ hkt
    obtain ⟨k0, hk0⟩ := hk
    obtain ⟨k0', hk0', -⟩ := hal.2.2 _ _ hk0
    have hW1 : s0.WarmedH (U.vm.noted f.method.cls q.catchType (.cls c)) := hW.noted hd hopen (State.rightAt_cls hcl)
    obtain ⟨vm', hW2, hall⟩ := ih (fun z hz => hp z (List.mem_cons_of_mem _ hz)) (U.setVm (U.vm.noted f.method.cls q.catchType (.cls c))) hW1 hcell
    refine ⟨vm', hW2, fun Q E d acts => ?_⟩
    rw [List.cons_append, xf_pass h1 h2 (hW.classLinks hcl) hcell hobj ⟨k0', hk0'⟩ ⟨kt', hkt'⟩ (by rw [hal.assignable]; exact hfit)]
    exact hall Q E d acts
theorem xs_catch {r : List Frame} {pc : Nat} {vm' : Vm} (hfind : ∀ (Q : Handler → Pre) (E : CtlPost) (d : Bool) (acts : List Action), wp (findHandler f a) Q E e d acts s ↔ Q (.found pc) d acts (s.setVm vm')) :
    (stepThrowing e s a (.java f :: r)).Is ((s.setVm vm').setFrames (.java { f with pc := pc, stack := [.ref a] } :: r)) [] := by
  simp only [stepThrowing, searchFrame, vmDo]
  generalize hr : Sem.go _ e false [] s = res
  obtain ⟨as, rfl, ha⟩ := Sem.eq_ok_of hr (a := Handler.found pc) (s' := s.setVm vm') (acts' := []) (by simp [hfind _ _ _ _])
  exact ⟨rfl, ha⟩
end XF
/-- what is thrown over a frame is caught there -/
theorem x_caught {p : Program} {l : Launch} {e : Env} {R : Room} {s : State} {m : MethodId} {args : Array Value} {below : List Frame} {meth : Method} {c : Code} {T : State} {locs : List Loc} {cells slots : Nat} (X : Stand p l e R s m args below meth c T locs cells slots) {a : Addr} {cell : Cell} (hcell : T.heap[a]? = some cell) (hvm : cell.vm = .none) (hk : ∃ k, s.vm.classes[cell.cls]? = some k) {g : JFrame} (hg : g.method = m)
    (pre : List ExceptionTableEntry) (x : ExceptionTableEntry) (rest : List ExceptionTableEntry) (hsplit : c.exceptionTable.toList = pre ++ x :: rest) (hx : xEn e s g cell true x) (hp : ∀ q ∈ pre, xEn e s g cell false q) :
    ∃ vm', Stand p l e R s m args below meth c (T.setVm vm') locs cells slots ∧ ∀ target, Steps p.tables e below ((T.setVm vm').setTop { g with pc := x.handlerPc, stack := [.ref a] }) target → Steps p.tables e below ((T.setTop g).pushFrame (.throwing a)) target := by
  subst hg
  obtain ⟨vm', hW', hall⟩ := xf_all (e := e) (f := g) (a := a) (s0 := s) (cell := cell) (fun k h => by rw [hvm] at h; cases h) hk x rest hx pre hp ((T.setTop g).pushFrame (.throwing a)) (by rw [Stand.throwing_vm]; exact X.warmed) (by rw [Stand.throwing_heap]; exact hcell)
  refine ⟨vm', X.noted hW', fun target hrest => ?_⟩
  have hfind : ∀ (Q : Handler → Pre) (E : CtlPost) (d : Bool) (acts : List Action), wp (findHandler g a) Q E e d acts ((T.setTop g).pushFrame (.throwing a)) ↔ Q (.found x.handlerPc) d acts (((T.setTop g).pushFrame (.throwing a)).setVm vm') := fun Q E d acts => by
    rw [W.findHandler_eq (meth := meth) (code := c) (by rw [Stand.throwing_vm]; exact X.method') X.code, hsplit]
    exact hall Q E d acts
  have h : At T g.method c below := X.here
  obtain ⟨hgo, hw⟩ := h.throwing a
  refine Steps.head hgo hw ?_
  rw [stepThread_throwing (frames_entered h.top _), (xs_catch (s := (T.setTop g).pushFrame (.throwing a)) hfind).1]
  obtain ⟨g₀, hg0⟩ := Option.isSome_iff_exists.mp h.top
  obtain ⟨r, hr⟩ := State.topJava?_eq_some.mp hg0
  have hr' : (T.setVm vm').frames = .java g₀ :: r := hr
  have hfs : ∀ (u : State) (F F2 : List Frame), ((u.setFrames F).setVm vm').setFrames F2 = (u.setVm vm').setFrames F2 := fun u F F2 => by
    have h1 : (u.setFrames F).setVm vm' = (u.setVm vm').setFrames F := rfl
    rw [h1, State.setFrames_setFrames]
  rw [State.setTop_of_frames _ hr'] at hrest
  rw [hr, List.tail_cons, State.pushFrame, hfs, State.setTop_of_frames _ hr, hfs]
  exact hrest
section XG
variable {G : xG} {y : xY} {k : Nat × Nat} {pc : Nat} {L : List (Nat × Value)} {st : List Value} {w : xH} {r : xR}
/-- the handler of a throw of class E at pc, by the method's table: entries that are passed, then the one that takes it -/
def xcat (y : xY) (pc : Nat) (E : String) (hp : Nat) : Prop :=
  ∃ (pre : List (Nat × Nat × Nat × Nat)) (q : Nat × Nat × Nat × Nat) (rest : List (Nat × Nat × Nat × Nat)), y.2.2.2.2.2 = pre ++ q :: rest ∧ q.2.2.1 = hp ∧ (∀ u ∈ pre ++ [q], u.1 ≤ pc ∧ pc < u.2.1 ∧ u.2.2.2 ≠ 0) ∧ (∀ u ∈ pre, ∃ nm, Cond.classLink y.1.cls u.2.2.2 nm ∈ xTw ∧ (E, nm) ∈ xTc) ∧ ∃ nm, Cond.classLink y.1.cls q.2.2.2 nm ∈ xTw ∧ (E, nm) ∈ xTk
theorem J_callC {z : xY} {avs st0 : List Value} {mz mr : Nat} {E : String} {h2 : List va_E} {kz : Nat × Nat} {hp hp1 : Nat} {n : Int} {v : Int32} (hg : xGo G y k pc L st0 w z avs st) (hz : xwd z ∈ xTw ∧ Cond.initialized z.1.cls ∈ xTw) (hR : xcR z k y.2.2.2.2.1) (hst : (st.map fun v => v.category).sum ≤ 8) (hM : XM G z avs (mz, w.2) (.inr E, (mr, h2), kz)) (hmz : ¬ mz = 2) (hc : xcat y pc E hp)
    (hda : (∃ j : Fin 4, decode y.2.1 hp = .ok (.astore_n j, 1) ∧ (j : Nat) < y.2.2.1 ∧ hp1 = hp + 1) ∨ (∃ j : Nat, decode y.2.1 hp = .ok (.astore j, 2) ∧ j < y.2.2.1 ∧ hp1 = hp + 2)) (hdi : decode y.2.1 hp1 = .ok (.iconst n, 1)) (hv : Int32.ofInt n = v) (hdr : decode y.2.1 (hp1 + 1) = .ok (.ireturn, 1)) (hy : y.2.2.2.1 = some .int)
    (hr : r = (.inl (some (.int v)), (0, h2), k.1 + kz.1, k.2 + kz.2)) : JW G y k pc L st0 w r := by
  intro p e s m args below meth c H locs ls C hS hW hMo hl T hT X
  subst hT
  have hK := C.2.2.2.2.2.2.2.2.1
  have hts := C.2.2.2.2.2.1
  have hsum : (((st.map (xv G)).map fun v => v.category).sum) = ((st.map fun v => v.category).sum) := by rw [List.map_map]; congr 1; exact List.map_congr_left (fun v _ => xv_cat G v)
  obtain ⟨o, T', L', X', hW', hS', hmode, -, hthr⟩ := x_ran (hg p e s m args below meth c T locs ls C hW hl X) hM hts hz.1 hz.2 hK hS hW (fun q => absurd q hmz) rfl (by rw [C.2.2.2.1]; exact hl.1) (by rw [hsum]; show 2 * 0 + _ ≤ 8; omega) hR
  obtain ⟨x, cell, h1, hvm, hfE, hstp⟩ := hthr E rfl
  obtain ⟨pre, q, rest, hsp, hqh, hcov, hpre, nmq, hlq, hcq⟩ := hc
  have htab : c.exceptionTable.toList.map (fun h => (h.startPc, h.endPc, h.handlerPc, h.catchType)) = pre ++ q :: rest := C.2.2.2.2.2.2.2.1.trans hsp
  obtain ⟨pre', tl, e1, e2, e3⟩ := List.map_eq_append_iff.mp htab
  obtain ⟨q', rest', e4, e5, e6⟩ := List.map_eq_cons_iff.mp e3
  subst e4
  have hpl : e.platform.magicAccessors = ({} : Platform).magicAccessors := by rw [X.admits.platform]
  have hcE : ∃ kE, s.vm.classes[cell.cls]? = some kE := Vm.classAt_of_findClass hfE
  have hxq : xEn e s { F0 m pc ls (st0.map (xv G)) with stack := st.map (xv G) } cell true q' := by
    have hq := hcov q (List.mem_append_right _ List.mem_cons_self)
    rw [← e5] at hq hlq
    obtain ⟨cT, hcT, hcl⟩ := Cond.classLink_spec C.2.2.2.2.1 (hts _ hlq) e.platform hpl
    obtain ⟨c3, c4, hc3, hc4, hasg⟩ := Cond.castable_spec (hK.2.2.2.2.2.2.2.2.2.2.1 _ hcq)
    cases hc3.symm.trans hfE
    cases hc4.symm.trans hcT
    refine ⟨?_, hq.2.2, cT, hcl, hasg⟩
    show (decide (q'.startPc ≤ pc) && decide (pc < q'.endPc)) = true
    simp [hq.1, hq.2.1]
  have hxp : ∀ u ∈ pre', xEn e s { F0 m pc ls (st0.map (xv G)) with stack := st.map (xv G) } cell false u := fun u hu => by
    have hu' : (u.startPc, u.endPc, u.handlerPc, u.catchType) ∈ pre := by rw [← e2]; exact List.mem_map.mpr ⟨u, hu, rfl⟩
    have hq := hcov _ (List.mem_append_left _ hu')
    obtain ⟨nm, hl1, hl2⟩ := hpre _ hu'
    obtain ⟨cT, hcT, hcl⟩ := Cond.classLink_spec C.2.2.2.2.1 (hts _ hl1) e.platform hpl
    refine ⟨?_, hq.2.2, cT, hcl, hK.2.2.2.2.2.2.2.2.1 _ hl2 _ _ hfE hcT⟩
    show (decide (u.startPc ≤ pc) && decide (pc < u.endPc)) = true
    simp [hq.1, hq.2.1]
  obtain ⟨vm', X2, hst2⟩ := x_caught X' h1 hvm hcE rfl pre' q' rest' e1 hxq hxp
  have hqp : q'.handlerPc = hp := by rw [← hqh, ← e5]
  rw [hqp] at hst2
  have fin : ∀ ls' : Array Slot, W p (gl G) e y.2.2.2.2.1 s m args below meth c T'.heap (locs ++ L') (k.1 + kz.1) (k.2 + kz.2) (xZ G r below s) (F0 m hp1 ls' []) := fun ls' => by
    refine lv_iconst C.1 C.2.1 hdi hv ?_
    refine x_mono (xZ_ret (args := args) (w := (0, h2)) (k := (k.1 + kz.1, k.2 + kz.2)) (o0 := some (.int v)) hr hS' hW' ⟨fun q => (by cases q), fun q => (by cases q)⟩) (x_iret (ty := .int) C.1 C.2.1 (C.2.2.1.trans hy) rfl (Or.inl rfl) hdr C.2.2.2.2.2.2.1)
  have hh : W p (gl G) e y.2.2.2.2.1 s m args below meth c T'.heap (locs ++ L') (k.1 + kz.1) (k.2 + kz.2) (xZ G r below s) (F0 m hp ls [.ref x]) := by
    rcases hda with ⟨j, hj1, hj2, hj3⟩ | ⟨j, hj1, hj2, hj3⟩
    · exact lv_astore_n (lv' := _) C.1 C.2.1 hj1 rfl hl hj2 rfl (fun ls' _ => by rw [← hj3]; exact fin ls')
    · exact lv_astore (lv' := _) C.1 C.2.1 hj1 hl hj2 rfl (fun ls' _ => by rw [← hj3]; exact fin ls')
  obtain ⟨t, a1, b1⟩ := hh (T'.setVm vm') rfl X2
  exact ⟨t, hstp t (hst2 t a1), b1⟩
/-- Object's constructor -/
theorem J_obj {index i : Nat} (hd : decode y.2.1 pc = .ok (.invokespecial index, 3)) (h1 : Cond.methodLink y.1.cls index Lib.objectInit ∈ xTw) (h2 : Cond.instanceMethod Lib.objectInit ∈ xTw) (h3 : Cond.code Lib.objectInit ⟨#[0xb1]⟩ 1 none ∈ xTw) (hst : (st.map fun v => v.category).sum ≤ 8) (hR : 1 ≤ y.2.2.2.2.1.frames ∧ 20 ≤ y.2.2.2.2.1.locals) (h : JW G y k (pc + 3) L st w r) : JW G y k pc L (.ref i :: st) w r := by
  intro p e s m args below meth c H locs ls C hS hW hM hl
  have hts := C.2.2.2.2.2.1
  have hsum : (((st.map (xv G)).map fun v => v.category).sum) = ((st.map fun v => v.category).sum) := by rw [List.map_map]; congr 1; exact List.map_congr_left (fun v _ => xv_cat G v)
  refine W.objInit C.1 C.2.1 C.2.2.2.2.1 (hts _ h1) (hts _ h2) (hts _ h3) rfl (by rw [C.2.2.2.1]; exact hl.1) (a := gb G + i) (rest := st.map (xv G)) rfl hd hR.1 (by rw [hsum]; show 2 * 0 + _ + 12 ≤ _; have := hR.2; omega) ?_
  exact h p e s m args below meth c H locs ls C hS hW hM hl
theorem xM_app {G : xG} {k : Nat × Nat} {w : xH} {s : State} {H H1 : Heap} {locs locs1 : List Loc} (h : xM G k w s H locs) (hw : w.1 = 2) (c : va_E) (n : Nat) : xM G (k.1 + 1, n) (2, w.2 ++ [c]) s H1 locs1 :=
  ⟨fun q => (by cases q), fun _ => by have := h.2 hw; simp only [List.length_append, List.length_singleton]; omega⟩
theorem J_new {index ci N : Nat} {C0 : String} {T0 : u_T} {ty0 : Nat → FieldType} {fs : List Value} (hd : decode y.2.1 pc = .ok (.new index, 3)) (hw : w.1 = 2) (hc : xcl[ci]? = some (C0, T0, N)) (hin : ∀ q ∈ u_ws C0 T0 N, q ∈ xTw) (ht : xty ci ty0) (h1 : Cond.classLink y.1.cls index C0 ∈ xTw) (h2 : Cond.instantiable C0 N ∈ xTw) (h3 : Cond.initialized C0 ∈ xTw) (hfs : ∀ j, j < N → defaultValue (ty0 j) = vp_V (fs.map (xv G)) j) (hR : k.1 + 1 ≤ y.2.2.2.2.1.cells ∧ k.2 + N ≤ y.2.2.2.2.1.slots)
    (h : JW G y (k.1 + 1, k.2 + N) (pc + 3) L (.ref w.2.length :: st) (2, w.2 ++ [.inr (ci, fs)]) r) : JW G y k pc L st w r := by
  intro p e s m args below meth c H locs ls C hS hW hM hl T hT X
  subst hT
  have hts := C.2.2.2.2.2.1
  have hK := C.2.2.2.2.2.2.2.2.1
  have hz : T.heap.size = gb G + w.2.length := x_exact X hK.2.1 hS.1 hW (hM.2 hw)
  have hKn := hK.2.2.1.1 ci _ hc
  refine W.newcK C.1 C.2.1 C.2.2.2.2.1 (hts _ h1) (hts _ h2) (hts _ h3) (g := F0 m pc ls (st.map (xv G))) rfl hd hR.1 hR.2 hKn.2.1 hz (fun H1 kC hkC e1 z1 o1 => ?_) T rfl X
  refine h p e s m args below meth c H1 locs ls C ⟨by have := hS.1; omega, fun q q1 q2 => (o1 q (by have := hS.1; omega)).trans (hS.2.1 q q1 q2), hS.2.2⟩ ?_ (xM_app hM hw _ _) hl
  show va_P (gD G) xcl (xws G (w.2 ++ [.inr (ci, fs)])) H1
  rw [xws_app]
  refine va_P.app (hW.kept (fun k q hk => o1 q.1 (by have := (hW k q hk).lt; omega))) (fun k q hq => ?_)
  have hk0 : k < 1 := (List.getElem?_eq_some_iff.mp hq).1
  rw [show k = 0 by omega] at hq
  cases hq
  exact ⟨_, hc, (u_born ty0 hts hin hKn hkC e1 (ht C0 T0 N hc).1).to hfs⟩
theorem J_newa {t N : Nat} {at_ : ArrayType} {ty : FieldType} {n : Int32} {a0 : (Nat → Int32) ⊕ (Nat → Int64) ⊕ (Nat → UInt32) ⊕ (Nat → UInt64) ⊕ (Nat → Option Nat)} (hd : decode y.2.1 pc = .ok (.newarray at_, 2)) (hw : w.1 = 2) (hty : newarray.typeOf at_ = ty) (h1 : Cond.arrayClass ty ∈ xTw) (hn : ¬ n < 0) (hN : n.toNatClampNeg = N) (hbytes : N * componentBytes ty ≤ 536870912) (ht : ∃ cA, (gT G)[t]? = some (cA, ty) ∧ (∀ s : State, va_RA s cA ty → s.vm.findClass ("[" ++ ty.toString) = some cA)) (ha : ∀ cA : ClassId, vp_cell cA (N, a0) = arrV cA N (fun _ => defaultValue ty)) (hxe : ∀ cA : ClassId, ((gT G).getD t (0, .int)).1 = cA → xe G (.inl (t, N, a0)) = .inl (cA, N, a0)) (hR : k.1 + 1 ≤ y.2.2.2.2.1.cells ∧ k.2 + N ≤ y.2.2.2.2.1.slots)
    (h : JW G y (k.1 + 1, k.2 + N) (pc + 2) L (.ref w.2.length :: st) (2, w.2 ++ [.inl (t, N, a0)]) r) : JW G y k pc L (.int n :: st) w r := by
  intro p e s m args below meth c H locs ls C hS hW hM hl T hT X
  subst hT
  subst hty
  have hts := C.2.2.2.2.2.1
  have hK := C.2.2.2.2.2.2.2.2.1
  have hz : T.heap.size = gb G + w.2.length := x_exact X hK.2.1 hS.1 hW (hM.2 hw)
  obtain ⟨cA0, hcA0, hra⟩ := ht
  have e0 : ((gT G).getD t (0, .int)).1 = cA0 := by rw [List.getD_eq_getElem?_getD, hcA0]; rfl
  have hfc0 := hra s (hK.2.2.1.2 t _ hcA0).2
  refine va_newaK C.1 C.2.1 (hts _ h1) (g := F0 m pc ls (.int n :: st.map (xv G))) rfl hd rfl hn hN hbytes hR.1 hR.2 hz (fun H1 cA e1 z1 o1 hAr hNm => ?_) T rfl X
  cases hfc0.symm.trans hNm
  refine h p e s m args below meth c H1 locs ls C ⟨by have := hS.1; omega, fun q q1 q2 => (o1 q (by have := hS.1; omega)).trans (hS.2.1 q q1 q2), hS.2.2⟩ ?_ (xM_app hM hw _ _) hl
  show va_P (gD G) xcl (xws G (w.2 ++ [.inl (t, N, a0)])) H1
  rw [xws_app, hxe cA0 e0]
  refine va_P.app (hW.kept (fun k q hk => o1 q.1 (by have := (hW k q hk).lt; omega))) (fun k q hq => ?_)
  have hk0 : k < 1 := (List.getElem?_eq_some_iff.mp hq).1
  rw [show k = 0 by omega] at hq
  cases hq
  show H1[gb G + w.2.length]? = some (vp_cell cA0 (N, a0))
  rw [ha]
  exact e1
theorem J_anewa {t N index : Nat} {C0 : String} {n : Int32} (hd : decode y.2.1 pc = .ok (.anewarray index, 3)) (hw : w.1 = 2) (h1 : Cond.classLink y.1.cls index C0 ∈ xTw) (h2 : C0 ∈ xTo) (hn : ¬ n < 0) (hN : n.toNatClampNeg = N) (hbytes : N * 4 ≤ 536870912) (ht : ∃ cA, (gT G)[t]? = some (cA, .object C0)) (hR : k.1 + 1 ≤ y.2.2.2.2.1.cells ∧ k.2 + N ≤ y.2.2.2.2.1.slots)
    (h : JW G y (k.1 + 1, k.2 + N) (pc + 3) L (.ref w.2.length :: st) (2, w.2 ++ [.inl (t, N, .inr (.inr (.inr (.inr (fun _ => none)))))]) r) : JW G y k pc L (.int n :: st) w r := by
  intro p e s m args below meth c H locs ls C hS hW hM hl T hT X
  subst hT
  subst hN
  have hts := C.2.2.2.2.2.1
  have hK := C.2.2.2.2.2.2.2.2.1
  have hz : T.heap.size = gb G + w.2.length := x_exact X hK.2.1 hS.1 hW (hM.2 hw)
  obtain ⟨cA0, hcA0⟩ := ht
  have e0 : ((gT G).getD t (0, .int)).1 = cA0 := by rw [List.getD_eq_getElem?_getD, hcA0]; rfl
  obtain ⟨kA0, comp0, -, -, -, hfc0⟩ := (hK.2.2.1.2 t _ hcA0).2
  refine W.anew C.1 C.2.1 C.2.2.2.2.1 (hts _ h1) (va_AO.use (hK.2.2.2.2.2.2.2.2.2.2.2.2.2.2 _ h2)) (g := F0 m pc ls (.int n :: st.map (xv G))) rfl hd rfl hn hbytes hR.1 hR.2 (fun cA kA comp f1 f2 f3 f4 => ?_) T rfl X
  cases hfc0.symm.trans f1
  generalize hH1 : T.heap.push ({ cls := cA0, slots := Array.replicate n.toNatClampNeg .null, vm := .none } : Cell) = H1
  have z1 : H1.size = T.heap.size + 1 := by rw [← hH1, Array.size_push]
  have e1 : H1[T.heap.size]? = some (arrV cA0 n.toNatClampNeg (fun _ => .null)) := by rw [← hH1, Array.getElem?_push_size, ← arrV_new]
  have o1 : ∀ q : Nat, q < T.heap.size → H1[q]? = T.heap[q]? := fun q hq => by rw [← hH1, Array.getElem?_push, if_neg (Nat.ne_of_lt hq)]
  rw [hz]
  refine h p e s m args below meth c H1 locs ls C ⟨by have := hS.1; omega, fun q q1 q2 => (o1 q (by have := hS.1; omega)).trans (hS.2.1 q q1 q2), hS.2.2⟩ ?_ (xM_app hM hw _ _) hl
  show va_P (gD G) xcl (xws G (w.2 ++ [.inl (t, n.toNatClampNeg, .inr (.inr (.inr (.inr (fun _ => none)))))])) H1
  rw [xws_app]
  refine va_P.app (hW.kept (fun k q hk => o1 q.1 ((hW k q hk).lt))) (fun k q hq => ?_)
  have hk0 : k < 1 := (List.getElem?_eq_some_iff.mp hq).1
  rw [show k = 0 by omega] at hq
  cases hq
  show H1[gb G + w.2.length]? = some (vp_cell ((gT G).getD t (0, .int)).1 _)
  rw [e0, ← hz, e1]
  rfl
/-- more room is counted than was used -/
theorem J_widen {k2 : Nat × Nat} (h1 : k.1 ≤ k2.1) (h2 : k.2 ≤ k2.2) (hw : ¬ w.1 = 2) (h : JW G y k2 pc L st w r) : JW G y k pc L st w r :=
  fun p e s m args below meth c H locs ls C hS hW hM hl => W.widen h1 h2 (h p e s m args below meth c H locs ls C hS hW ⟨hM.1, fun q => absurd q hw⟩ hl)
/-- the mode may be forgotten -/
theorem J_forget (h : JW G y k pc L st (0, w.2) r) : JW G y k pc L st w r :=
  fun p e s m args below meth c H locs ls C hS hW hM hl => h p e s m args below meth c H locs ls C hS hW ⟨fun q => (by cases q), fun q => (by cases q)⟩ hl
end XG
end
section
section XH
variable {G : xG} {y : xY} {k : Nat × Nat} {pc : Nat} {L : List (Nat × Value)} {st : List Value} {w : xH} {r : xR}
theorem xGo_v0 {z : xY} {index i ci : Nat} {fs : List Value} {q : vw_C} (hd : decode y.2.1 pc = .ok (.invokevirtual index, 3)) (hc : xcv y.1.cls index z 0) (hi : w.2[i]? = some (.inr (ci, fs))) (hq : xcl[ci]? = some q) (hqz : q.1 = z.1.cls) : xGo G y k pc L (.ref i :: st) w z [.ref i] st := xGo_v (avs := []) hd hc hi hq hqz rfl
theorem xGo_s0 {z : xY} {index : Nat} (hd : decode y.2.1 pc = .ok (.invokestatic index, 3)) (hc : xcs y.1.cls index z 0) : xGo G y k pc L (st) w z [] st := xGo_s (avs := []) hd hc rfl
theorem xGo_n0 {z : xY} {index : Nat} {host : String} (hd : decode y.2.1 pc = .ok (.invokestatic index, 3)) (hc : xcn y.1.cls index z 0 host) : xGo G y k pc L (st) w z [] st := xGo_n (avs := []) hd hc rfl
theorem xGo_i0 {nm : MethodName} {by_ : ByteArray} {ml : Nat} {rm : Room} {index i : Nat} (hd : decode y.2.1 pc = .ok (.invokespecial index, 3)) (hc : xcw (nm, by_, ml, none, rm, []) 0) (hl1 : Cond.methodLink y.1.cls index nm ∈ xTw) (hl2 : Cond.instanceMethod nm ∈ xTw) (hin : nm.name = "<init>") : xGo G y k pc L (.ref i :: st) w (nm, by_, ml, none, rm, []) [.ref i] st := xGo_i (avs := []) hd hc hl1 hl2 hin rfl
theorem xGo_v1 {z : xY} {index i ci : Nat} {a1 : Value} {fs : List Value} {q : vw_C} (hd : decode y.2.1 pc = .ok (.invokevirtual index, 3)) (hc : xcv y.1.cls index z 1) (hi : w.2[i]? = some (.inr (ci, fs))) (hq : xcl[ci]? = some q) (hqz : q.1 = z.1.cls) : xGo G y k pc L (a1 :: .ref i :: st) w z [.ref i, a1] st := xGo_v (avs := [a1]) hd hc hi hq hqz rfl
theorem xGo_s1 {z : xY} {index : Nat} {a1 : Value} (hd : decode y.2.1 pc = .ok (.invokestatic index, 3)) (hc : xcs y.1.cls index z 1) : xGo G y k pc L (a1 :: st) w z [a1] st := xGo_s (avs := [a1]) hd hc rfl
theorem xGo_n1 {z : xY} {index : Nat} {host : String} {a1 : Value} (hd : decode y.2.1 pc = .ok (.invokestatic index, 3)) (hc : xcn y.1.cls index z 1 host) : xGo G y k pc L (a1 :: st) w z [a1] st := xGo_n (avs := [a1]) hd hc rfl
theorem xGo_i1 {nm : MethodName} {by_ : ByteArray} {ml : Nat} {rm : Room} {index i : Nat} {a1 : Value} (hd : decode y.2.1 pc = .ok (.invokespecial index, 3)) (hc : xcw (nm, by_, ml, none, rm, []) 1) (hl1 : Cond.methodLink y.1.cls index nm ∈ xTw) (hl2 : Cond.instanceMethod nm ∈ xTw) (hin : nm.name = "<init>") : xGo G y k pc L (a1 :: .ref i :: st) w (nm, by_, ml, none, rm, []) [.ref i, a1] st := xGo_i (avs := [a1]) hd hc hl1 hl2 hin rfl
theorem xGo_v2 {z : xY} {index i ci : Nat} {a1 : Value} {a2 : Value} {fs : List Value} {q : vw_C} (hd : decode y.2.1 pc = .ok (.invokevirtual index, 3)) (hc : xcv y.1.cls index z 2) (hi : w.2[i]? = some (.inr (ci, fs))) (hq : xcl[ci]? = some q) (hqz : q.1 = z.1.cls) : xGo G y k pc L (a2 :: a1 :: .ref i :: st) w z [.ref i, a1, a2] st := xGo_v (avs := [a1, a2]) hd hc hi hq hqz rfl
theorem xGo_s2 {z : xY} {index : Nat} {a1 : Value} {a2 : Value} (hd : decode y.2.1 pc = .ok (.invokestatic index, 3)) (hc : xcs y.1.cls index z 2) : xGo G y k pc L (a2 :: a1 :: st) w z [a1, a2] st := xGo_s (avs := [a1, a2]) hd hc rfl
theorem xGo_n2 {z : xY} {index : Nat} {host : String} {a1 : Value} {a2 : Value} (hd : decode y.2.1 pc = .ok (.invokestatic index, 3)) (hc : xcn y.1.cls index z 2 host) : xGo G y k pc L (a2 :: a1 :: st) w z [a1, a2] st := xGo_n (avs := [a1, a2]) hd hc rfl
theorem xGo_i2 {nm : MethodName} {by_ : ByteArray} {ml : Nat} {rm : Room} {index i : Nat} {a1 : Value} {a2 : Value} (hd : decode y.2.1 pc = .ok (.invokespecial index, 3)) (hc : xcw (nm, by_, ml, none, rm, []) 2) (hl1 : Cond.methodLink y.1.cls index nm ∈ xTw) (hl2 : Cond.instanceMethod nm ∈ xTw) (hin : nm.name = "<init>") : xGo G y k pc L (a2 :: a1 :: .ref i :: st) w (nm, by_, ml, none, rm, []) [.ref i, a1, a2] st := xGo_i (avs := [a1, a2]) hd hc hl1 hl2 hin rfl
theorem xGo_v3 {z : xY} {index i ci : Nat} {a1 : Value} {a2 : Value} {a3 : Value} {fs : List Value} {q : vw_C} (hd : decode y.2.1 pc = .ok (.invokevirtual index, 3)) (hc : xcv y.1.cls index z 3) (hi : w.2[i]? = some (.inr (ci, fs))) (hq : xcl[ci]? = some q) (hqz : q.1 = z.1.cls) : xGo G y k pc L (a3 :: a2 :: a1 :: .ref i :: st) w z [.ref i, a1, a2, a3] st := xGo_v (avs := [a1, a2, a3]) hd hc hi hq hqz rfl
theorem xGo_s3 {z : xY} {index : Nat} {a1 : Value} {a2 : Value} {a3 : Value} (hd : decode y.2.1 pc = .ok (.invokestatic index, 3)) (hc : xcs y.1.cls index z 3) : xGo G y k pc L (a3 :: a2 :: a1 :: st) w z [a1, a2, a3] st := xGo_s (avs := [a1, a2, a3]) hd hc rfl
theorem xGo_n3 {z : xY} {index : Nat} {host : String} {a1 : Value} {a2 : Value} {a3 : Value} (hd : decode y.2.1 pc = .ok (.invokestatic index, 3)) (hc : xcn y.1.cls index z 3 host) : xGo G y k pc L (a3 :: a2 :: a1 :: st) w z [a1, a2, a3] st := xGo_n (avs := [a1, a2, a3]) hd hc rfl
theorem xGo_i3 {nm : MethodName} {by_ : ByteArray} {ml : Nat} {rm : Room} {index i : Nat} {a1 : Value} {a2 : Value} {a3 : Value} (hd : decode y.2.1 pc = .ok (.invokespecial index, 3)) (hc : xcw (nm, by_, ml, none, rm, []) 3) (hl1 : Cond.methodLink y.1.cls index nm ∈ xTw) (hl2 : Cond.instanceMethod nm ∈ xTw) (hin : nm.name = "<init>") : xGo G y k pc L (a3 :: a2 :: a1 :: .ref i :: st) w (nm, by_, ml, none, rm, []) [.ref i, a1, a2, a3] st := xGo_i (avs := [a1, a2, a3]) hd hc hl1 hl2 hin rfl
theorem xGo_v4 {z : xY} {index i ci : Nat} {a1 : Value} {a2 : Value} {a3 : Value} {a4 : Value} {fs : List Value} {q : vw_C} (hd : decode y.2.1 pc = .ok (.invokevirtual index, 3)) (hc : xcv y.1.cls index z 4) (hi : w.2[i]? = some (.inr (ci, fs))) (hq : xcl[ci]? = some q) (hqz : q.1 = z.1.cls) : xGo G y k pc L (a4 :: a3 :: a2 :: a1 :: .ref i :: st) w z [.ref i, a1, a2, a3, a4] st := xGo_v (avs := [a1, a2, a3, a4]) hd hc hi hq hqz rfl
theorem xGo_s4 {z : xY} {index : Nat} {a1 : Value} {a2 : Value} {a3 : Value} {a4 : Value} (hd : decode y.2.1 pc = .ok (.invokestatic index, 3)) (hc : xcs y.1.cls index z 4) : xGo G y k pc L (a4 :: a3 :: a2 :: a1 :: st) w z [a1, a2, a3, a4] st := xGo_s (avs := [a1, a2, a3, a4]) hd hc rfl
theorem xGo_n4 {z : xY} {index : Nat} {host : String} {a1 : Value} {a2 : Value} {a3 : Value} {a4 : Value} (hd : decode y.2.1 pc = .ok (.invokestatic index, 3)) (hc : xcn y.1.cls index z 4 host) : xGo G y k pc L (a4 :: a3 :: a2 :: a1 :: st) w z [a1, a2, a3, a4] st := xGo_n (avs := [a1, a2, a3, a4]) hd hc rfl
theorem xGo_i4 {nm : MethodName} {by_ : ByteArray} {ml : Nat} {rm : Room} {index i : Nat} {a1 : Value} {a2 : Value} {a3 : Value} {a4 : Value} (hd : decode y.2.1 pc = .ok (.invokespecial index, 3)) (hc : xcw (nm, by_, ml, none, rm, []) 4) (hl1 : Cond.methodLink y.1.cls index nm ∈ xTw) (hl2 : Cond.instanceMethod nm ∈ xTw) (hin : nm.name = "<init>") : xGo G y k pc L (a4 :: a3 :: a2 :: a1 :: .ref i :: st) w (nm, by_, ml, none, rm, []) [.ref i, a1, a2, a3, a4] st := xGo_i (avs := [a1, a2, a3, a4]) hd hc hl1 hl2 hin rfl
theorem xGo_v5 {z : xY} {index i ci : Nat} {a1 : Value} {a2 : Value} {a3 : Value} {a4 : Value} {a5 : Value} {fs : List Value} {q : vw_C} (hd : decode y.2.1 pc = .ok (.invokevirtual index, 3)) (hc : xcv y.1.cls index z 5) (hi : w.2[i]? = some (.inr (ci, fs))) (hq : xcl[ci]? = some q) (hqz : q.1 = z.1.cls) : xGo G y k pc L (a5 :: a4 :: a3 :: a2 :: a1 :: .ref i :: st) w z [.ref i, a1, a2, a3, a4, a5] st := xGo_v (avs := [a1, a2, a3, a4, a5]) hd hc hi hq hqz rfl
theorem xGo_s5 {z : xY} {index : Nat} {a1 : Value} {a2 : Value} {a3 : Value} {a4 : Value} {a5 : Value} (hd : decode y.2.1 pc = .ok (.invokestatic index, 3)) (hc : xcs y.1.cls index z 5) : xGo G y k pc L (a5 :: a4 :: a3 :: a2 :: a1 :: st) w z [a1, a2, a3, a4, a5] st := xGo_s (avs := [a1, a2, a3, a4, a5]) hd hc rfl
theorem xGo_n5 {z : xY} {index : Nat} {host : String} {a1 : Value} {a2 : Value} {a3 : Value} {a4 : Value} {a5 : Value} (hd : decode y.2.1 pc = .ok (.invokestatic index, 3)) (hc : xcn y.1.cls index z 5 host) : xGo G y k pc L (a5 :: a4 :: a3 :: a2 :: a1 :: st) w z [a1, a2, a3, a4, a5] st := xGo_n (avs := [a1, a2, a3, a4, a5]) hd hc rfl
theorem xGo_i5 {nm : MethodName} {by_ : ByteArray} {ml : Nat} {rm : Room} {index i : Nat} {a1 : Value} {a2 : Value} {a3 : Value} {a4 : Value} {a5 : Value} (hd : decode y.2.1 pc = .ok (.invokespecial index, 3)) (hc : xcw (nm, by_, ml, none, rm, []) 5) (hl1 : Cond.methodLink y.1.cls index nm ∈ xTw) (hl2 : Cond.instanceMethod nm ∈ xTw) (hin : nm.name = "<init>") : xGo G y k pc L (a5 :: a4 :: a3 :: a2 :: a1 :: .ref i :: st) w (nm, by_, ml, none, rm, []) [.ref i, a1, a2, a3, a4, a5] st := xGo_i (avs := [a1, a2, a3, a4, a5]) hd hc hl1 hl2 hin rfl
theorem xGo_v6 {z : xY} {index i ci : Nat} {a1 : Value} {a2 : Value} {a3 : Value} {a4 : Value} {a5 : Value} {a6 : Value} {fs : List Value} {q : vw_C} (hd : decode y.2.1 pc = .ok (.invokevirtual index, 3)) (hc : xcv y.1.cls index z 6) (hi : w.2[i]? = some (.inr (ci, fs))) (hq : xcl[ci]? = some q) (hqz : q.1 = z.1.cls) : xGo G y k pc L (a6 :: a5 :: a4 :: a3 :: a2 :: a1 :: .ref i :: st) w z [.ref i, a1, a2, a3, a4, a5, a6] st := xGo_v (avs := [a1, a2, a3, a4, a5, a6]) hd hc hi hq hqz rfl
theorem xGo_s6 {z : xY} {index : Nat} {a1 : Value} {a2 : Value} {a3 : Value} {a4 : Value} {a5 : Value} {a6 : Value} (hd : decode y.2.1 pc = .ok (.invokestatic index, 3)) (hc : xcs y.1.cls index z 6) : xGo G y k pc L (a6 :: a5 :: a4 :: a3 :: a2 :: a1 :: st) w z [a1, a2, a3, a4, a5, a6] st := xGo_s (avs := [a1, a2, a3, a4, a5, a6]) hd hc rfl
theorem xGo_n6 {z : xY} {index : Nat} {host : String} {a1 : Value} {a2 : Value} {a3 : Value} {a4 : Value} {a5 : Value} {a6 : Value} (hd : decode y.2.1 pc = .ok (.invokestatic index, 3)) (hc : xcn y.1.cls index z 6 host) : xGo G y k pc L (a6 :: a5 :: a4 :: a3 :: a2 :: a1 :: st) w z [a1, a2, a3, a4, a5, a6] st := xGo_n (avs := [a1, a2, a3, a4, a5, a6]) hd hc rfl
theorem xGo_i6 {nm : MethodName} {by_ : ByteArray} {ml : Nat} {rm : Room} {index i : Nat} {a1 : Value} {a2 : Value} {a3 : Value} {a4 : Value} {a5 : Value} {a6 : Value} (hd : decode y.2.1 pc = .ok (.invokespecial index, 3)) (hc : xcw (nm, by_, ml, none, rm, []) 6) (hl1 : Cond.methodLink y.1.cls index nm ∈ xTw) (hl2 : Cond.instanceMethod nm ∈ xTw) (hin : nm.name = "<init>") : xGo G y k pc L (a6 :: a5 :: a4 :: a3 :: a2 :: a1 :: .ref i :: st) w (nm, by_, ml, none, rm, []) [.ref i, a1, a2, a3, a4, a5, a6] st := xGo_i (avs := [a1, a2, a3, a4, a5, a6]) hd hc hl1 hl2 hin rfl
/-- a call that reads -/
theorem J_callP {z : xY} {avs st0 : List Value} {v : Option Value} (hg : xGo G y k pc L st0 w z avs st) (hz : xwd z ∈ xTw ∧ Cond.initialized z.1.cls ∈ xTw) (hR : xcR z k y.2.2.2.2.1) (hst : (st.map fun v => v.category).sum ≤ 8) (hM : XM G z avs (1, w.2) (.inl v, (1, w.2), 0, 0)) (h : JW G y k (pc + 3) L (v.toList ++ st) w r) : JW G y k pc L st0 w r :=
  J_call (w2 := w) (kz := (0, 0)) hg hz hR hst hM rfl ⟨fun q => ⟨q, rfl⟩, fun q => ⟨q, rfl⟩, fun q => (by cases q)⟩ h
/-- a call that writes -/
theorem J_callW {z : xY} {avs st0 : List Value} {v : Option Value} {h2 : List va_E} (hg : xGo G y k pc L st0 w z avs st) (hz : xwd z ∈ xTw ∧ Cond.initialized z.1.cls ∈ xTw) (hR : xcR z k y.2.2.2.2.1) (hst : (st.map fun v => v.category).sum ≤ 8) (hM : XM G z avs (1, w.2) (.inl v, (0, h2), 0, 0)) (h : JW G y k (pc + 3) L (v.toList ++ st) (0, h2) r) : JW G y k pc L st0 w r :=
  J_call (w2 := (0, h2)) (kz := (0, 0)) hg hz hR hst hM rfl ⟨fun q => (by cases q), fun q => (by cases q), fun q => (by cases q)⟩ h
/-- a call that may have made what is thrown and caught within it -/
theorem J_callX {z : xY} {avs st0 : List Value} {v : Option Value} {h2 : List va_E} {kz : Nat × Nat} (hg : xGo G y k pc L st0 w z avs st) (hz : xwd z ∈ xTw ∧ Cond.initialized z.1.cls ∈ xTw) (hR : xcR z k y.2.2.2.2.1) (hst : (st.map fun v => v.category).sum ≤ 8) (hM : XM G z avs (1, w.2) (.inl v, (0, h2), kz)) (h : JW G y (k.1 + kz.1, k.2 + kz.2) (pc + 3) L (v.toList ++ st) (0, h2) r) : JW G y k pc L st0 w r :=
  J_call (w2 := (0, h2)) hg hz hR hst hM rfl ⟨fun q => (by cases q), fun q => (by cases q), fun q => (by cases q)⟩ h
/-- a constructor's call -/
theorem J_callN {z : xY} {avs st0 : List Value} {h2 : List va_E} {kz : Nat × Nat} (hw : w.1 = 2) (hg : xGo G y k pc L st0 w z avs st) (hz : xwd z ∈ xTw ∧ Cond.initialized z.1.cls ∈ xTw) (hR : xcR z k y.2.2.2.2.1) (hst : (st.map fun v => v.category).sum ≤ 8) (hM : XM G z avs (2, w.2) (.inl none, (2, h2), kz)) (hlen : h2.length = w.2.length + kz.1) (h : JW G y (k.1 + kz.1, k.2 + kz.2) (pc + 3) L st (2, h2) r) : JW G y k pc L st0 w r :=
  J_call (w2 := (2, h2)) hg hz hR hst hM rfl ⟨fun q => (by cases q), fun _ => ⟨hw, hlen⟩, fun _ => hw⟩ h
/-- what a method that throws leaves, to its caller without a handler -/
theorem J_callE {z : xY} {avs st0 : List Value} {E : String} (hg : xGo G y (0, 0) pc L st0 w z avs st) (hz : xwd z ∈ xTw ∧ Cond.initialized z.1.cls ∈ xTw) (hR : xcR z (0, 0) y.2.2.2.2.1) (hst : (st.map fun v => v.category).sum ≤ 8) (hM : XM G z avs (1, w.2) (.inr E, (0, w.2), 1, 6)) (hhh : y.2.2.2.2.2 = []) (hr : r = (.inr E, (0, w.2), 1, 6)) : JW G y (0, 0) pc L st0 w r :=
  J_callT (kz := (1, 6)) hg hz hR hst hM (by decide) hhh hr
end XH
end
section
theorem xt_RF : xty 0 t_RF := fun C T N h => by cases h; exact ⟨xk_RF, xn_RF⟩
theorem xt_Sh : xty 1 t_Sh := fun C T N h => by cases h; exact ⟨xk_Sh, xn_Sh⟩
theorem xt_Pa : xty 2 t_Pa := fun C T N h => by cases h; exact ⟨xk_Pa, xn_Pa⟩
theorem xt_Bi : xty 3 t_Bi := fun C T N h => by cases h; exact ⟨xk_Bi, xn_Bi⟩
theorem xt_Sc : xty 4 t_Sc := fun C T N h => by cases h; exact ⟨xk_Sc, xn_Sc⟩
theorem xt_Bo : xty 5 t_Bo := fun C T N h => by cases h; exact ⟨xk_Bo, xn_Bo⟩
theorem xt_Mo : xty 6 t_Mo := fun C T N h => by cases h; exact ⟨xk_Mo, xn_Mo⟩
theorem xf_RF_12 : xfl "ResidueFlows" 12 0 0 := ⟨_, _, _, rfl, by decide, xTw_1 146 rfl rfl, xu_RF⟩
theorem xf_RF_18 : xfl "ResidueFlows" 18 0 1 := ⟨_, _, _, rfl, by decide, xTw_1 147 rfl rfl, xu_RF⟩
theorem xf_RF_24 : xfl "ResidueFlows" 24 0 2 := ⟨_, _, _, rfl, by decide, xTw_1 148 rfl rfl, xu_RF⟩
theorem xf_RF_28 : xfl "ResidueFlows" 28 0 3 := ⟨_, _, _, rfl, by decide, xTw_1 149 rfl rfl, xu_RF⟩
theorem xf_RF_33 : xfl "ResidueFlows" 33 0 5 := ⟨_, _, _, rfl, by decide, xTw_1 151 rfl rfl, xu_RF⟩
theorem xf_RF_40 : xfl "ResidueFlows" 40 0 7 := ⟨_, _, _, rfl, by decide, xTw_1 153 rfl rfl, xu_RF⟩
theorem xf_RF_48 : xfl "ResidueFlows" 48 0 8 := ⟨_, _, _, rfl, by decide, xTw_1 154 rfl rfl, xu_RF⟩
theorem xf_RF_64 : xfl "ResidueFlows" 64 1 0 := ⟨_, _, _, rfl, by decide, xTw_1 29 rfl rfl, xu_Sh⟩
theorem xf_RF_68 : xfl "ResidueFlows" 68 1 1 := ⟨_, _, _, rfl, by decide, xTw_1 31 rfl rfl, xu_Sh⟩
theorem xf_RF_91 : xfl "ResidueFlows" 91 0 4 := ⟨_, _, _, rfl, by decide, xTw_1 150 rfl rfl, xu_RF⟩
theorem xf_RF_105 : xfl "ResidueFlows" 105 2 4 := ⟨_, _, _, rfl, by decide, xTw_1 48 rfl rfl, xu_Pa⟩
theorem xf_RF_112 : xfl "ResidueFlows" 112 0 6 := ⟨_, _, _, rfl, by decide, xTw_1 152 rfl rfl, xu_RF⟩
theorem xf_RF_120 : xfl "ResidueFlows" 120 3 0 := ⟨_, _, _, rfl, by decide, xTw_1 68 rfl rfl, xu_Bi⟩
theorem xf_RF_123 : xfl "ResidueFlows" 123 3 1 := ⟨_, _, _, rfl, by decide, xTw_1 70 rfl rfl, xu_Bi⟩
theorem xf_RF_141 : xfl "ResidueFlows" 141 3 2 := ⟨_, _, _, rfl, by decide, xTw_1 72 rfl rfl, xu_Bi⟩
theorem xf_RF_144 : xfl "ResidueFlows" 144 3 3 := ⟨_, _, _, rfl, by decide, xTw_1 74 rfl rfl, xu_Bi⟩
theorem xf_RF_147 : xfl "ResidueFlows" 147 3 4 := ⟨_, _, _, rfl, by decide, xTw_1 76 rfl rfl, xu_Bi⟩
theorem xf_RF_171 : xfl "ResidueFlows" 171 4 0 := ⟨_, _, _, rfl, by decide, xTw_1 104 rfl rfl, xu_Sc⟩
theorem xf_RF_177 : xfl "ResidueFlows" 177 4 1 := ⟨_, _, _, rfl, by decide, xTw_1 106 rfl rfl, xu_Sc⟩
theorem xf_RF_180 : xfl "ResidueFlows" 180 4 2 := ⟨_, _, _, rfl, by decide, xTw_1 108 rfl rfl, xu_Sc⟩
theorem xf_RF_183 : xfl "ResidueFlows" 183 4 3 := ⟨_, _, _, rfl, by decide, xTw_1 110 rfl rfl, xu_Sc⟩
theorem xf_RF_186 : xfl "ResidueFlows" 186 4 4 := ⟨_, _, _, rfl, by decide, xTw_1 112 rfl rfl, xu_Sc⟩
theorem xf_RF_189 : xfl "ResidueFlows" 189 4 5 := ⟨_, _, _, rfl, by decide, xTw_1 114 rfl rfl, xu_Sc⟩
theorem xf_RF_199 : xfl "ResidueFlows" 199 0 9 := ⟨_, _, _, rfl, by decide, xTw_1 155 rfl rfl, xu_RF⟩
theorem xf_RF_202 : xfl "ResidueFlows" 202 0 10 := ⟨_, _, _, rfl, by decide, xTw_1 156 rfl rfl, xu_RF⟩
theorem xf_RF_205 : xfl "ResidueFlows" 205 0 11 := ⟨_, _, _, rfl, by decide, xTw_1 157 rfl rfl, xu_RF⟩
theorem xf_RF_226 : xfl "ResidueFlows" 226 5 0 := ⟨_, _, _, rfl, by decide, xTw_1 135 rfl rfl, xu_Bo⟩
theorem xf_RF_262 : xfl "ResidueFlows" 262 3 5 := ⟨_, _, _, rfl, by decide, xTw_1 78 rfl rfl, xu_Bi⟩
theorem xf_RF_265 : xfl "ResidueFlows" 265 3 6 := ⟨_, _, _, rfl, by decide, xTw_1 80 rfl rfl, xu_Bi⟩
theorem xf_Bi_11 : xfl "ResidueFlows$Bin" 11 3 4 := ⟨_, _, _, rfl, by decide, xTw_1 75 rfl rfl, xu_Bi⟩
theorem xf_Bi_17 : xfl "ResidueFlows$Bin" 17 3 6 := ⟨_, _, _, rfl, by decide, xTw_1 79 rfl rfl, xu_Bi⟩
theorem xf_Bi_21 : xfl "ResidueFlows$Bin" 21 3 2 := ⟨_, _, _, rfl, by decide, xTw_1 71 rfl rfl, xu_Bi⟩
theorem xf_Bi_24 : xfl "ResidueFlows$Bin" 24 3 3 := ⟨_, _, _, rfl, by decide, xTw_1 73 rfl rfl, xu_Bi⟩
theorem xf_Bi_33 : xfl "ResidueFlows$Bin" 33 3 1 := ⟨_, _, _, rfl, by decide, xTw_1 69 rfl rfl, xu_Bi⟩
theorem xf_Bi_44 : xfl "ResidueFlows$Bin" 44 3 5 := ⟨_, _, _, rfl, by decide, xTw_1 77 rfl rfl, xu_Bi⟩
theorem xf_Bo_9 : xfl "ResidueFlows$Boiler" 9 5 1 := ⟨_, _, _, rfl, by decide, xTw_1 136 rfl rfl, xu_Bo⟩
theorem xf_Bo_15 : xfl "ResidueFlows$Boiler" 15 5 2 := ⟨_, _, _, rfl, by decide, xTw_1 137 rfl rfl, xu_Bo⟩
theorem xf_Bo_18 : xfl "ResidueFlows$Boiler" 18 5 0 := ⟨_, _, _, rfl, by decide, xTw_1 134 rfl rfl, xu_Bo⟩
theorem xf_Pa_9 : xfl "ResidueFlows$Parts" 9 2 0 := ⟨_, _, _, rfl, by decide, xTw_1 43 rfl rfl, xu_Pa⟩
theorem xf_Pa_15 : xfl "ResidueFlows$Parts" 15 2 1 := ⟨_, _, _, rfl, by decide, xTw_1 44 rfl rfl, xu_Pa⟩
theorem xf_Pa_18 : xfl "ResidueFlows$Parts" 18 2 2 := ⟨_, _, _, rfl, by decide, xTw_1 45 rfl rfl, xu_Pa⟩
theorem xf_Pa_21 : xfl "ResidueFlows$Parts" 21 2 3 := ⟨_, _, _, rfl, by decide, xTw_1 46 rfl rfl, xu_Pa⟩
theorem xf_Pa_24 : xfl "ResidueFlows$Parts" 24 2 4 := ⟨_, _, _, rfl, by decide, xTw_1 47 rfl rfl, xu_Pa⟩
theorem xf_Sc_7 : xfl "ResidueFlows$Screen" 7 4 0 := ⟨_, _, _, rfl, by decide, xTw_1 103 rfl rfl, xu_Sc⟩
theorem xf_Sc_13 : xfl "ResidueFlows$Screen" 13 4 1 := ⟨_, _, _, rfl, by decide, xTw_1 105 rfl rfl, xu_Sc⟩
theorem xf_Sc_17 : xfl "ResidueFlows$Screen" 17 4 2 := ⟨_, _, _, rfl, by decide, xTw_1 107 rfl rfl, xu_Sc⟩
theorem xf_Sc_20 : xfl "ResidueFlows$Screen" 20 4 3 := ⟨_, _, _, rfl, by decide, xTw_1 109 rfl rfl, xu_Sc⟩
theorem xf_Sc_23 : xfl "ResidueFlows$Screen" 23 4 4 := ⟨_, _, _, rfl, by decide, xTw_1 111 rfl rfl, xu_Sc⟩
theorem xf_Sc_26 : xfl "ResidueFlows$Screen" 26 4 5 := ⟨_, _, _, rfl, by decide, xTw_1 113 rfl rfl, xu_Sc⟩
theorem xf_Sh_7 : xfl "ResidueFlows$Share" 7 1 0 := ⟨_, _, _, rfl, by decide, xTw_1 28 rfl rfl, xu_Sh⟩
theorem xf_Sh_13 : xfl "ResidueFlows$Share" 13 1 1 := ⟨_, _, _, rfl, by decide, xTw_1 30 rfl rfl, xu_Sh⟩
theorem xf_Mo_7 : xfl "ResidueFlowsModel" 7 6 1 := ⟨_, _, _, rfl, by decide, xTw_3 71 rfl rfl, xu_Mo⟩
theorem xf_Mo_13 : xfl "ResidueFlowsModel" 13 6 2 := ⟨_, _, _, rfl, by decide, xTw_3 72 rfl rfl, xu_Mo⟩
theorem xf_Mo_16 : xfl "ResidueFlowsModel" 16 6 4 := ⟨_, _, _, rfl, by decide, xTw_3 74 rfl rfl, xu_Mo⟩
theorem xf_Mo_20 : xfl "ResidueFlowsModel" 20 6 5 := ⟨_, _, _, rfl, by decide, xTw_3 75 rfl rfl, xu_Mo⟩
theorem xf_Mo_23 : xfl "ResidueFlowsModel" 23 6 7 := ⟨_, _, _, rfl, by decide, xTw_3 77 rfl rfl, xu_Mo⟩
theorem xf_Mo_26 : xfl "ResidueFlowsModel" 26 6 8 := ⟨_, _, _, rfl, by decide, xTw_3 78 rfl rfl, xu_Mo⟩
theorem xf_Mo_29 : xfl "ResidueFlowsModel" 29 6 9 := ⟨_, _, _, rfl, by decide, xTw_3 79 rfl rfl, xu_Mo⟩
theorem xf_Mo_32 : xfl "ResidueFlowsModel" 32 6 10 := ⟨_, _, _, rfl, by decide, xTw_3 80 rfl rfl, xu_Mo⟩
theorem xf_Mo_37 : xfl "ResidueFlowsModel" 37 6 11 := ⟨_, _, _, rfl, by decide, xTw_3 81 rfl rfl, xu_Mo⟩
theorem xf_Mo_40 : xfl "ResidueFlowsModel" 40 6 12 := ⟨_, _, _, rfl, by decide, xTw_3 82 rfl rfl, xu_Mo⟩
theorem xf_Mo_43 : xfl "ResidueFlowsModel" 43 6 13 := ⟨_, _, _, rfl, by decide, xTw_3 83 rfl rfl, xu_Mo⟩
theorem xf_Mo_46 : xfl "ResidueFlowsModel" 46 6 14 := ⟨_, _, _, rfl, by decide, xTw_3 84 rfl rfl, xu_Mo⟩
theorem xf_Mo_50 : xfl "ResidueFlowsModel" 50 6 15 := ⟨_, _, _, rfl, by decide, xTw_3 85 rfl rfl, xu_Mo⟩
theorem xf_Mo_53 : xfl "ResidueFlowsModel" 53 6 16 := ⟨_, _, _, rfl, by decide, xTw_3 86 rfl rfl, xu_Mo⟩
theorem xf_Mo_56 : xfl "ResidueFlowsModel" 56 6 21 := ⟨_, _, _, rfl, by decide, xTw_3 91 rfl rfl, xu_Mo⟩
theorem xf_Mo_59 : xfl "ResidueFlowsModel" 59 6 22 := ⟨_, _, _, rfl, by decide, xTw_3 92 rfl rfl, xu_Mo⟩
theorem xf_Mo_62 : xfl "ResidueFlowsModel" 62 6 0 := ⟨_, _, _, rfl, by decide, xTw_3 70 rfl rfl, xu_Mo⟩
theorem xf_Mo_66 : xfl "ResidueFlowsModel" 66 6 6 := ⟨_, _, _, rfl, by decide, xTw_3 76 rfl rfl, xu_Mo⟩
theorem xf_Mo_81 : xfl "ResidueFlowsModel" 81 6 3 := ⟨_, _, _, rfl, by decide, xTw_3 73 rfl rfl, xu_Mo⟩
theorem xf_Mo_90 : xfl "ResidueFlowsModel" 90 6 17 := ⟨_, _, _, rfl, by decide, xTw_3 87 rfl rfl, xu_Mo⟩
theorem xf_Mo_122 : xfl "ResidueFlowsModel" 122 6 18 := ⟨_, _, _, rfl, by decide, xTw_3 88 rfl rfl, xu_Mo⟩
theorem xf_Mo_125 : xfl "ResidueFlowsModel" 125 6 19 := ⟨_, _, _, rfl, by decide, xTw_3 89 rfl rfl, xu_Mo⟩
theorem xf_Mo_130 : xfl "ResidueFlowsModel" 130 6 20 := ⟨_, _, _, rfl, by decide, xTw_3 90 rfl rfl, xu_Mo⟩
theorem xf_Mo_135 : xfl "ResidueFlowsModel" 135 6 24 := ⟨_, _, _, rfl, by decide, xTw_3 94 rfl rfl, xu_Mo⟩
theorem xf_Mo_138 : xfl "ResidueFlowsModel" 138 6 23 := ⟨_, _, _, rfl, by decide, xTw_3 93 rfl rfl, xu_Mo⟩
theorem xq_RF_init : xcw Y_RF_init 0 := ⟨xTw_1 18 rfl rfl, xTw_1 1 rfl rfl, ⟨by decide, by decide⟩, by decide +kernel⟩
theorem xq_Sh_init : xcw Y_Sh_init 2 := ⟨xTw_1 26 rfl rfl, xTw_1 2 rfl rfl, ⟨by decide, by decide⟩, by decide +kernel⟩
theorem xq_Pa_init : xcw Y_Pa_init 0 := ⟨xTw_1 41 rfl rfl, xTw_1 3 rfl rfl, ⟨by decide, by decide⟩, by decide +kernel⟩
theorem xq_Bi_init : xcw Y_Bi_init 0 := ⟨xTw_1 65 rfl rfl, xTw_1 4 rfl rfl, ⟨by decide, by decide⟩, by decide +kernel⟩
theorem xq_Sc_init : xcw Y_Sc_init 0 := ⟨xTw_1 101 rfl rfl, xTw_1 5 rfl rfl, ⟨by decide, by decide⟩, by decide +kernel⟩
theorem xq_Bo_init : xcw Y_Bo_init 0 := ⟨xTw_1 132 rfl rfl, xTw_1 6 rfl rfl, ⟨by decide, by decide⟩, by decide +kernel⟩
theorem xq_RF_begin : xcw Y_RF_begin 0 := ⟨xTw_1 186 rfl rfl, xTw_1 1 rfl rfl, ⟨by decide, by decide⟩, by decide +kernel⟩
theorem xq_RF_carbon : xcw Y_RF_carbon 0 := ⟨xTw_1 191 rfl rfl, xTw_1 1 rfl rfl, ⟨by decide, by decide⟩, by decide +kernel⟩
theorem xq_La_share : xcw Y_La_share 4 := ⟨xTw_1 195 rfl rfl, xTw_1 0 rfl rfl, ⟨by decide, by decide⟩, by decide +kernel⟩
theorem xq_RF_share : xcw Y_RF_share 3 := ⟨xTw_1 201 rfl rfl, xTw_1 1 rfl rfl, ⟨by decide, by decide⟩, by decide +kernel⟩
theorem xq_La_log : xcw Y_La_log 5 := ⟨xTw_2 48 rfl rfl, xTw_1 0 rfl rfl, ⟨by decide, by decide⟩, by decide +kernel⟩
theorem xq_RF_log : xcw Y_RF_log 3 := ⟨xTw_2 52 rfl rfl, xTw_1 1 rfl rfl, ⟨by decide, by decide⟩, by decide +kernel⟩
theorem xq_Sh_of : xcw Y_Sh_of 1 := ⟨xTw_2 58 rfl rfl, xTw_1 2 rfl rfl, ⟨by decide, by decide⟩, by decide +kernel⟩
theorem xq_RF_portion : xcw Y_RF_portion 3 := ⟨xTw_2 61 rfl rfl, xTw_1 1 rfl rfl, ⟨by decide, by decide⟩, by decide +kernel⟩
theorem xq_Pa_tell : xcw Y_Pa_tell 5 := ⟨xTw_2 67 rfl rfl, xTw_1 3 rfl rfl, ⟨by decide, by decide⟩, by decide +kernel⟩
theorem xq_Pa_add : xcw Y_Pa_add 1 := ⟨xTw_2 71 rfl rfl, xTw_1 3 rfl rfl, ⟨by decide, by decide⟩, by decide +kernel⟩
theorem xq_La_volume : xcw Y_La_volume 4 := ⟨xTw_2 74 rfl rfl, xTw_1 0 rfl rfl, ⟨by decide, by decide⟩, by decide +kernel⟩
theorem xq_RF_volume : xcw Y_RF_volume 2 := ⟨xTw_2 79 rfl rfl, xTw_1 1 rfl rfl, ⟨by decide, by decide⟩, by decide +kernel⟩
theorem xq_RF_checkKind : xcw Y_RF_checkKind 1 := ⟨xTw_2 82 rfl rfl, xTw_1 1 rfl rfl, ⟨by decide, by decide⟩, by decide +kernel⟩
theorem xq_RF_checkLogs : xcw Y_RF_checkLogs 0 := ⟨xTw_2 87 rfl rfl, xTw_1 1 rfl rfl, ⟨by decide, by decide⟩, by decide +kernel⟩
theorem xq_Pa_ofKind : xcw Y_Pa_ofKind 1 := ⟨xTw_2 107 rfl rfl, xTw_1 3 rfl rfl, ⟨by decide, by decide⟩, by decide +kernel⟩
theorem xq_La_boards : xcw Y_La_boards 3 := ⟨xTw_2 110 rfl rfl, xTw_1 0 rfl rfl, ⟨by decide, by decide⟩, by decide +kernel⟩
theorem xq_RF_boards : xcw Y_RF_boards 1 := ⟨xTw_2 114 rfl rfl, xTw_1 1 rfl rfl, ⟨by decide, by decide⟩, by decide +kernel⟩
theorem xq_La_bin : xcw Y_La_bin 4 := ⟨xTw_2 117 rfl rfl, xTw_1 0 rfl rfl, ⟨by decide, by decide⟩, by decide +kernel⟩
theorem xq_RF_bin : xcw Y_RF_bin 2 := ⟨xTw_2 121 rfl rfl, xTw_1 1 rfl rfl, ⟨by decide, by decide⟩, by decide +kernel⟩
theorem xq_La_pour : xcw Y_La_pour 5 := ⟨xTw_2 127 rfl rfl, xTw_1 0 rfl rfl, ⟨by decide, by decide⟩, by decide +kernel⟩
theorem xq_RF_pour : xcw Y_RF_pour 3 := ⟨xTw_2 131 rfl rfl, xTw_1 1 rfl rfl, ⟨by decide, by decide⟩, by decide +kernel⟩
theorem xq_RF_binAt : xcw Y_RF_binAt 1 := ⟨xTw_2 135 rfl rfl, xTw_1 1 rfl rfl, ⟨by decide, by decide⟩, by decide +kernel⟩
theorem xq_RF_checkPoured : xcw Y_RF_checkPoured 2 := ⟨xTw_2 139 rfl rfl, xTw_1 1 rfl rfl, ⟨by decide, by decide⟩, by decide +kernel⟩
theorem xq_Bi_hasRoom : xcw Y_Bi_hasRoom 1 := ⟨xTw_2 144 rfl rfl, xTw_1 4 rfl rfl, ⟨by decide, by decide⟩, by decide +kernel⟩
theorem xq_Bi_grams : xcw Y_Bi_grams 0 := ⟨xTw_2 148 rfl rfl, xTw_1 4 rfl rfl, ⟨by decide, by decide⟩, by decide +kernel⟩
theorem xq_RF_pourInto : xcw Y_RF_pourInto 3 := ⟨xTw_2 153 rfl rfl, xTw_1 1 rfl rfl, ⟨by decide, by decide⟩, by decide +kernel⟩
theorem xq_Bi_change : xcw Y_Bi_change 2 := ⟨xTw_2 157 rfl rfl, xTw_1 4 rfl rfl, ⟨by decide, by decide⟩, by decide +kernel⟩
theorem xq_La_about : xcw Y_La_about 4 := ⟨xTw_2 161 rfl rfl, xTw_1 0 rfl rfl, ⟨by decide, by decide⟩, by decide +kernel⟩
theorem xq_RF_about : xcw Y_RF_about 2 := ⟨xTw_2 165 rfl rfl, xTw_1 1 rfl rfl, ⟨by decide, by decide⟩, by decide +kernel⟩
theorem xq_La_screen : xcw Y_La_screen 7 := ⟨xTw_2 170 rfl rfl, xTw_1 0 rfl rfl, ⟨by decide, by decide⟩, by decide +kernel⟩
theorem xq_RF_screen : xcw Y_RF_screen 6 := ⟨xTw_2 174 rfl rfl, xTw_1 1 rfl rfl, ⟨by decide, by decide⟩, by decide +kernel⟩
theorem xq_RF_screenAt : xcw Y_RF_screenAt 1 := ⟨xTw_2 178 rfl rfl, xTw_1 1 rfl rfl, ⟨by decide, by decide⟩, by decide +kernel⟩
theorem xq_Sc_tell : xcw Y_Sc_tell 5 := ⟨xTw_2 187 rfl rfl, xTw_1 5 rfl rfl, ⟨by decide, by decide⟩, by decide +kernel⟩
theorem xq_La_send : xcw Y_La_send 5 := ⟨xTw_2 190 rfl rfl, xTw_1 0 rfl rfl, ⟨by decide, by decide⟩, by decide +kernel⟩
theorem xq_RF_send : xcw Y_RF_send 3 := ⟨xTw_2 194 rfl rfl, xTw_1 1 rfl rfl, ⟨by decide, by decide⟩, by decide +kernel⟩
theorem xq_La_scale : xcw Y_La_scale 3 := ⟨xTw_2 198 rfl rfl, xTw_1 0 rfl rfl, ⟨by decide, by decide⟩, by decide +kernel⟩
theorem xq_RF_scale : xcw Y_RF_scale 2 := ⟨xTw_2 202 rfl rfl, xTw_1 1 rfl rfl, ⟨by decide, by decide⟩, by decide +kernel⟩
theorem xq_La_shift : xcw Y_La_shift 3 := ⟨xTw_2 207 rfl rfl, xTw_1 0 rfl rfl, ⟨by decide, by decide⟩, by decide +kernel⟩
theorem xq_RF_shift : xcw Y_RF_shift 1 := ⟨xTw_2 211 rfl rfl, xTw_1 1 rfl rfl, ⟨by decide, by decide⟩, by decide +kernel⟩
theorem xq_RF_gramsLost : xcw Y_RF_gramsLost 0 := ⟨xTw_2 215 rfl rfl, xTw_1 1 rfl rfl, ⟨by decide, by decide⟩, by decide +kernel⟩
theorem xq_La_row : xcw Y_La_row 4 := ⟨xTw_2 219 rfl rfl, xTw_1 0 rfl rfl, ⟨by decide, by decide⟩, by decide +kernel⟩
theorem xq_RF_row : xcw Y_RF_row 2 := ⟨xTw_2 223 rfl rfl, xTw_1 1 rfl rfl, ⟨by decide, by decide⟩, by decide +kernel⟩
theorem xq_RF_checkDay : xcw Y_RF_checkDay 1 := ⟨xTw_2 226 rfl rfl, xTw_1 1 rfl rfl, ⟨by decide, by decide⟩, by decide +kernel⟩
theorem xq_Bo_lastDay : xcw Y_Bo_lastDay 0 := ⟨xTw_2 231 rfl rfl, xTw_1 6 rfl rfl, ⟨by decide, by decide⟩, by decide +kernel⟩
theorem xq_Bo_add : xcw Y_Bo_add 2 := ⟨xTw_2 236 rfl rfl, xTw_1 6 rfl rfl, ⟨by decide, by decide⟩, by decide +kernel⟩
theorem xq_La_burn : xcw Y_La_burn 5 := ⟨xTw_3 0 rfl rfl, xTw_1 0 rfl rfl, ⟨by decide, by decide⟩, by decide +kernel⟩
theorem xq_RF_burn : xcw Y_RF_burn 3 := ⟨xTw_3 4 rfl rfl, xTw_1 1 rfl rfl, ⟨by decide, by decide⟩, by decide +kernel⟩
theorem xq_RF_checkTaken : xcw Y_RF_checkTaken 1 := ⟨xTw_3 7 rfl rfl, xTw_1 1 rfl rfl, ⟨by decide, by decide⟩, by decide +kernel⟩
theorem xq_RF_checkEnough : xcw Y_RF_checkEnough 2 := ⟨xTw_3 11 rfl rfl, xTw_1 1 rfl rfl, ⟨by decide, by decide⟩, by decide +kernel⟩
theorem xq_Bi_waterIn : xcw Y_Bi_waterIn 1 := ⟨xTw_3 16 rfl rfl, xTw_1 4 rfl rfl, ⟨by decide, by decide⟩, by decide +kernel⟩
theorem xq_Bi_dryIn : xcw Y_Bi_dryIn 1 := ⟨xTw_3 21 rfl rfl, xTw_1 4 rfl rfl, ⟨by decide, by decide⟩, by decide +kernel⟩
theorem xq_RF_takeAway : xcw Y_RF_takeAway 3 := ⟨xTw_3 26 rfl rfl, xTw_1 1 rfl rfl, ⟨by decide, by decide⟩, by decide +kernel⟩
theorem xq_Bo_percentAt : xcw Y_Bo_percentAt 1 := ⟨xTw_3 32 rfl rfl, xTw_1 6 rfl rfl, ⟨by decide, by decide⟩, by decide +kernel⟩
theorem xq_La_sell : xcw Y_La_sell 5 := ⟨xTw_3 36 rfl rfl, xTw_1 0 rfl rfl, ⟨by decide, by decide⟩, by decide +kernel⟩
theorem xq_RF_sell : xcw Y_RF_sell 3 := ⟨xTw_3 40 rfl rfl, xTw_1 1 rfl rfl, ⟨by decide, by decide⟩, by decide +kernel⟩
theorem xq_La_span : xcw Y_La_span 4 := ⟨xTw_3 45 rfl rfl, xTw_1 0 rfl rfl, ⟨by decide, by decide⟩, by decide +kernel⟩
theorem xq_RF_span : xcw Y_RF_span 3 := ⟨xTw_3 49 rfl rfl, xTw_1 1 rfl rfl, ⟨by decide, by decide⟩, by decide +kernel⟩
theorem xq_La_mix : xcw Y_La_mix 5 := ⟨xTw_3 53 rfl rfl, xTw_1 0 rfl rfl, ⟨by decide, by decide⟩, by decide +kernel⟩
theorem xq_RF_mix : xcw Y_RF_mix 3 := ⟨xTw_3 57 rfl rfl, xTw_1 1 rfl rfl, ⟨by decide, by decide⟩, by decide +kernel⟩
theorem xq_Bi_spanAllows : xcw Y_Bi_spanAllows 2 := ⟨xTw_3 62 rfl rfl, xTw_1 4 rfl rfl, ⟨by decide, by decide⟩, by decide +kernel⟩
theorem xq_Mo_init : xcw Y_Mo_init 0 := ⟨xTw_3 67 rfl rfl, xTw_1 7 rfl rfl, ⟨by decide, by decide⟩, by decide +kernel⟩
theorem xq_Mo_thrown : xcw Y_Mo_thrown 0 := ⟨xTw_3 151 rfl rfl, xTw_1 7 rfl rfl, ⟨by decide, by decide⟩, by decide +kernel⟩
theorem xq_Mo_share : xcw Y_Mo_share 3 := ⟨xTw_3 155 rfl rfl, xTw_1 7 rfl rfl, ⟨by decide, by decide⟩, by decide +kernel⟩
theorem xq_Mo_isIn : xcw Y_Mo_isIn 3 := ⟨xTw_3 159 rfl rfl, xTw_1 7 rfl rfl, ⟨by decide, by decide⟩, by decide +kernel⟩
theorem xq_Mo_log : xcw Y_Mo_log 3 := ⟨xTw_3 163 rfl rfl, xTw_1 7 rfl rfl, ⟨by decide, by decide⟩, by decide +kernel⟩
theorem xq_Mo_volume : xcw Y_Mo_volume 2 := ⟨xTw_3 170 rfl rfl, xTw_1 7 rfl rfl, ⟨by decide, by decide⟩, by decide +kernel⟩
theorem xq_Mo_boards : xcw Y_Mo_boards 1 := ⟨xTw_3 174 rfl rfl, xTw_1 7 rfl rfl, ⟨by decide, by decide⟩, by decide +kernel⟩
theorem xq_Mo_bin : xcw Y_Mo_bin 2 := ⟨xTw_3 178 rfl rfl, xTw_1 7 rfl rfl, ⟨by decide, by decide⟩, by decide +kernel⟩
theorem xq_Mo_pour : xcw Y_Mo_pour 3 := ⟨xTw_3 183 rfl rfl, xTw_1 7 rfl rfl, ⟨by decide, by decide⟩, by decide +kernel⟩
theorem xq_Mo_noBin : xcw Y_Mo_noBin 1 := ⟨xTw_3 187 rfl rfl, xTw_1 7 rfl rfl, ⟨by decide, by decide⟩, by decide +kernel⟩
theorem xq_Mo_isPoured : xcw Y_Mo_isPoured 2 := ⟨xTw_3 190 rfl rfl, xTw_1 7 rfl rfl, ⟨by decide, by decide⟩, by decide +kernel⟩
theorem xq_Mo_hasRoom : xcw Y_Mo_hasRoom 2 := ⟨xTw_3 194 rfl rfl, xTw_1 7 rfl rfl, ⟨by decide, by decide⟩, by decide +kernel⟩
theorem xq_Mo_all : xcw Y_Mo_all 1 := ⟨xTw_3 198 rfl rfl, xTw_1 7 rfl rfl, ⟨by decide, by decide⟩, by decide +kernel⟩
theorem xq_Mo_add : xcw Y_Mo_add 3 := ⟨xTw_3 202 rfl rfl, xTw_1 7 rfl rfl, ⟨by decide, by decide⟩, by decide +kernel⟩
theorem xq_Mo_about : xcw Y_Mo_about 2 := ⟨xTw_3 206 rfl rfl, xTw_1 7 rfl rfl, ⟨by decide, by decide⟩, by decide +kernel⟩
theorem xq_Mo_screen : xcw Y_Mo_screen 6 := ⟨xTw_3 210 rfl rfl, xTw_1 7 rfl rfl, ⟨by decide, by decide⟩, by decide +kernel⟩
theorem xq_Mo_send : xcw Y_Mo_send 3 := ⟨xTw_3 215 rfl rfl, xTw_1 7 rfl rfl, ⟨by decide, by decide⟩, by decide +kernel⟩
theorem xq_Mo_part : xcw Y_Mo_part 3 := ⟨xTw_3 219 rfl rfl, xTw_1 7 rfl rfl, ⟨by decide, by decide⟩, by decide +kernel⟩
theorem xq_Mo_others : xcw Y_Mo_others 2 := ⟨xTw_3 223 rfl rfl, xTw_1 7 rfl rfl, ⟨by decide, by decide⟩, by decide +kernel⟩
theorem xq_Mo_scale : xcw Y_Mo_scale 2 := ⟨xTw_3 227 rfl rfl, xTw_1 7 rfl rfl, ⟨by decide, by decide⟩, by decide +kernel⟩
theorem xq_Mo_shift : xcw Y_Mo_shift 1 := ⟨xTw_3 232 rfl rfl, xTw_1 7 rfl rfl, ⟨by decide, by decide⟩, by decide +kernel⟩
theorem xq_Mo_begin : xcw Y_Mo_begin 0 := ⟨xTw_3 236 rfl rfl, xTw_1 7 rfl rfl, ⟨by decide, by decide⟩, by decide +kernel⟩
theorem xq_Mo_row : xcw Y_Mo_row 2 := ⟨xTw_4 0 rfl rfl, xTw_1 7 rfl rfl, ⟨by decide, by decide⟩, by decide +kernel⟩
theorem xq_Mo_burn : xcw Y_Mo_burn 3 := ⟨xTw_4 6 rfl rfl, xTw_1 7 rfl rfl, ⟨by decide, by decide⟩, by decide +kernel⟩
theorem xq_Mo_has : xcw Y_Mo_has 2 := ⟨xTw_4 10 rfl rfl, xTw_1 7 rfl rfl, ⟨by decide, by decide⟩, by decide +kernel⟩
theorem xq_Mo_take : xcw Y_Mo_take 2 := ⟨xTw_4 14 rfl rfl, xTw_1 7 rfl rfl, ⟨by decide, by decide⟩, by decide +kernel⟩
theorem xq_Mo_goes : xcw Y_Mo_goes 1 := ⟨xTw_4 18 rfl rfl, xTw_1 7 rfl rfl, ⟨by decide, by decide⟩, by decide +kernel⟩
theorem xq_Mo_sell : xcw Y_Mo_sell 3 := ⟨xTw_4 25 rfl rfl, xTw_1 7 rfl rfl, ⟨by decide, by decide⟩, by decide +kernel⟩
theorem xq_Mo_span : xcw Y_Mo_span 3 := ⟨xTw_4 29 rfl rfl, xTw_1 7 rfl rfl, ⟨by decide, by decide⟩, by decide +kernel⟩
theorem xq_Mo_mix : xcw Y_Mo_mix 3 := ⟨xTw_4 33 rfl rfl, xTw_1 7 rfl rfl, ⟨by decide, by decide⟩, by decide +kernel⟩
theorem xq_Mo_carbon : xcw Y_Mo_carbon 0 := ⟨xTw_4 37 rfl rfl, xTw_1 7 rfl rfl, ⟨by decide, by decide⟩, by decide +kernel⟩
theorem xl_RF_9 : Cond.methodLink "ResidueFlows" 9 ⟨"ResidueFlows$Share", "<init>", "(II)V"⟩ ∈ xTw ∧ Cond.instanceMethod ⟨"ResidueFlows$Share", "<init>", "(II)V"⟩ ∈ xTw := ⟨xTw_1 24 rfl rfl, xTw_1 25 rfl rfl⟩
theorem xl_RF_23 : Cond.methodLink "ResidueFlows" 23 ⟨"ResidueFlows$Parts", "<init>", "()V"⟩ ∈ xTw ∧ Cond.instanceMethod ⟨"ResidueFlows$Parts", "<init>", "()V"⟩ ∈ xTw := ⟨xTw_1 39 rfl rfl, xTw_1 40 rfl rfl⟩
theorem xl_RF_37 : Cond.methodLink "ResidueFlows" 37 ⟨"ResidueFlows$Bin", "<init>", "()V"⟩ ∈ xTw ∧ Cond.instanceMethod ⟨"ResidueFlows$Bin", "<init>", "()V"⟩ ∈ xTw := ⟨xTw_1 63 rfl rfl, xTw_1 64 rfl rfl⟩
theorem xl_RF_44 : Cond.methodLink "ResidueFlows" 44 ⟨"ResidueFlows$Screen", "<init>", "()V"⟩ ∈ xTw ∧ Cond.instanceMethod ⟨"ResidueFlows$Screen", "<init>", "()V"⟩ ∈ xTw := ⟨xTw_1 99 rfl rfl, xTw_1 100 rfl rfl⟩
theorem xl_RF_47 : Cond.methodLink "ResidueFlows" 47 ⟨"ResidueFlows$Boiler", "<init>", "()V"⟩ ∈ xTw ∧ Cond.instanceMethod ⟨"ResidueFlows$Boiler", "<init>", "()V"⟩ ∈ xTw := ⟨xTw_1 130 rfl rfl, xTw_1 131 rfl rfl⟩
theorem xc_RF_75 : xcv "ResidueFlows" 75 Y_Sh_of 1 := ⟨xq_Sh_of, xTw_2 55 rfl rfl, xTw_2 56 rfl rfl, xTw_2 57 rfl rfl⟩
theorem xc_RF_83 : xcv "ResidueFlows" 83 Y_Pa_tell 5 := ⟨xq_Pa_tell, xTw_2 64 rfl rfl, xTw_2 65 rfl rfl, xTw_2 66 rfl rfl⟩
theorem xc_RF_87 : xcv "ResidueFlows" 87 Y_Pa_add 1 := ⟨xq_Pa_add, xTw_2 68 rfl rfl, xTw_2 69 rfl rfl, xTw_2 70 rfl rfl⟩
theorem xc_RF_94 : xcs "ResidueFlows" 94 Y_RF_checkKind 1 := ⟨xq_RF_checkKind, xTw_2 80 rfl rfl, xTw_2 81 rfl rfl⟩
theorem xc_RF_98 : xcv "ResidueFlows" 98 Y_RF_checkLogs 0 := ⟨xq_RF_checkLogs, xTw_2 84 rfl rfl, xTw_2 86 rfl rfl, xTw_p 1 rfl rfl⟩
theorem xc_RF_101 : xcv "ResidueFlows" 101 Y_Pa_ofKind 1 := ⟨xq_Pa_ofKind, xTw_2 104 rfl rfl, xTw_2 105 rfl rfl, xTw_2 106 rfl rfl⟩
theorem xc_RF_126 : xcv "ResidueFlows" 126 Y_RF_binAt 1 := ⟨xq_RF_binAt, xTw_2 132 rfl rfl, xTw_2 134 rfl rfl, xTw_p 2 rfl rfl⟩
theorem xc_RF_130 : xcs "ResidueFlows" 130 Y_RF_checkPoured 2 := ⟨xq_RF_checkPoured, xTw_2 137 rfl rfl, xTw_2 138 rfl rfl⟩
theorem xc_RF_133 : xcv "ResidueFlows" 133 Y_Bi_hasRoom 1 := ⟨xq_Bi_hasRoom, xTw_2 141 rfl rfl, xTw_2 142 rfl rfl, xTw_2 143 rfl rfl⟩
theorem xc_RF_137 : xcv "ResidueFlows" 137 Y_RF_pourInto 3 := ⟨xq_RF_pourInto, xTw_2 150 rfl rfl, xTw_2 152 rfl rfl, xTw_p 3 rfl rfl⟩
theorem xc_RF_150 : xcv "ResidueFlows" 150 Y_Bi_grams 0 := ⟨xq_Bi_grams, xTw_2 166 rfl rfl, xTw_2 146 rfl rfl, xTw_2 147 rfl rfl⟩
theorem xc_RF_156 : xcv "ResidueFlows" 156 Y_RF_screenAt 1 := ⟨xq_RF_screenAt, xTw_2 175 rfl rfl, xTw_2 177 rfl rfl, xTw_p 4 rfl rfl⟩
theorem xc_RF_168 : xcv "ResidueFlows" 168 Y_Sc_tell 5 := ⟨xq_Sc_tell, xTw_2 184 rfl rfl, xTw_2 185 rfl rfl, xTw_2 186 rfl rfl⟩
theorem xc_RF_196 : xcv "ResidueFlows" 196 Y_RF_gramsLost 0 := ⟨xq_RF_gramsLost, xTw_2 212 rfl rfl, xTw_2 214 rfl rfl, xTw_p 5 rfl rfl⟩
theorem xc_RF_212 : xcs "ResidueFlows" 212 Y_RF_checkDay 1 := ⟨xq_RF_checkDay, xTw_2 224 rfl rfl, xTw_2 225 rfl rfl⟩
theorem xc_RF_215 : xcv "ResidueFlows" 215 Y_Bo_lastDay 0 := ⟨xq_Bo_lastDay, xTw_2 228 rfl rfl, xTw_2 229 rfl rfl, xTw_2 230 rfl rfl⟩
theorem xc_RF_221 : xcv "ResidueFlows" 221 Y_Bo_add 2 := ⟨xq_Bo_add, xTw_2 233 rfl rfl, xTw_2 234 rfl rfl, xTw_2 235 rfl rfl⟩
theorem xc_RF_229 : xcs "ResidueFlows" 229 Y_RF_checkTaken 1 := ⟨xq_RF_checkTaken, xTw_3 5 rfl rfl, xTw_3 6 rfl rfl⟩
theorem xc_RF_232 : xcs "ResidueFlows" 232 Y_RF_checkEnough 2 := ⟨xq_RF_checkEnough, xTw_3 9 rfl rfl, xTw_3 10 rfl rfl⟩
theorem xc_RF_236 : xcv "ResidueFlows" 236 Y_Bi_waterIn 1 := ⟨xq_Bi_waterIn, xTw_3 13 rfl rfl, xTw_3 14 rfl rfl, xTw_3 15 rfl rfl⟩
theorem xc_RF_239 : xcv "ResidueFlows" 239 Y_Bi_dryIn 1 := ⟨xq_Bi_dryIn, xTw_3 18 rfl rfl, xTw_3 19 rfl rfl, xTw_3 20 rfl rfl⟩
theorem xc_RF_242 : xcv "ResidueFlows" 242 Y_RF_takeAway 3 := ⟨xq_RF_takeAway, xTw_3 23 rfl rfl, xTw_3 25 rfl rfl, xTw_p 6 rfl rfl⟩
theorem xc_RF_250 : xcv "ResidueFlows" 250 Y_Bo_percentAt 1 := ⟨xq_Bo_percentAt, xTw_3 29 rfl rfl, xTw_3 30 rfl rfl, xTw_3 31 rfl rfl⟩
theorem xc_RF_270 : xcv "ResidueFlows" 270 Y_Bi_spanAllows 2 := ⟨xq_Bi_spanAllows, xTw_3 59 rfl rfl, xTw_3 60 rfl rfl, xTw_3 61 rfl rfl⟩
theorem xc_RF_274 : xcv "ResidueFlows" 274 Y_Bi_change 2 := ⟨xq_Bi_change, xTw_2 154 rfl rfl, xTw_2 155 rfl rfl, xTw_2 156 rfl rfl⟩
theorem xc_Bi_27 : xcv "ResidueFlows$Bin" 27 Y_Bi_grams 0 := ⟨xq_Bi_grams, xTw_2 145 rfl rfl, xTw_2 146 rfl rfl, xTw_2 147 rfl rfl⟩
theorem xc_Bi_36 : xcn "ResidueFlows$Bin" 36 Y_RF_portion 3 "ResidueFlows" := ⟨xq_RF_portion, by decide +kernel, xTw_2 60 rfl rfl⟩
theorem xc_Bi_40 : xcv "ResidueFlows$Bin" 40 Y_Bi_waterIn 1 := ⟨xq_Bi_waterIn, xTw_3 22 rfl rfl, xTw_3 14 rfl rfl, xTw_3 15 rfl rfl⟩
theorem xc_Sh_16 : xcn "ResidueFlows$Share" 16 Y_RF_portion 3 "ResidueFlows" := ⟨xq_RF_portion, by decide +kernel, xTw_2 60 rfl rfl⟩
theorem xc_La_7 : xcv "ResidueFlowsLaw" 7 Y_RF_share 3 := ⟨xq_RF_share, xTw_1 198 rfl rfl, xTw_1 199 rfl rfl, xTw_1 200 rfl rfl⟩
theorem xc_La_17 : xcv "ResidueFlowsLaw" 17 Y_RF_log 3 := ⟨xq_RF_log, xTw_2 49 rfl rfl, xTw_2 50 rfl rfl, xTw_2 51 rfl rfl⟩
theorem xc_La_21 : xcv "ResidueFlowsLaw" 21 Y_RF_volume 2 := ⟨xq_RF_volume, xTw_2 76 rfl rfl, xTw_2 77 rfl rfl, xTw_2 78 rfl rfl⟩
theorem xc_La_27 : xcv "ResidueFlowsLaw" 27 Y_RF_boards 1 := ⟨xq_RF_boards, xTw_2 111 rfl rfl, xTw_2 112 rfl rfl, xTw_2 113 rfl rfl⟩
theorem xc_La_31 : xcv "ResidueFlowsLaw" 31 Y_RF_bin 2 := ⟨xq_RF_bin, xTw_2 118 rfl rfl, xTw_2 119 rfl rfl, xTw_2 120 rfl rfl⟩
theorem xc_La_35 : xcv "ResidueFlowsLaw" 35 Y_RF_pour 3 := ⟨xq_RF_pour, xTw_2 128 rfl rfl, xTw_2 129 rfl rfl, xTw_2 130 rfl rfl⟩
theorem xc_La_39 : xcv "ResidueFlowsLaw" 39 Y_RF_about 2 := ⟨xq_RF_about, xTw_2 162 rfl rfl, xTw_2 163 rfl rfl, xTw_2 164 rfl rfl⟩
theorem xc_La_43 : xcv "ResidueFlowsLaw" 43 Y_RF_screen 6 := ⟨xq_RF_screen, xTw_2 171 rfl rfl, xTw_2 172 rfl rfl, xTw_2 173 rfl rfl⟩
theorem xc_La_47 : xcv "ResidueFlowsLaw" 47 Y_RF_send 3 := ⟨xq_RF_send, xTw_2 191 rfl rfl, xTw_2 192 rfl rfl, xTw_2 193 rfl rfl⟩
theorem xc_La_50 : xcv "ResidueFlowsLaw" 50 Y_RF_scale 2 := ⟨xq_RF_scale, xTw_2 199 rfl rfl, xTw_2 200 rfl rfl, xTw_2 201 rfl rfl⟩
theorem xc_La_54 : xcv "ResidueFlowsLaw" 54 Y_RF_shift 1 := ⟨xq_RF_shift, xTw_2 208 rfl rfl, xTw_2 209 rfl rfl, xTw_2 210 rfl rfl⟩
theorem xc_La_58 : xcv "ResidueFlowsLaw" 58 Y_RF_row 2 := ⟨xq_RF_row, xTw_2 220 rfl rfl, xTw_2 221 rfl rfl, xTw_2 222 rfl rfl⟩
theorem xc_La_61 : xcv "ResidueFlowsLaw" 61 Y_RF_burn 3 := ⟨xq_RF_burn, xTw_3 1 rfl rfl, xTw_3 2 rfl rfl, xTw_3 3 rfl rfl⟩
theorem xc_La_65 : xcv "ResidueFlowsLaw" 65 Y_RF_sell 3 := ⟨xq_RF_sell, xTw_3 37 rfl rfl, xTw_3 38 rfl rfl, xTw_3 39 rfl rfl⟩
theorem xc_La_68 : xcv "ResidueFlowsLaw" 68 Y_RF_span 3 := ⟨xq_RF_span, xTw_3 46 rfl rfl, xTw_3 47 rfl rfl, xTw_3 48 rfl rfl⟩
theorem xc_La_71 : xcv "ResidueFlowsLaw" 71 Y_RF_mix 3 := ⟨xq_RF_mix, xTw_3 54 rfl rfl, xTw_3 55 rfl rfl, xTw_3 56 rfl rfl⟩
theorem xl_La_74 : Cond.methodLink "ResidueFlowsLaw" 74 ⟨"ResidueFlows", "<init>", "()V"⟩ ∈ xTw ∧ Cond.instanceMethod ⟨"ResidueFlows", "<init>", "()V"⟩ ∈ xTw := ⟨xTw_1 16 rfl rfl, xTw_1 17 rfl rfl⟩
theorem xl_La_77 : Cond.methodLink "ResidueFlowsLaw" 77 ⟨"ResidueFlowsModel", "<init>", "()V"⟩ ∈ xTw ∧ Cond.instanceMethod ⟨"ResidueFlowsModel", "<init>", "()V"⟩ ∈ xTw := ⟨xTw_3 65 rfl rfl, xTw_3 66 rfl rfl⟩
theorem xc_La_78 : xcs "ResidueFlowsLaw" 78 Y_La_share 4 := ⟨xq_La_share, xTw_1 193 rfl rfl, xTw_1 194 rfl rfl⟩
theorem xc_La_83 : xcv "ResidueFlowsLaw" 83 Y_Mo_share 3 := ⟨xq_Mo_share, xTw_3 152 rfl rfl, xTw_3 153 rfl rfl, xTw_3 154 rfl rfl⟩
theorem xc_La_84 : xcv "ResidueFlowsLaw" 84 Y_Mo_thrown 0 := ⟨xq_Mo_thrown, xTw_3 148 rfl rfl, xTw_3 149 rfl rfl, xTw_3 150 rfl rfl⟩
theorem xc_La_88 : xcs "ResidueFlowsLaw" 88 Y_La_log 5 := ⟨xq_La_log, xTw_2 46 rfl rfl, xTw_2 47 rfl rfl⟩
theorem xc_La_91 : xcv "ResidueFlowsLaw" 91 Y_Mo_log 3 := ⟨xq_Mo_log, xTw_3 160 rfl rfl, xTw_3 161 rfl rfl, xTw_3 162 rfl rfl⟩
theorem xc_La_92 : xcs "ResidueFlowsLaw" 92 Y_La_volume 4 := ⟨xq_La_volume, xTw_2 72 rfl rfl, xTw_2 73 rfl rfl⟩
theorem xc_La_95 : xcv "ResidueFlowsLaw" 95 Y_Mo_volume 2 := ⟨xq_Mo_volume, xTw_3 167 rfl rfl, xTw_3 168 rfl rfl, xTw_3 169 rfl rfl⟩
theorem xc_La_96 : xcs "ResidueFlowsLaw" 96 Y_La_boards 3 := ⟨xq_La_boards, xTw_2 108 rfl rfl, xTw_2 109 rfl rfl⟩
theorem xc_La_99 : xcv "ResidueFlowsLaw" 99 Y_Mo_boards 1 := ⟨xq_Mo_boards, xTw_3 171 rfl rfl, xTw_3 172 rfl rfl, xTw_3 173 rfl rfl⟩
theorem xc_La_100 : xcs "ResidueFlowsLaw" 100 Y_La_bin 4 := ⟨xq_La_bin, xTw_2 115 rfl rfl, xTw_2 116 rfl rfl⟩
theorem xc_La_103 : xcv "ResidueFlowsLaw" 103 Y_Mo_bin 2 := ⟨xq_Mo_bin, xTw_3 175 rfl rfl, xTw_3 176 rfl rfl, xTw_3 177 rfl rfl⟩
theorem xc_La_104 : xcs "ResidueFlowsLaw" 104 Y_La_pour 5 := ⟨xq_La_pour, xTw_2 125 rfl rfl, xTw_2 126 rfl rfl⟩
theorem xc_La_106 : xcv "ResidueFlowsLaw" 106 Y_Mo_pour 3 := ⟨xq_Mo_pour, xTw_3 180 rfl rfl, xTw_3 181 rfl rfl, xTw_3 182 rfl rfl⟩
theorem xc_La_107 : xcs "ResidueFlowsLaw" 107 Y_La_about 4 := ⟨xq_La_about, xTw_2 159 rfl rfl, xTw_2 160 rfl rfl⟩
theorem xc_La_109 : xcv "ResidueFlowsLaw" 109 Y_Mo_about 2 := ⟨xq_Mo_about, xTw_3 203 rfl rfl, xTw_3 204 rfl rfl, xTw_3 205 rfl rfl⟩
theorem xc_La_110 : xcs "ResidueFlowsLaw" 110 Y_La_screen 7 := ⟨xq_La_screen, xTw_2 168 rfl rfl, xTw_2 169 rfl rfl⟩
theorem xc_La_113 : xcv "ResidueFlowsLaw" 113 Y_Mo_screen 6 := ⟨xq_Mo_screen, xTw_3 207 rfl rfl, xTw_3 208 rfl rfl, xTw_3 209 rfl rfl⟩
theorem xc_La_114 : xcs "ResidueFlowsLaw" 114 Y_La_send 5 := ⟨xq_La_send, xTw_2 188 rfl rfl, xTw_2 189 rfl rfl⟩
theorem xc_La_116 : xcv "ResidueFlowsLaw" 116 Y_Mo_send 3 := ⟨xq_Mo_send, xTw_3 212 rfl rfl, xTw_3 213 rfl rfl, xTw_3 214 rfl rfl⟩
theorem xc_La_119 : xcs "ResidueFlowsLaw" 119 Y_La_scale 3 := ⟨xq_La_scale, xTw_2 196 rfl rfl, xTw_2 197 rfl rfl⟩
theorem xc_La_122 : xcv "ResidueFlowsLaw" 122 Y_Mo_scale 2 := ⟨xq_Mo_scale, xTw_3 224 rfl rfl, xTw_3 225 rfl rfl, xTw_3 226 rfl rfl⟩
theorem xc_La_123 : xcs "ResidueFlowsLaw" 123 Y_La_shift 3 := ⟨xq_La_shift, xTw_2 205 rfl rfl, xTw_2 206 rfl rfl⟩
theorem xc_La_126 : xcv "ResidueFlowsLaw" 126 Y_Mo_shift 1 := ⟨xq_Mo_shift, xTw_3 229 rfl rfl, xTw_3 230 rfl rfl, xTw_3 231 rfl rfl⟩
theorem xc_La_127 : xcv "ResidueFlowsLaw" 127 Y_RF_begin 0 := ⟨xq_RF_begin, xTw_1 183 rfl rfl, xTw_1 184 rfl rfl, xTw_1 185 rfl rfl⟩
theorem xc_La_130 : xcv "ResidueFlowsLaw" 130 Y_Mo_begin 0 := ⟨xq_Mo_begin, xTw_3 233 rfl rfl, xTw_3 234 rfl rfl, xTw_3 235 rfl rfl⟩
theorem xc_La_131 : xcs "ResidueFlowsLaw" 131 Y_La_row 4 := ⟨xq_La_row, xTw_2 217 rfl rfl, xTw_2 218 rfl rfl⟩
theorem xc_La_133 : xcv "ResidueFlowsLaw" 133 Y_Mo_row 2 := ⟨xq_Mo_row, xTw_3 237 rfl rfl, xTw_3 238 rfl rfl, xTw_3 239 rfl rfl⟩
theorem xc_La_134 : xcs "ResidueFlowsLaw" 134 Y_La_burn 5 := ⟨xq_La_burn, xTw_2 238 rfl rfl, xTw_2 239 rfl rfl⟩
theorem xc_La_136 : xcv "ResidueFlowsLaw" 136 Y_Mo_burn 3 := ⟨xq_Mo_burn, xTw_4 3 rfl rfl, xTw_4 4 rfl rfl, xTw_4 5 rfl rfl⟩
theorem xc_La_137 : xcs "ResidueFlowsLaw" 137 Y_La_sell 5 := ⟨xq_La_sell, xTw_3 34 rfl rfl, xTw_3 35 rfl rfl⟩
theorem xc_La_139 : xcv "ResidueFlowsLaw" 139 Y_Mo_sell 3 := ⟨xq_Mo_sell, xTw_4 22 rfl rfl, xTw_4 23 rfl rfl, xTw_4 24 rfl rfl⟩
theorem xc_La_140 : xcs "ResidueFlowsLaw" 140 Y_La_span 4 := ⟨xq_La_span, xTw_3 43 rfl rfl, xTw_3 44 rfl rfl⟩
theorem xc_La_142 : xcv "ResidueFlowsLaw" 142 Y_Mo_span 3 := ⟨xq_Mo_span, xTw_4 26 rfl rfl, xTw_4 27 rfl rfl, xTw_4 28 rfl rfl⟩
theorem xc_La_143 : xcs "ResidueFlowsLaw" 143 Y_La_mix 5 := ⟨xq_La_mix, xTw_3 51 rfl rfl, xTw_3 52 rfl rfl⟩
theorem xc_La_145 : xcv "ResidueFlowsLaw" 145 Y_Mo_mix 3 := ⟨xq_Mo_mix, xTw_4 30 rfl rfl, xTw_4 31 rfl rfl, xTw_4 32 rfl rfl⟩
theorem xc_La_146 : xcv "ResidueFlowsLaw" 146 Y_RF_carbon 0 := ⟨xq_RF_carbon, xTw_1 188 rfl rfl, xTw_1 189 rfl rfl, xTw_1 190 rfl rfl⟩
theorem xc_La_150 : xcv "ResidueFlowsLaw" 150 Y_Mo_carbon 0 := ⟨xq_Mo_carbon, xTw_4 34 rfl rfl, xTw_4 35 rfl rfl, xTw_4 36 rfl rfl⟩
theorem xc_Mo_71 : xcs "ResidueFlowsModel" 71 Y_Mo_isIn 3 := ⟨xq_Mo_isIn, xTw_3 157 rfl rfl, xTw_3 158 rfl rfl⟩
theorem xc_Mo_86 : xcv "ResidueFlowsModel" 86 Y_Mo_all 1 := ⟨xq_Mo_all, xTw_3 195 rfl rfl, xTw_3 197 rfl rfl, xTw_p 9 rfl rfl⟩
theorem xc_Mo_94 : xcv "ResidueFlowsModel" 94 Y_Mo_noBin 1 := ⟨xq_Mo_noBin, xTw_3 184 rfl rfl, xTw_3 186 rfl rfl, xTw_p 7 rfl rfl⟩
theorem xc_Mo_98 : xcs "ResidueFlowsModel" 98 Y_Mo_isPoured 2 := ⟨xq_Mo_isPoured, xTw_3 188 rfl rfl, xTw_3 189 rfl rfl⟩
theorem xc_Mo_102 : xcv "ResidueFlowsModel" 102 Y_Mo_hasRoom 2 := ⟨xq_Mo_hasRoom, xTw_3 191 rfl rfl, xTw_3 193 rfl rfl, xTw_p 8 rfl rfl⟩
theorem xc_Mo_106 : xcv "ResidueFlowsModel" 106 Y_Mo_add 3 := ⟨xq_Mo_add, xTw_3 199 rfl rfl, xTw_3 201 rfl rfl, xTw_p 10 rfl rfl⟩
theorem xc_Mo_112 : xcv "ResidueFlowsModel" 112 Y_Mo_others 2 := ⟨xq_Mo_others, xTw_3 220 rfl rfl, xTw_3 222 rfl rfl, xTw_p 12 rfl rfl⟩
theorem xc_Mo_116 : xcv "ResidueFlowsModel" 116 Y_Mo_part 3 := ⟨xq_Mo_part, xTw_3 216 rfl rfl, xTw_3 218 rfl rfl, xTw_p 11 rfl rfl⟩
theorem xc_Mo_141 : xcv "ResidueFlowsModel" 141 Y_Mo_has 2 := ⟨xq_Mo_has, xTw_4 7 rfl rfl, xTw_4 9 rfl rfl, xTw_p 13 rfl rfl⟩
theorem xc_Mo_144 : xcv "ResidueFlowsModel" 144 Y_Mo_take 2 := ⟨xq_Mo_take, xTw_4 11 rfl rfl, xTw_4 13 rfl rfl, xTw_p 14 rfl rfl⟩
theorem xc_Mo_148 : xcv "ResidueFlowsModel" 148 Y_Mo_goes 1 := ⟨xq_Mo_goes, xTw_4 15 rfl rfl, xTw_4 17 rfl rfl, xTw_p 15 rfl rfl⟩
set_option maxRecDepth 100000 in
theorem xh_RF_52 : xth "ResidueFlows" 52 56 "java/lang/IndexOutOfBoundsException" ["java/lang/RuntimeException", "java/lang/Exception"] := ⟨by decide +kernel, xTw_1 202 rfl rfl, xTw_1 203 rfl rfl, xTw_1 11 rfl rfl, by decide +kernel, by decide +kernel, by decide⟩
set_option maxRecDepth 100000 in
theorem xh_RF_59 : xth "ResidueFlows" 59 63 "java/lang/IllegalArgumentException" ["java/lang/RuntimeException", "java/lang/Exception"] := ⟨by decide +kernel, xTw_2 30 rfl rfl, xTw_2 31 rfl rfl, xTw_1 12 rfl rfl, by decide +kernel, by decide +kernel, by decide⟩
set_option maxRecDepth 100000 in
theorem xh_RF_115 : xth "ResidueFlows" 115 119 "java/lang/IllegalStateException" ["java/lang/RuntimeException", "java/lang/Exception"] := ⟨by decide +kernel, xTw_2 88 rfl rfl, xTw_2 89 rfl rfl, xTw_1 13 rfl rfl, by decide +kernel, by decide +kernel, by decide⟩
theorem xs_RF_54 : ("ResidueFlows", 54, "no such share") ∈ xTs := List.mem_of_getElem? (i := 0) rfl
theorem xs_RF_61 : ("ResidueFlows", 61, "not a share") ∈ xTs := List.mem_of_getElem? (i := 1) rfl
theorem xs_RF_71 : ("ResidueFlows", 71, "not a log") ∈ xTs := List.mem_of_getElem? (i := 2) rfl
theorem xs_RF_81 : ("ResidueFlows", 81, "boards and kerf are more than the log") ∈ xTs := List.mem_of_getElem? (i := 3) rfl
theorem xs_RF_110 : ("ResidueFlows", 110, "not what a bin can hold") ∈ xTs := List.mem_of_getElem? (i := 4) rfl
theorem xs_RF_117 : ("ResidueFlows", 117, "no room for a bin more") ∈ xTs := List.mem_of_getElem? (i := 5) rfl
theorem xs_RF_154 : ("ResidueFlows", 154, "nothing such is told of a bin") ∈ xTs := List.mem_of_getElem? (i := 6) rfl
theorem xs_RF_160 : ("ResidueFlows", 160, "two bins are one") ∈ xTs := List.mem_of_getElem? (i := 7) rfl
theorem xs_RF_162 : ("ResidueFlows", 162, "bins of unlike kinds") ∈ xTs := List.mem_of_getElem? (i := 8) rfl
theorem xs_RF_166 : ("ResidueFlows", 166, "a share is below 0") ∈ xTs := List.mem_of_getElem? (i := 9) rfl
theorem xs_RF_175 : ("ResidueFlows", 175, "the screen was not told") ∈ xTs := List.mem_of_getElem? (i := 10) rfl
theorem xs_RF_194 : ("ResidueFlows", 194, "not a reading") ∈ xTs := List.mem_of_getElem? (i := 11) rfl
theorem xs_RF_208 : ("ResidueFlows", 208, "nothing such is told of a shift") ∈ xTs := List.mem_of_getElem? (i := 12) rfl
theorem xs_RF_219 : ("ResidueFlows", 219, "not a row behind the one before") ∈ xTs := List.mem_of_getElem? (i := 13) rfl
theorem xs_RF_224 : ("ResidueFlows", 224, "no room for a row more") ∈ xTs := List.mem_of_getElem? (i := 14) rfl
theorem xs_RF_256 : ("ResidueFlows", 256, "not a price") ∈ xTs := List.mem_of_getElem? (i := 15) rfl
theorem xs_RF_260 : ("ResidueFlows", 260, "not a span") ∈ xTs := List.mem_of_getElem? (i := 16) rfl
theorem xs_RF_268 : ("ResidueFlows", 268, "both bins are one") ∈ xTs := List.mem_of_getElem? (i := 17) rfl
theorem xs_RF_280 : ("ResidueFlows", 280, "no such kind") ∈ xTs := List.mem_of_getElem? (i := 18) rfl
theorem xs_RF_282 : ("ResidueFlows", 282, "there was no log") ∈ xTs := List.mem_of_getElem? (i := 19) rfl
theorem xs_RF_284 : ("ResidueFlows", 284, "not what can be poured") ∈ xTs := List.mem_of_getElem? (i := 20) rfl
theorem xs_RF_286 : ("ResidueFlows", 286, "not what can be taken") ∈ xTs := List.mem_of_getElem? (i := 21) rfl
theorem xs_RF_288 : ("ResidueFlows", 288, "not a day") ∈ xTs := List.mem_of_getElem? (i := 22) rfl
theorem xs_RF_292 : ("ResidueFlows", 292, "there is not so much") ∈ xTs := List.mem_of_getElem? (i := 23) rfl
theorem xs_RF_294 : ("ResidueFlows", 294, "no such bin") ∈ xTs := List.mem_of_getElem? (i := 24) rfl
theorem xs_RF_296 : ("ResidueFlows", 296, "no such screen") ∈ xTs := List.mem_of_getElem? (i := 25) rfl
theorem xi_RF_109 : Cond.constant "ResidueFlows" 109 (1000000) ∈ xTw := xTw_2 122 rfl rfl
theorem xj_RF_73 : Cond.constantLong "ResidueFlows" 73 (63504000) ∈ xTw := xTw_2 54 rfl rfl
theorem xj_RF_79 : Cond.constantLong "ResidueFlows" 79 (25200) ∈ xTw := xTw_2 62 rfl rfl
theorem xj_RF_164 : Cond.constantLong "ResidueFlows" 164 (60) ∈ xTw := xTw_2 182 rfl rfl
theorem xj_RF_192 : Cond.constantLong "ResidueFlows" 192 (1000000000000) ∈ xTw := xTw_2 203 rfl rfl
theorem xj_RF_210 : Cond.constantLong "ResidueFlows" 210 (-1) ∈ xTw := xTw_1 187 rfl rfl
theorem xj_RF_246 : Cond.constantLong "ResidueFlows" 246 (19) ∈ xTw := xTw_3 27 rfl rfl
theorem xj_RF_248 : Cond.constantLong "ResidueFlows" 248 (3) ∈ xTw := xTw_3 28 rfl rfl
theorem xj_RF_254 : Cond.constantLong "ResidueFlows" 254 (100) ∈ xTw := xTw_3 33 rfl rfl
theorem xj_RF_258 : Cond.constantLong "ResidueFlows" 258 (1000000) ∈ xTw := xTw_3 42 rfl rfl
theorem xj_RF_278 : Cond.constantLong "ResidueFlows" 278 (2) ∈ xTw := xTw_1 192 rfl rfl
theorem xj_RF_290 : Cond.constantLong "ResidueFlows" 290 (1000) ∈ xTw := xTw_2 158 rfl rfl
theorem xj_Bi_9 : Cond.constantLong "ResidueFlows$Bin" 9 (-1) ∈ xTw := xTw_1 67 rfl rfl
theorem xj_Bi_31 : Cond.constantLong "ResidueFlows$Bin" 31 (1000) ∈ xTw := xTw_2 149 rfl rfl
theorem xj_La_117 : Cond.constantLong "ResidueFlowsLaw" 117 (4294967295) ∈ xTw := xTw_4 39 rfl rfl
theorem xj_Mo_35 : Cond.constantLong "ResidueFlowsModel" 35 (-1) ∈ xTw := xTw_3 69 rfl rfl
theorem xj_Mo_69 : Cond.constantLong "ResidueFlowsModel" 69 (10) ∈ xTw := xTw_3 156 rfl rfl
theorem xj_Mo_75 : Cond.constantLong "ResidueFlowsModel" 75 (1000) ∈ xTw := xTw_3 164 rfl rfl
theorem xj_Mo_77 : Cond.constantLong "ResidueFlowsModel" 77 (63504000) ∈ xTw := xTw_3 165 rfl rfl
theorem xj_Mo_79 : Cond.constantLong "ResidueFlowsModel" 79 (25200) ∈ xTw := xTw_3 166 rfl rfl
theorem xj_Mo_84 : Cond.constantLong "ResidueFlowsModel" 84 (1000000) ∈ xTw := xTw_3 179 rfl rfl
theorem xj_Mo_110 : Cond.constantLong "ResidueFlowsModel" 110 (60) ∈ xTw := xTw_3 211 rfl rfl
theorem xj_Mo_120 : Cond.constantLong "ResidueFlowsModel" 120 (1000000000000) ∈ xTw := xTw_3 228 rfl rfl
theorem xj_Mo_128 : Cond.constantLong "ResidueFlowsModel" 128 (364) ∈ xTw := xTw_4 1 rfl rfl
theorem xj_Mo_133 : Cond.constantLong "ResidueFlowsModel" 133 (200) ∈ xTw := xTw_4 2 rfl rfl
theorem xj_Mo_152 : Cond.constantLong "ResidueFlowsModel" 152 (100) ∈ xTw := xTw_4 19 rfl rfl
theorem xj_Mo_154 : Cond.constantLong "ResidueFlowsModel" 154 (19) ∈ xTw := xTw_4 20 rfl rfl
theorem xj_Mo_156 : Cond.constantLong "ResidueFlowsModel" 156 (3) ∈ xTw := xTw_4 21 rfl rfl
theorem xj_Mo_158 : Cond.constantLong "ResidueFlowsModel" 158 (2) ∈ xTw := xTw_4 38 rfl rfl
theorem xa_La_share_I : xcat Y_La_share 4 "java/lang/IndexOutOfBoundsException" 10 := ⟨[], (0, 7, 10, 13), [(0, 7, 14, 15)], rfl, rfl, by decide, (fun u hu => absurd hu List.not_mem_nil), _, xTw_1 196 rfl rfl, by decide +kernel⟩
theorem xa_La_share_A : xcat Y_La_share 4 "java/lang/IllegalArgumentException" 14 := ⟨[(0, 7, 10, 13)], (0, 7, 14, 15), [], rfl, rfl, by decide, (fun u hu => by
  have hu := List.mem_singleton.mp hu; subst hu; exact ⟨_, xTw_1 196 rfl rfl, by decide +kernel⟩), _, xTw_1 197 rfl rfl, by decide +kernel⟩
theorem xa_La_log_A : xcat Y_La_log 7 "java/lang/IllegalArgumentException" 15 := ⟨[], (0, 12, 15, 15), [], rfl, rfl, by decide, (fun u hu => absurd hu List.not_mem_nil), _, xTw_1 197 rfl rfl, by decide +kernel⟩
theorem xa_La_volume_I : xcat Y_La_volume 5 "java/lang/IndexOutOfBoundsException" 12 := ⟨[], (0, 9, 12, 13), [(0, 9, 16, 25)], rfl, rfl, by decide, (fun u hu => absurd hu List.not_mem_nil), _, xTw_1 196 rfl rfl, by decide +kernel⟩
theorem xa_La_volume_S : xcat Y_La_volume 5 "java/lang/IllegalStateException" 16 := ⟨[(0, 9, 12, 13)], (0, 9, 16, 25), [], rfl, rfl, by decide, (fun u hu => by
  have hu := List.mem_singleton.mp hu; subst hu; exact ⟨_, xTw_1 196 rfl rfl, by decide +kernel⟩), _, xTw_2 75 rfl rfl, by decide +kernel⟩
theorem xa_La_boards_S : xcat Y_La_boards 4 "java/lang/IllegalStateException" 11 := ⟨[], (0, 8, 11, 25), [], rfl, rfl, by decide, (fun u hu => absurd hu List.not_mem_nil), _, xTw_2 75 rfl rfl, by decide +kernel⟩
theorem xa_La_bin_I : xcat Y_La_bin 5 "java/lang/IndexOutOfBoundsException" 13 := ⟨[], (0, 10, 13, 13), [(0, 10, 17, 15), (0, 10, 21, 25)], rfl, rfl, by decide, (fun u hu => absurd hu List.not_mem_nil), _, xTw_1 196 rfl rfl, by decide +kernel⟩
theorem xa_La_bin_A : xcat Y_La_bin 5 "java/lang/IllegalArgumentException" 17 := ⟨[(0, 10, 13, 13)], (0, 10, 17, 15), [(0, 10, 21, 25)], rfl, rfl, by decide, (fun u hu => by
  have hu := List.mem_singleton.mp hu; subst hu; exact ⟨_, xTw_1 196 rfl rfl, by decide +kernel⟩), _, xTw_1 197 rfl rfl, by decide +kernel⟩
theorem xa_La_bin_S : xcat Y_La_bin 5 "java/lang/IllegalStateException" 21 := ⟨[(0, 10, 13, 13), (0, 10, 17, 15)], (0, 10, 21, 25), [], rfl, rfl, by decide, (fun u hu => by
  rcases List.mem_cons.mp hu with rfl | hu
  · exact ⟨_, xTw_1 196 rfl rfl, by decide +kernel⟩
  · have hu := List.mem_singleton.mp hu
    subst hu
    exact ⟨_, xTw_1 197 rfl rfl, by decide +kernel⟩), _, xTw_2 75 rfl rfl, by decide +kernel⟩
theorem xa_La_pour_I : xcat Y_La_pour 7 "java/lang/IndexOutOfBoundsException" 22 := ⟨[], (0, 19, 22, 13), [(0, 19, 26, 15)], rfl, rfl, by decide, (fun u hu => absurd hu List.not_mem_nil), _, xTw_1 196 rfl rfl, by decide +kernel⟩
theorem xa_La_pour_A : xcat Y_La_pour 7 "java/lang/IllegalArgumentException" 26 := ⟨[(0, 19, 22, 13)], (0, 19, 26, 15), [], rfl, rfl, by decide, (fun u hu => by
  have hu := List.mem_singleton.mp hu; subst hu; exact ⟨_, xTw_1 196 rfl rfl, by decide +kernel⟩), _, xTw_1 197 rfl rfl, by decide +kernel⟩
theorem xa_La_about_I : xcat Y_La_about 5 "java/lang/IndexOutOfBoundsException" 12 := ⟨[], (0, 9, 12, 13), [], rfl, rfl, by decide, (fun u hu => absurd hu List.not_mem_nil), _, xTw_1 196 rfl rfl, by decide +kernel⟩
theorem xa_La_screen_I : xcat Y_La_screen 10 "java/lang/IndexOutOfBoundsException" 16 := ⟨[], (0, 13, 16, 13), [(0, 13, 20, 15)], rfl, rfl, by decide, (fun u hu => absurd hu List.not_mem_nil), _, xTw_1 196 rfl rfl, by decide +kernel⟩
theorem xa_La_screen_A : xcat Y_La_screen 10 "java/lang/IllegalArgumentException" 20 := ⟨[(0, 13, 16, 13)], (0, 13, 20, 15), [], rfl, rfl, by decide, (fun u hu => by
  have hu := List.mem_singleton.mp hu; subst hu; exact ⟨_, xTw_1 196 rfl rfl, by decide +kernel⟩), _, xTw_1 197 rfl rfl, by decide +kernel⟩
theorem xa_La_send_I : xcat Y_La_send 7 "java/lang/IndexOutOfBoundsException" 22 := ⟨[], (0, 19, 22, 13), [(0, 19, 26, 15), (0, 19, 30, 25)], rfl, rfl, by decide, (fun u hu => absurd hu List.not_mem_nil), _, xTw_1 196 rfl rfl, by decide +kernel⟩
theorem xa_La_send_A : xcat Y_La_send 7 "java/lang/IllegalArgumentException" 26 := ⟨[(0, 19, 22, 13)], (0, 19, 26, 15), [(0, 19, 30, 25)], rfl, rfl, by decide, (fun u hu => by
  have hu := List.mem_singleton.mp hu; subst hu; exact ⟨_, xTw_1 196 rfl rfl, by decide +kernel⟩), _, xTw_1 197 rfl rfl, by decide +kernel⟩
theorem xa_La_send_S : xcat Y_La_send 7 "java/lang/IllegalStateException" 30 := ⟨[(0, 19, 22, 13), (0, 19, 26, 15)], (0, 19, 30, 25), [], rfl, rfl, by decide, (fun u hu => by
  rcases List.mem_cons.mp hu with rfl | hu
  · exact ⟨_, xTw_1 196 rfl rfl, by decide +kernel⟩
  · have hu := List.mem_singleton.mp hu
    subst hu
    exact ⟨_, xTw_1 197 rfl rfl, by decide +kernel⟩), _, xTw_2 75 rfl rfl, by decide +kernel⟩
theorem xa_La_scale_I : xcat Y_La_scale 3 "java/lang/IndexOutOfBoundsException" 9 := ⟨[], (0, 6, 9, 13), [(0, 6, 13, 15)], rfl, rfl, by decide, (fun u hu => absurd hu List.not_mem_nil), _, xTw_1 196 rfl rfl, by decide +kernel⟩
theorem xa_La_scale_A : xcat Y_La_scale 3 "java/lang/IllegalArgumentException" 13 := ⟨[(0, 6, 9, 13)], (0, 6, 13, 15), [], rfl, rfl, by decide, (fun u hu => by
  have hu := List.mem_singleton.mp hu; subst hu; exact ⟨_, xTw_1 196 rfl rfl, by decide +kernel⟩), _, xTw_1 197 rfl rfl, by decide +kernel⟩
theorem xa_La_shift_I : xcat Y_La_shift 4 "java/lang/IndexOutOfBoundsException" 11 := ⟨[], (0, 8, 11, 13), [], rfl, rfl, by decide, (fun u hu => absurd hu List.not_mem_nil), _, xTw_1 196 rfl rfl, by decide +kernel⟩
theorem xa_La_row_A : xcat Y_La_row 5 "java/lang/IllegalArgumentException" 13 := ⟨[], (0, 10, 13, 15), [(0, 10, 17, 25)], rfl, rfl, by decide, (fun u hu => absurd hu List.not_mem_nil), _, xTw_1 197 rfl rfl, by decide +kernel⟩
theorem xa_La_row_S : xcat Y_La_row 5 "java/lang/IllegalStateException" 17 := ⟨[(0, 10, 13, 15)], (0, 10, 17, 25), [], rfl, rfl, by decide, (fun u hu => by
  have hu := List.mem_singleton.mp hu; subst hu; exact ⟨_, xTw_1 197 rfl rfl, by decide +kernel⟩), _, xTw_2 75 rfl rfl, by decide +kernel⟩
theorem xa_La_burn_I : xcat Y_La_burn 7 "java/lang/IndexOutOfBoundsException" 14 := ⟨[], (0, 11, 14, 13), [(0, 11, 18, 15), (0, 11, 22, 25)], rfl, rfl, by decide, (fun u hu => absurd hu List.not_mem_nil), _, xTw_1 196 rfl rfl, by decide +kernel⟩
theorem xa_La_burn_A : xcat Y_La_burn 7 "java/lang/IllegalArgumentException" 18 := ⟨[(0, 11, 14, 13)], (0, 11, 18, 15), [(0, 11, 22, 25)], rfl, rfl, by decide, (fun u hu => by
  have hu := List.mem_singleton.mp hu; subst hu; exact ⟨_, xTw_1 196 rfl rfl, by decide +kernel⟩), _, xTw_1 197 rfl rfl, by decide +kernel⟩
theorem xa_La_burn_S : xcat Y_La_burn 7 "java/lang/IllegalStateException" 22 := ⟨[(0, 11, 14, 13), (0, 11, 18, 15)], (0, 11, 22, 25), [], rfl, rfl, by decide, (fun u hu => by
  rcases List.mem_cons.mp hu with rfl | hu
  · exact ⟨_, xTw_1 196 rfl rfl, by decide +kernel⟩
  · have hu := List.mem_singleton.mp hu
    subst hu
    exact ⟨_, xTw_1 197 rfl rfl, by decide +kernel⟩), _, xTw_2 75 rfl rfl, by decide +kernel⟩
theorem xa_La_sell_I : xcat Y_La_sell 7 "java/lang/IndexOutOfBoundsException" 14 := ⟨[], (0, 11, 14, 13), [(0, 11, 18, 15), (0, 11, 22, 25)], rfl, rfl, by decide, (fun u hu => absurd hu List.not_mem_nil), _, xTw_1 196 rfl rfl, by decide +kernel⟩
theorem xa_La_sell_A : xcat Y_La_sell 7 "java/lang/IllegalArgumentException" 18 := ⟨[(0, 11, 14, 13)], (0, 11, 18, 15), [(0, 11, 22, 25)], rfl, rfl, by decide, (fun u hu => by
  have hu := List.mem_singleton.mp hu; subst hu; exact ⟨_, xTw_1 196 rfl rfl, by decide +kernel⟩), _, xTw_1 197 rfl rfl, by decide +kernel⟩
theorem xa_La_sell_S : xcat Y_La_sell 7 "java/lang/IllegalStateException" 22 := ⟨[(0, 11, 14, 13), (0, 11, 18, 15)], (0, 11, 22, 25), [], rfl, rfl, by decide, (fun u hu => by
  rcases List.mem_cons.mp hu with rfl | hu
  · exact ⟨_, xTw_1 196 rfl rfl, by decide +kernel⟩
  · have hu := List.mem_singleton.mp hu
    subst hu
    exact ⟨_, xTw_1 197 rfl rfl, by decide +kernel⟩), _, xTw_2 75 rfl rfl, by decide +kernel⟩
theorem xa_La_span_I : xcat Y_La_span 4 "java/lang/IndexOutOfBoundsException" 10 := ⟨[], (0, 7, 10, 13), [(0, 7, 14, 15)], rfl, rfl, by decide, (fun u hu => absurd hu List.not_mem_nil), _, xTw_1 196 rfl rfl, by decide +kernel⟩
theorem xa_La_span_A : xcat Y_La_span 4 "java/lang/IllegalArgumentException" 14 := ⟨[(0, 7, 10, 13)], (0, 7, 14, 15), [], rfl, rfl, by decide, (fun u hu => by
  have hu := List.mem_singleton.mp hu; subst hu; exact ⟨_, xTw_1 196 rfl rfl, by decide +kernel⟩), _, xTw_1 197 rfl rfl, by decide +kernel⟩
theorem xa_La_mix_I : xcat Y_La_mix 7 "java/lang/IndexOutOfBoundsException" 22 := ⟨[], (0, 19, 22, 13), [(0, 19, 26, 15), (0, 19, 30, 25)], rfl, rfl, by decide, (fun u hu => absurd hu List.not_mem_nil), _, xTw_1 196 rfl rfl, by decide +kernel⟩
theorem xa_La_mix_A : xcat Y_La_mix 7 "java/lang/IllegalArgumentException" 26 := ⟨[(0, 19, 22, 13)], (0, 19, 26, 15), [(0, 19, 30, 25)], rfl, rfl, by decide, (fun u hu => by
  have hu := List.mem_singleton.mp hu; subst hu; exact ⟨_, xTw_1 196 rfl rfl, by decide +kernel⟩), _, xTw_1 197 rfl rfl, by decide +kernel⟩
theorem xa_La_mix_S : xcat Y_La_mix 7 "java/lang/IllegalStateException" 30 := ⟨[(0, 19, 22, 13), (0, 19, 26, 15)], (0, 19, 30, 25), [], rfl, rfl, by decide, (fun u hu => by
  rcases List.mem_cons.mp hu with rfl | hu
  · exact ⟨_, xTw_1 196 rfl rfl, by decide +kernel⟩
  · have hu := List.mem_singleton.mp hu
    subst hu
    exact ⟨_, xTw_1 197 rfl rfl, by decide +kernel⟩), _, xTw_2 75 rfl rfl, by decide +kernel⟩
end
section
theorem D_RF_init_0 : ∀ q ∈ ([(0, .aload_n 0, 1), (1, .invokespecial 1, 3), (4, .aload_n 0, 1), (5, .new 7, 3), (8, .dup, 1), (9, .iconst 1, 1), (10, .bipush 10, 2), (12, .invokespecial 9, 3), (15, .putfield 12, 3), (18, .aload_n 0, 1), (19, .new 7, 3), (22, .dup, 1), (23, .iconst 1, 1), (24, .iconst 4, 1), (25, .invokespecial 9, 3), (28, .putfield 18, 3), (31, .aload_n 0, 1), (32, .new 21, 3), (35, .dup, 1), (36, .invokespecial 23, 3), (39, .putfield 24, 3), (42, .aload_n 0, 1), (43, .new 21, 3), (46, .dup, 1), (47, .invokespecial 23, 3), (50, .putfield 28, 3), (53, .aload_n 0, 1), (54, .bipush 8, 2), (56, .anewarray 31, 3), (59, .putfield 33, 3), (62, .iconst 0, 1), (63, .istore_n 1, 1), (64, .iload_n 1, 1), (65, .bipush 8, 2), (67, .if_icmp .ge 22, 3), (70, .aload_n 0, 1), (71, .getfield 33, 3), (74, .iload_n 1, 1), (75, .new 31, 3), (78, .dup, 1), (79, .invokespecial 37, 3), (82, .aastore, 1), (83, .iinc 1 1, 3), (86, .goto (-22), 3), (89, .aload_n 0, 1), (90, .iconst 4, 1), (91, .anewarray 38, 3), (94, .putfield 40, 3), (97, .iconst 0, 1), (98, .istore_n 1, 1), (99, .iload_n 1, 1), (100, .iconst 4, 1), (101, .if_icmp .ge 22, 3), (104, .aload_n 0, 1), (105, .getfield 40, 3), (108, .iload_n 1, 1), (109, .new 38, 3), (112, .dup, 1), (113, .invokespecial 44, 3), (116, .aastore, 1)] : List (Nat × Instr × Nat)), decode prog_1_method_1_code q.1 = .ok (q.2.1, q.2.2) := by decide +kernel
theorem d_RF_init_0 : decode Y_RF_init.2.1 0 = .ok (.aload_n 0, 1) := D_RF_init_0 (0, .aload_n 0, 1) (List.mem_of_getElem? (i := 0) rfl)
theorem d_RF_init_1 : decode Y_RF_init.2.1 1 = .ok (.invokespecial 1, 3) := D_RF_init_0 (1, .invokespecial 1, 3) (List.mem_of_getElem? (i := 1) rfl)
theorem d_RF_init_4 : decode Y_RF_init.2.1 4 = .ok (.aload_n 0, 1) := D_RF_init_0 (4, .aload_n 0, 1) (List.mem_of_getElem? (i := 2) rfl)
theorem d_RF_init_5 : decode Y_RF_init.2.1 5 = .ok (.new 7, 3) := D_RF_init_0 (5, .new 7, 3) (List.mem_of_getElem? (i := 3) rfl)
theorem d_RF_init_8 : decode Y_RF_init.2.1 8 = .ok (.dup, 1) := D_RF_init_0 (8, .dup, 1) (List.mem_of_getElem? (i := 4) rfl)
theorem d_RF_init_9 : decode Y_RF_init.2.1 9 = .ok (.iconst 1, 1) := D_RF_init_0 (9, .iconst 1, 1) (List.mem_of_getElem? (i := 5) rfl)
theorem d_RF_init_10 : decode Y_RF_init.2.1 10 = .ok (.bipush 10, 2) := D_RF_init_0 (10, .bipush 10, 2) (List.mem_of_getElem? (i := 6) rfl)
theorem d_RF_init_12 : decode Y_RF_init.2.1 12 = .ok (.invokespecial 9, 3) := D_RF_init_0 (12, .invokespecial 9, 3) (List.mem_of_getElem? (i := 7) rfl)
theorem d_RF_init_15 : decode Y_RF_init.2.1 15 = .ok (.putfield 12, 3) := D_RF_init_0 (15, .putfield 12, 3) (List.mem_of_getElem? (i := 8) rfl)
theorem d_RF_init_18 : decode Y_RF_init.2.1 18 = .ok (.aload_n 0, 1) := D_RF_init_0 (18, .aload_n 0, 1) (List.mem_of_getElem? (i := 9) rfl)
theorem d_RF_init_19 : decode Y_RF_init.2.1 19 = .ok (.new 7, 3) := D_RF_init_0 (19, .new 7, 3) (List.mem_of_getElem? (i := 10) rfl)
theorem d_RF_init_22 : decode Y_RF_init.2.1 22 = .ok (.dup, 1) := D_RF_init_0 (22, .dup, 1) (List.mem_of_getElem? (i := 11) rfl)
theorem d_RF_init_23 : decode Y_RF_init.2.1 23 = .ok (.iconst 1, 1) := D_RF_init_0 (23, .iconst 1, 1) (List.mem_of_getElem? (i := 12) rfl)
theorem d_RF_init_24 : decode Y_RF_init.2.1 24 = .ok (.iconst 4, 1) := D_RF_init_0 (24, .iconst 4, 1) (List.mem_of_getElem? (i := 13) rfl)
theorem d_RF_init_25 : decode Y_RF_init.2.1 25 = .ok (.invokespecial 9, 3) := D_RF_init_0 (25, .invokespecial 9, 3) (List.mem_of_getElem? (i := 14) rfl)
theorem d_RF_init_28 : decode Y_RF_init.2.1 28 = .ok (.putfield 18, 3) := D_RF_init_0 (28, .putfield 18, 3) (List.mem_of_getElem? (i := 15) rfl)
theorem d_RF_init_31 : decode Y_RF_init.2.1 31 = .ok (.aload_n 0, 1) := D_RF_init_0 (31, .aload_n 0, 1) (List.mem_of_getElem? (i := 16) rfl)
theorem d_RF_init_32 : decode Y_RF_init.2.1 32 = .ok (.new 21, 3) := D_RF_init_0 (32, .new 21, 3) (List.mem_of_getElem? (i := 17) rfl)
theorem d_RF_init_35 : decode Y_RF_init.2.1 35 = .ok (.dup, 1) := D_RF_init_0 (35, .dup, 1) (List.mem_of_getElem? (i := 18) rfl)
theorem d_RF_init_36 : decode Y_RF_init.2.1 36 = .ok (.invokespecial 23, 3) := D_RF_init_0 (36, .invokespecial 23, 3) (List.mem_of_getElem? (i := 19) rfl)
theorem d_RF_init_39 : decode Y_RF_init.2.1 39 = .ok (.putfield 24, 3) := D_RF_init_0 (39, .putfield 24, 3) (List.mem_of_getElem? (i := 20) rfl)
theorem d_RF_init_42 : decode Y_RF_init.2.1 42 = .ok (.aload_n 0, 1) := D_RF_init_0 (42, .aload_n 0, 1) (List.mem_of_getElem? (i := 21) rfl)
theorem d_RF_init_43 : decode Y_RF_init.2.1 43 = .ok (.new 21, 3) := D_RF_init_0 (43, .new 21, 3) (List.mem_of_getElem? (i := 22) rfl)
theorem d_RF_init_46 : decode Y_RF_init.2.1 46 = .ok (.dup, 1) := D_RF_init_0 (46, .dup, 1) (List.mem_of_getElem? (i := 23) rfl)
theorem d_RF_init_47 : decode Y_RF_init.2.1 47 = .ok (.invokespecial 23, 3) := D_RF_init_0 (47, .invokespecial 23, 3) (List.mem_of_getElem? (i := 24) rfl)
theorem d_RF_init_50 : decode Y_RF_init.2.1 50 = .ok (.putfield 28, 3) := D_RF_init_0 (50, .putfield 28, 3) (List.mem_of_getElem? (i := 25) rfl)
theorem d_RF_init_53 : decode Y_RF_init.2.1 53 = .ok (.aload_n 0, 1) := D_RF_init_0 (53, .aload_n 0, 1) (List.mem_of_getElem? (i := 26) rfl)
theorem d_RF_init_54 : decode Y_RF_init.2.1 54 = .ok (.bipush 8, 2) := D_RF_init_0 (54, .bipush 8, 2) (List.mem_of_getElem? (i := 27) rfl)
theorem d_RF_init_56 : decode Y_RF_init.2.1 56 = .ok (.anewarray 31, 3) := D_RF_init_0 (56, .anewarray 31, 3) (List.mem_of_getElem? (i := 28) rfl)
theorem d_RF_init_59 : decode Y_RF_init.2.1 59 = .ok (.putfield 33, 3) := D_RF_init_0 (59, .putfield 33, 3) (List.mem_of_getElem? (i := 29) rfl)
theorem d_RF_init_62 : decode Y_RF_init.2.1 62 = .ok (.iconst 0, 1) := D_RF_init_0 (62, .iconst 0, 1) (List.mem_of_getElem? (i := 30) rfl)
theorem d_RF_init_63 : decode Y_RF_init.2.1 63 = .ok (.istore_n 1, 1) := D_RF_init_0 (63, .istore_n 1, 1) (List.mem_of_getElem? (i := 31) rfl)
theorem d_RF_init_64 : decode Y_RF_init.2.1 64 = .ok (.iload_n 1, 1) := D_RF_init_0 (64, .iload_n 1, 1) (List.mem_of_getElem? (i := 32) rfl)
theorem d_RF_init_65 : decode Y_RF_init.2.1 65 = .ok (.bipush 8, 2) := D_RF_init_0 (65, .bipush 8, 2) (List.mem_of_getElem? (i := 33) rfl)
theorem d_RF_init_67 : decode Y_RF_init.2.1 67 = .ok (.if_icmp .ge 22, 3) := D_RF_init_0 (67, .if_icmp .ge 22, 3) (List.mem_of_getElem? (i := 34) rfl)
theorem d_RF_init_70 : decode Y_RF_init.2.1 70 = .ok (.aload_n 0, 1) := D_RF_init_0 (70, .aload_n 0, 1) (List.mem_of_getElem? (i := 35) rfl)
theorem d_RF_init_71 : decode Y_RF_init.2.1 71 = .ok (.getfield 33, 3) := D_RF_init_0 (71, .getfield 33, 3) (List.mem_of_getElem? (i := 36) rfl)
theorem d_RF_init_74 : decode Y_RF_init.2.1 74 = .ok (.iload_n 1, 1) := D_RF_init_0 (74, .iload_n 1, 1) (List.mem_of_getElem? (i := 37) rfl)
theorem d_RF_init_75 : decode Y_RF_init.2.1 75 = .ok (.new 31, 3) := D_RF_init_0 (75, .new 31, 3) (List.mem_of_getElem? (i := 38) rfl)
theorem d_RF_init_78 : decode Y_RF_init.2.1 78 = .ok (.dup, 1) := D_RF_init_0 (78, .dup, 1) (List.mem_of_getElem? (i := 39) rfl)
theorem d_RF_init_79 : decode Y_RF_init.2.1 79 = .ok (.invokespecial 37, 3) := D_RF_init_0 (79, .invokespecial 37, 3) (List.mem_of_getElem? (i := 40) rfl)
theorem d_RF_init_82 : decode Y_RF_init.2.1 82 = .ok (.aastore, 1) := D_RF_init_0 (82, .aastore, 1) (List.mem_of_getElem? (i := 41) rfl)
theorem d_RF_init_83 : decode Y_RF_init.2.1 83 = .ok (.iinc 1 1, 3) := D_RF_init_0 (83, .iinc 1 1, 3) (List.mem_of_getElem? (i := 42) rfl)
theorem d_RF_init_86 : decode Y_RF_init.2.1 86 = .ok (.goto (-22), 3) := D_RF_init_0 (86, .goto (-22), 3) (List.mem_of_getElem? (i := 43) rfl)
theorem d_RF_init_89 : decode Y_RF_init.2.1 89 = .ok (.aload_n 0, 1) := D_RF_init_0 (89, .aload_n 0, 1) (List.mem_of_getElem? (i := 44) rfl)
theorem d_RF_init_90 : decode Y_RF_init.2.1 90 = .ok (.iconst 4, 1) := D_RF_init_0 (90, .iconst 4, 1) (List.mem_of_getElem? (i := 45) rfl)
theorem d_RF_init_91 : decode Y_RF_init.2.1 91 = .ok (.anewarray 38, 3) := D_RF_init_0 (91, .anewarray 38, 3) (List.mem_of_getElem? (i := 46) rfl)
theorem d_RF_init_94 : decode Y_RF_init.2.1 94 = .ok (.putfield 40, 3) := D_RF_init_0 (94, .putfield 40, 3) (List.mem_of_getElem? (i := 47) rfl)
theorem d_RF_init_97 : decode Y_RF_init.2.1 97 = .ok (.iconst 0, 1) := D_RF_init_0 (97, .iconst 0, 1) (List.mem_of_getElem? (i := 48) rfl)
theorem d_RF_init_98 : decode Y_RF_init.2.1 98 = .ok (.istore_n 1, 1) := D_RF_init_0 (98, .istore_n 1, 1) (List.mem_of_getElem? (i := 49) rfl)
theorem d_RF_init_99 : decode Y_RF_init.2.1 99 = .ok (.iload_n 1, 1) := D_RF_init_0 (99, .iload_n 1, 1) (List.mem_of_getElem? (i := 50) rfl)
theorem d_RF_init_100 : decode Y_RF_init.2.1 100 = .ok (.iconst 4, 1) := D_RF_init_0 (100, .iconst 4, 1) (List.mem_of_getElem? (i := 51) rfl)
theorem d_RF_init_101 : decode Y_RF_init.2.1 101 = .ok (.if_icmp .ge 22, 3) := D_RF_init_0 (101, .if_icmp .ge 22, 3) (List.mem_of_getElem? (i := 52) rfl)
theorem d_RF_init_104 : decode Y_RF_init.2.1 104 = .ok (.aload_n 0, 1) := D_RF_init_0 (104, .aload_n 0, 1) (List.mem_of_getElem? (i := 53) rfl)
theorem d_RF_init_105 : decode Y_RF_init.2.1 105 = .ok (.getfield 40, 3) := D_RF_init_0 (105, .getfield 40, 3) (List.mem_of_getElem? (i := 54) rfl)
theorem d_RF_init_108 : decode Y_RF_init.2.1 108 = .ok (.iload_n 1, 1) := D_RF_init_0 (108, .iload_n 1, 1) (List.mem_of_getElem? (i := 55) rfl)
theorem d_RF_init_109 : decode Y_RF_init.2.1 109 = .ok (.new 38, 3) := D_RF_init_0 (109, .new 38, 3) (List.mem_of_getElem? (i := 56) rfl)
theorem d_RF_init_112 : decode Y_RF_init.2.1 112 = .ok (.dup, 1) := D_RF_init_0 (112, .dup, 1) (List.mem_of_getElem? (i := 57) rfl)
theorem d_RF_init_113 : decode Y_RF_init.2.1 113 = .ok (.invokespecial 44, 3) := D_RF_init_0 (113, .invokespecial 44, 3) (List.mem_of_getElem? (i := 58) rfl)
theorem d_RF_init_116 : decode Y_RF_init.2.1 116 = .ok (.aastore, 1) := D_RF_init_0 (116, .aastore, 1) (List.mem_of_getElem? (i := 59) rfl)
theorem D_RF_init_1 : ∀ q ∈ ([(117, .iinc 1 1, 3), (120, .goto (-21), 3), (123, .aload_n 0, 1), (124, .new 45, 3), (127, .dup, 1), (128, .invokespecial 47, 3), (131, .putfield 48, 3), (134, .return_, 1)] : List (Nat × Instr × Nat)), decode prog_1_method_1_code q.1 = .ok (q.2.1, q.2.2) := by decide +kernel
theorem d_RF_init_117 : decode Y_RF_init.2.1 117 = .ok (.iinc 1 1, 3) := D_RF_init_1 (117, .iinc 1 1, 3) (List.mem_of_getElem? (i := 0) rfl)
theorem d_RF_init_120 : decode Y_RF_init.2.1 120 = .ok (.goto (-21), 3) := D_RF_init_1 (120, .goto (-21), 3) (List.mem_of_getElem? (i := 1) rfl)
theorem d_RF_init_123 : decode Y_RF_init.2.1 123 = .ok (.aload_n 0, 1) := D_RF_init_1 (123, .aload_n 0, 1) (List.mem_of_getElem? (i := 2) rfl)
theorem d_RF_init_124 : decode Y_RF_init.2.1 124 = .ok (.new 45, 3) := D_RF_init_1 (124, .new 45, 3) (List.mem_of_getElem? (i := 3) rfl)
theorem d_RF_init_127 : decode Y_RF_init.2.1 127 = .ok (.dup, 1) := D_RF_init_1 (127, .dup, 1) (List.mem_of_getElem? (i := 4) rfl)
theorem d_RF_init_128 : decode Y_RF_init.2.1 128 = .ok (.invokespecial 47, 3) := D_RF_init_1 (128, .invokespecial 47, 3) (List.mem_of_getElem? (i := 5) rfl)
theorem d_RF_init_131 : decode Y_RF_init.2.1 131 = .ok (.putfield 48, 3) := D_RF_init_1 (131, .putfield 48, 3) (List.mem_of_getElem? (i := 6) rfl)
theorem d_RF_init_134 : decode Y_RF_init.2.1 134 = .ok (.return_, 1) := D_RF_init_1 (134, .return_, 1) (List.mem_of_getElem? (i := 7) rfl)
theorem D_RF_begin_0 : ∀ q ∈ ([(0, .iconst 0, 1), (1, .istore_n 1, 1), (2, .iload_n 1, 1), (3, .bipush 8, 2), (5, .if_icmp .ge 21, 3), (8, .aload_n 0, 1), (9, .getfield 33, 3), (12, .iload_n 1, 1), (13, .aaload, 1), (14, .ldc2_w 210, 3), (17, .putfield 147, 3), (20, .iinc 1 1, 3), (23, .goto (-21), 3), (26, .aload_n 0, 1), (27, .lconst 0, 1), (28, .putfield 199, 3), (31, .aload_n 0, 1), (32, .lconst 0, 1), (33, .putfield 202, 3), (36, .aload_n 0, 1), (37, .dup, 1), (38, .getfield 205, 3), (41, .iconst 1, 1), (42, .iadd, 1), (43, .putfield 205, 3), (46, .return_, 1)] : List (Nat × Instr × Nat)), decode prog_1_method_13_code q.1 = .ok (q.2.1, q.2.2) := by decide +kernel
theorem d_RF_begin_0 : decode Y_RF_begin.2.1 0 = .ok (.iconst 0, 1) := D_RF_begin_0 (0, .iconst 0, 1) (List.mem_of_getElem? (i := 0) rfl)
theorem d_RF_begin_1 : decode Y_RF_begin.2.1 1 = .ok (.istore_n 1, 1) := D_RF_begin_0 (1, .istore_n 1, 1) (List.mem_of_getElem? (i := 1) rfl)
theorem d_RF_begin_2 : decode Y_RF_begin.2.1 2 = .ok (.iload_n 1, 1) := D_RF_begin_0 (2, .iload_n 1, 1) (List.mem_of_getElem? (i := 2) rfl)
theorem d_RF_begin_3 : decode Y_RF_begin.2.1 3 = .ok (.bipush 8, 2) := D_RF_begin_0 (3, .bipush 8, 2) (List.mem_of_getElem? (i := 3) rfl)
theorem d_RF_begin_5 : decode Y_RF_begin.2.1 5 = .ok (.if_icmp .ge 21, 3) := D_RF_begin_0 (5, .if_icmp .ge 21, 3) (List.mem_of_getElem? (i := 4) rfl)
theorem d_RF_begin_8 : decode Y_RF_begin.2.1 8 = .ok (.aload_n 0, 1) := D_RF_begin_0 (8, .aload_n 0, 1) (List.mem_of_getElem? (i := 5) rfl)
theorem d_RF_begin_9 : decode Y_RF_begin.2.1 9 = .ok (.getfield 33, 3) := D_RF_begin_0 (9, .getfield 33, 3) (List.mem_of_getElem? (i := 6) rfl)
theorem d_RF_begin_12 : decode Y_RF_begin.2.1 12 = .ok (.iload_n 1, 1) := D_RF_begin_0 (12, .iload_n 1, 1) (List.mem_of_getElem? (i := 7) rfl)
theorem d_RF_begin_13 : decode Y_RF_begin.2.1 13 = .ok (.aaload, 1) := D_RF_begin_0 (13, .aaload, 1) (List.mem_of_getElem? (i := 8) rfl)
theorem d_RF_begin_14 : decode Y_RF_begin.2.1 14 = .ok (.ldc2_w 210, 3) := D_RF_begin_0 (14, .ldc2_w 210, 3) (List.mem_of_getElem? (i := 9) rfl)
theorem d_RF_begin_17 : decode Y_RF_begin.2.1 17 = .ok (.putfield 147, 3) := D_RF_begin_0 (17, .putfield 147, 3) (List.mem_of_getElem? (i := 10) rfl)
theorem d_RF_begin_20 : decode Y_RF_begin.2.1 20 = .ok (.iinc 1 1, 3) := D_RF_begin_0 (20, .iinc 1 1, 3) (List.mem_of_getElem? (i := 11) rfl)
theorem d_RF_begin_23 : decode Y_RF_begin.2.1 23 = .ok (.goto (-21), 3) := D_RF_begin_0 (23, .goto (-21), 3) (List.mem_of_getElem? (i := 12) rfl)
theorem d_RF_begin_26 : decode Y_RF_begin.2.1 26 = .ok (.aload_n 0, 1) := D_RF_begin_0 (26, .aload_n 0, 1) (List.mem_of_getElem? (i := 13) rfl)
theorem d_RF_begin_27 : decode Y_RF_begin.2.1 27 = .ok (.lconst 0, 1) := D_RF_begin_0 (27, .lconst 0, 1) (List.mem_of_getElem? (i := 14) rfl)
theorem d_RF_begin_28 : decode Y_RF_begin.2.1 28 = .ok (.putfield 199, 3) := D_RF_begin_0 (28, .putfield 199, 3) (List.mem_of_getElem? (i := 15) rfl)
theorem d_RF_begin_31 : decode Y_RF_begin.2.1 31 = .ok (.aload_n 0, 1) := D_RF_begin_0 (31, .aload_n 0, 1) (List.mem_of_getElem? (i := 16) rfl)
theorem d_RF_begin_32 : decode Y_RF_begin.2.1 32 = .ok (.lconst 0, 1) := D_RF_begin_0 (32, .lconst 0, 1) (List.mem_of_getElem? (i := 17) rfl)
theorem d_RF_begin_33 : decode Y_RF_begin.2.1 33 = .ok (.putfield 202, 3) := D_RF_begin_0 (33, .putfield 202, 3) (List.mem_of_getElem? (i := 18) rfl)
theorem d_RF_begin_36 : decode Y_RF_begin.2.1 36 = .ok (.aload_n 0, 1) := D_RF_begin_0 (36, .aload_n 0, 1) (List.mem_of_getElem? (i := 19) rfl)
theorem d_RF_begin_37 : decode Y_RF_begin.2.1 37 = .ok (.dup, 1) := D_RF_begin_0 (37, .dup, 1) (List.mem_of_getElem? (i := 20) rfl)
theorem d_RF_begin_38 : decode Y_RF_begin.2.1 38 = .ok (.getfield 205, 3) := D_RF_begin_0 (38, .getfield 205, 3) (List.mem_of_getElem? (i := 21) rfl)
theorem d_RF_begin_41 : decode Y_RF_begin.2.1 41 = .ok (.iconst 1, 1) := D_RF_begin_0 (41, .iconst 1, 1) (List.mem_of_getElem? (i := 22) rfl)
theorem d_RF_begin_42 : decode Y_RF_begin.2.1 42 = .ok (.iadd, 1) := D_RF_begin_0 (42, .iadd, 1) (List.mem_of_getElem? (i := 23) rfl)
theorem d_RF_begin_43 : decode Y_RF_begin.2.1 43 = .ok (.putfield 205, 3) := D_RF_begin_0 (43, .putfield 205, 3) (List.mem_of_getElem? (i := 24) rfl)
theorem d_RF_begin_46 : decode Y_RF_begin.2.1 46 = .ok (.return_, 1) := D_RF_begin_0 (46, .return_, 1) (List.mem_of_getElem? (i := 25) rfl)
theorem D_RF_carbon_0 : ∀ q ∈ ([(0, .lconst 0, 1), (1, .lstore_n 1, 1), (2, .iconst 0, 1), (3, .istore_n 3, 1), (4, .iload_n 3, 1), (5, .bipush 8, 2), (7, .if_icmp .ge 21, 3), (10, .lload_n 1, 1), (11, .aload_n 0, 1), (12, .getfield 33, 3), (15, .iload_n 3, 1), (16, .aaload, 1), (17, .getfield 141, 3), (20, .ladd, 1), (21, .lstore_n 1, 1), (22, .iinc 3 1, 3), (25, .goto (-21), 3), (28, .lload_n 1, 1), (29, .ldc2_w 278, 3), (32, .ldiv, 1), (33, .lreturn, 1)] : List (Nat × Instr × Nat)), decode prog_1_method_19_code q.1 = .ok (q.2.1, q.2.2) := by decide +kernel
theorem d_RF_carbon_0 : decode Y_RF_carbon.2.1 0 = .ok (.lconst 0, 1) := D_RF_carbon_0 (0, .lconst 0, 1) (List.mem_of_getElem? (i := 0) rfl)
theorem d_RF_carbon_1 : decode Y_RF_carbon.2.1 1 = .ok (.lstore_n 1, 1) := D_RF_carbon_0 (1, .lstore_n 1, 1) (List.mem_of_getElem? (i := 1) rfl)
theorem d_RF_carbon_2 : decode Y_RF_carbon.2.1 2 = .ok (.iconst 0, 1) := D_RF_carbon_0 (2, .iconst 0, 1) (List.mem_of_getElem? (i := 2) rfl)
theorem d_RF_carbon_3 : decode Y_RF_carbon.2.1 3 = .ok (.istore_n 3, 1) := D_RF_carbon_0 (3, .istore_n 3, 1) (List.mem_of_getElem? (i := 3) rfl)
theorem d_RF_carbon_4 : decode Y_RF_carbon.2.1 4 = .ok (.iload_n 3, 1) := D_RF_carbon_0 (4, .iload_n 3, 1) (List.mem_of_getElem? (i := 4) rfl)
theorem d_RF_carbon_5 : decode Y_RF_carbon.2.1 5 = .ok (.bipush 8, 2) := D_RF_carbon_0 (5, .bipush 8, 2) (List.mem_of_getElem? (i := 5) rfl)
theorem d_RF_carbon_7 : decode Y_RF_carbon.2.1 7 = .ok (.if_icmp .ge 21, 3) := D_RF_carbon_0 (7, .if_icmp .ge 21, 3) (List.mem_of_getElem? (i := 6) rfl)
theorem d_RF_carbon_10 : decode Y_RF_carbon.2.1 10 = .ok (.lload_n 1, 1) := D_RF_carbon_0 (10, .lload_n 1, 1) (List.mem_of_getElem? (i := 7) rfl)
theorem d_RF_carbon_11 : decode Y_RF_carbon.2.1 11 = .ok (.aload_n 0, 1) := D_RF_carbon_0 (11, .aload_n 0, 1) (List.mem_of_getElem? (i := 8) rfl)
theorem d_RF_carbon_12 : decode Y_RF_carbon.2.1 12 = .ok (.getfield 33, 3) := D_RF_carbon_0 (12, .getfield 33, 3) (List.mem_of_getElem? (i := 9) rfl)
theorem d_RF_carbon_15 : decode Y_RF_carbon.2.1 15 = .ok (.iload_n 3, 1) := D_RF_carbon_0 (15, .iload_n 3, 1) (List.mem_of_getElem? (i := 10) rfl)
theorem d_RF_carbon_16 : decode Y_RF_carbon.2.1 16 = .ok (.aaload, 1) := D_RF_carbon_0 (16, .aaload, 1) (List.mem_of_getElem? (i := 11) rfl)
theorem d_RF_carbon_17 : decode Y_RF_carbon.2.1 17 = .ok (.getfield 141, 3) := D_RF_carbon_0 (17, .getfield 141, 3) (List.mem_of_getElem? (i := 12) rfl)
theorem d_RF_carbon_20 : decode Y_RF_carbon.2.1 20 = .ok (.ladd, 1) := D_RF_carbon_0 (20, .ladd, 1) (List.mem_of_getElem? (i := 13) rfl)
theorem d_RF_carbon_21 : decode Y_RF_carbon.2.1 21 = .ok (.lstore_n 1, 1) := D_RF_carbon_0 (21, .lstore_n 1, 1) (List.mem_of_getElem? (i := 14) rfl)
theorem d_RF_carbon_22 : decode Y_RF_carbon.2.1 22 = .ok (.iinc 3 1, 3) := D_RF_carbon_0 (22, .iinc 3 1, 3) (List.mem_of_getElem? (i := 15) rfl)
theorem d_RF_carbon_25 : decode Y_RF_carbon.2.1 25 = .ok (.goto (-21), 3) := D_RF_carbon_0 (25, .goto (-21), 3) (List.mem_of_getElem? (i := 16) rfl)
theorem d_RF_carbon_28 : decode Y_RF_carbon.2.1 28 = .ok (.lload_n 1, 1) := D_RF_carbon_0 (28, .lload_n 1, 1) (List.mem_of_getElem? (i := 17) rfl)
theorem d_RF_carbon_29 : decode Y_RF_carbon.2.1 29 = .ok (.ldc2_w 278, 3) := D_RF_carbon_0 (29, .ldc2_w 278, 3) (List.mem_of_getElem? (i := 18) rfl)
theorem d_RF_carbon_32 : decode Y_RF_carbon.2.1 32 = .ok (.ldiv, 1) := D_RF_carbon_0 (32, .ldiv, 1) (List.mem_of_getElem? (i := 19) rfl)
theorem d_RF_carbon_33 : decode Y_RF_carbon.2.1 33 = .ok (.lreturn, 1) := D_RF_carbon_0 (33, .lreturn, 1) (List.mem_of_getElem? (i := 20) rfl)
theorem D_RF_share_0 : ∀ q ∈ ([(0, .iload_n 1, 1), (1, .ifCond .lt 8, 3), (4, .iload_n 1, 1), (5, .iconst 1, 1), (6, .if_icmp .le 13, 3), (9, .new 52, 3), (12, .dup, 1), (13, .ldc 54, 2), (15, .invokespecial 56, 3), (18, .athrow, 1), (19, .iload_n 3, 1), (20, .iconst 1, 1), (21, .if_icmp .lt 18, 3), (24, .iload_n 3, 1), (25, .bipush 10, 2), (27, .if_icmp .gt 12, 3), (30, .iload_n 2, 1), (31, .ifCond .lt 8, 3), (34, .iload_n 2, 1), (35, .iload_n 3, 1), (36, .if_icmp .le 13, 3), (39, .new 59, 3), (42, .dup, 1), (43, .ldc 61, 2), (45, .invokespecial 63, 3), (48, .athrow, 1), (49, .iload_n 1, 1), (50, .ifCond .ne 10, 3), (53, .aload_n 0, 1), (54, .getfield 12, 3), (57, .goto 7, 3), (60, .aload_n 0, 1), (61, .getfield 18, 3), (64, .astore 4, 2), (66, .aload 4, 2), (68, .iload_n 2, 1), (69, .putfield 64, 3), (72, .aload 4, 2), (74, .iload_n 3, 1), (75, .putfield 68, 3), (78, .return_, 1)] : List (Nat × Instr × Nat)), decode prog_1_method_2_code q.1 = .ok (q.2.1, q.2.2) := by decide +kernel
theorem d_RF_share_0 : decode Y_RF_share.2.1 0 = .ok (.iload_n 1, 1) := D_RF_share_0 (0, .iload_n 1, 1) (List.mem_of_getElem? (i := 0) rfl)
theorem d_RF_share_1 : decode Y_RF_share.2.1 1 = .ok (.ifCond .lt 8, 3) := D_RF_share_0 (1, .ifCond .lt 8, 3) (List.mem_of_getElem? (i := 1) rfl)
theorem d_RF_share_4 : decode Y_RF_share.2.1 4 = .ok (.iload_n 1, 1) := D_RF_share_0 (4, .iload_n 1, 1) (List.mem_of_getElem? (i := 2) rfl)
theorem d_RF_share_5 : decode Y_RF_share.2.1 5 = .ok (.iconst 1, 1) := D_RF_share_0 (5, .iconst 1, 1) (List.mem_of_getElem? (i := 3) rfl)
theorem d_RF_share_6 : decode Y_RF_share.2.1 6 = .ok (.if_icmp .le 13, 3) := D_RF_share_0 (6, .if_icmp .le 13, 3) (List.mem_of_getElem? (i := 4) rfl)
theorem d_RF_share_9 : decode Y_RF_share.2.1 9 = .ok (.new 52, 3) := D_RF_share_0 (9, .new 52, 3) (List.mem_of_getElem? (i := 5) rfl)
theorem d_RF_share_12 : decode Y_RF_share.2.1 12 = .ok (.dup, 1) := D_RF_share_0 (12, .dup, 1) (List.mem_of_getElem? (i := 6) rfl)
theorem d_RF_share_13 : decode Y_RF_share.2.1 13 = .ok (.ldc 54, 2) := D_RF_share_0 (13, .ldc 54, 2) (List.mem_of_getElem? (i := 7) rfl)
theorem d_RF_share_15 : decode Y_RF_share.2.1 15 = .ok (.invokespecial 56, 3) := D_RF_share_0 (15, .invokespecial 56, 3) (List.mem_of_getElem? (i := 8) rfl)
theorem d_RF_share_18 : decode Y_RF_share.2.1 18 = .ok (.athrow, 1) := D_RF_share_0 (18, .athrow, 1) (List.mem_of_getElem? (i := 9) rfl)
theorem d_RF_share_19 : decode Y_RF_share.2.1 19 = .ok (.iload_n 3, 1) := D_RF_share_0 (19, .iload_n 3, 1) (List.mem_of_getElem? (i := 10) rfl)
theorem d_RF_share_20 : decode Y_RF_share.2.1 20 = .ok (.iconst 1, 1) := D_RF_share_0 (20, .iconst 1, 1) (List.mem_of_getElem? (i := 11) rfl)
theorem d_RF_share_21 : decode Y_RF_share.2.1 21 = .ok (.if_icmp .lt 18, 3) := D_RF_share_0 (21, .if_icmp .lt 18, 3) (List.mem_of_getElem? (i := 12) rfl)
theorem d_RF_share_24 : decode Y_RF_share.2.1 24 = .ok (.iload_n 3, 1) := D_RF_share_0 (24, .iload_n 3, 1) (List.mem_of_getElem? (i := 13) rfl)
theorem d_RF_share_25 : decode Y_RF_share.2.1 25 = .ok (.bipush 10, 2) := D_RF_share_0 (25, .bipush 10, 2) (List.mem_of_getElem? (i := 14) rfl)
theorem d_RF_share_27 : decode Y_RF_share.2.1 27 = .ok (.if_icmp .gt 12, 3) := D_RF_share_0 (27, .if_icmp .gt 12, 3) (List.mem_of_getElem? (i := 15) rfl)
theorem d_RF_share_30 : decode Y_RF_share.2.1 30 = .ok (.iload_n 2, 1) := D_RF_share_0 (30, .iload_n 2, 1) (List.mem_of_getElem? (i := 16) rfl)
theorem d_RF_share_31 : decode Y_RF_share.2.1 31 = .ok (.ifCond .lt 8, 3) := D_RF_share_0 (31, .ifCond .lt 8, 3) (List.mem_of_getElem? (i := 17) rfl)
theorem d_RF_share_34 : decode Y_RF_share.2.1 34 = .ok (.iload_n 2, 1) := D_RF_share_0 (34, .iload_n 2, 1) (List.mem_of_getElem? (i := 18) rfl)
theorem d_RF_share_35 : decode Y_RF_share.2.1 35 = .ok (.iload_n 3, 1) := D_RF_share_0 (35, .iload_n 3, 1) (List.mem_of_getElem? (i := 19) rfl)
theorem d_RF_share_36 : decode Y_RF_share.2.1 36 = .ok (.if_icmp .le 13, 3) := D_RF_share_0 (36, .if_icmp .le 13, 3) (List.mem_of_getElem? (i := 20) rfl)
theorem d_RF_share_39 : decode Y_RF_share.2.1 39 = .ok (.new 59, 3) := D_RF_share_0 (39, .new 59, 3) (List.mem_of_getElem? (i := 21) rfl)
theorem d_RF_share_42 : decode Y_RF_share.2.1 42 = .ok (.dup, 1) := D_RF_share_0 (42, .dup, 1) (List.mem_of_getElem? (i := 22) rfl)
theorem d_RF_share_43 : decode Y_RF_share.2.1 43 = .ok (.ldc 61, 2) := D_RF_share_0 (43, .ldc 61, 2) (List.mem_of_getElem? (i := 23) rfl)
theorem d_RF_share_45 : decode Y_RF_share.2.1 45 = .ok (.invokespecial 63, 3) := D_RF_share_0 (45, .invokespecial 63, 3) (List.mem_of_getElem? (i := 24) rfl)
theorem d_RF_share_48 : decode Y_RF_share.2.1 48 = .ok (.athrow, 1) := D_RF_share_0 (48, .athrow, 1) (List.mem_of_getElem? (i := 25) rfl)
theorem d_RF_share_49 : decode Y_RF_share.2.1 49 = .ok (.iload_n 1, 1) := D_RF_share_0 (49, .iload_n 1, 1) (List.mem_of_getElem? (i := 26) rfl)
theorem d_RF_share_50 : decode Y_RF_share.2.1 50 = .ok (.ifCond .ne 10, 3) := D_RF_share_0 (50, .ifCond .ne 10, 3) (List.mem_of_getElem? (i := 27) rfl)
theorem d_RF_share_53 : decode Y_RF_share.2.1 53 = .ok (.aload_n 0, 1) := D_RF_share_0 (53, .aload_n 0, 1) (List.mem_of_getElem? (i := 28) rfl)
theorem d_RF_share_54 : decode Y_RF_share.2.1 54 = .ok (.getfield 12, 3) := D_RF_share_0 (54, .getfield 12, 3) (List.mem_of_getElem? (i := 29) rfl)
theorem d_RF_share_57 : decode Y_RF_share.2.1 57 = .ok (.goto 7, 3) := D_RF_share_0 (57, .goto 7, 3) (List.mem_of_getElem? (i := 30) rfl)
theorem d_RF_share_60 : decode Y_RF_share.2.1 60 = .ok (.aload_n 0, 1) := D_RF_share_0 (60, .aload_n 0, 1) (List.mem_of_getElem? (i := 31) rfl)
theorem d_RF_share_61 : decode Y_RF_share.2.1 61 = .ok (.getfield 18, 3) := D_RF_share_0 (61, .getfield 18, 3) (List.mem_of_getElem? (i := 32) rfl)
theorem d_RF_share_64 : decode Y_RF_share.2.1 64 = .ok (.astore 4, 2) := D_RF_share_0 (64, .astore 4, 2) (List.mem_of_getElem? (i := 33) rfl)
theorem d_RF_share_66 : decode Y_RF_share.2.1 66 = .ok (.aload 4, 2) := D_RF_share_0 (66, .aload 4, 2) (List.mem_of_getElem? (i := 34) rfl)
theorem d_RF_share_68 : decode Y_RF_share.2.1 68 = .ok (.iload_n 2, 1) := D_RF_share_0 (68, .iload_n 2, 1) (List.mem_of_getElem? (i := 35) rfl)
theorem d_RF_share_69 : decode Y_RF_share.2.1 69 = .ok (.putfield 64, 3) := D_RF_share_0 (69, .putfield 64, 3) (List.mem_of_getElem? (i := 36) rfl)
theorem d_RF_share_72 : decode Y_RF_share.2.1 72 = .ok (.aload 4, 2) := D_RF_share_0 (72, .aload 4, 2) (List.mem_of_getElem? (i := 37) rfl)
theorem d_RF_share_74 : decode Y_RF_share.2.1 74 = .ok (.iload_n 3, 1) := D_RF_share_0 (74, .iload_n 3, 1) (List.mem_of_getElem? (i := 38) rfl)
theorem d_RF_share_75 : decode Y_RF_share.2.1 75 = .ok (.putfield 68, 3) := D_RF_share_0 (75, .putfield 68, 3) (List.mem_of_getElem? (i := 39) rfl)
theorem d_RF_share_78 : decode Y_RF_share.2.1 78 = .ok (.return_, 1) := D_RF_share_0 (78, .return_, 1) (List.mem_of_getElem? (i := 40) rfl)
theorem D_RF_log_0 : ∀ q ∈ ([(0, .iload_n 1, 1), (1, .iconst 1, 1), (2, .if_icmp .lt 18, 3), (5, .iload_n 1, 1), (6, .sipush 1000, 3), (9, .if_icmp .gt 11, 3), (12, .iload_n 2, 1), (13, .ifCond .lt 7, 3), (16, .iload_n 3, 1), (17, .ifCond .ge 13, 3), (20, .new 59, 3), (23, .dup, 1), (24, .ldc 71, 2), (26, .invokespecial 63, 3), (29, .athrow, 1), (30, .iload_n 1, 1), (31, .i2l, 1), (32, .ldc2_w 73, 3), (35, .lmul, 1), (36, .lstore 4, 2), (38, .aload_n 0, 1), (39, .getfield 12, 3), (42, .lload 4, 2), (44, .invokevirtual 75, 3), (47, .lstore 6, 2), (49, .iload_n 2, 1), (50, .i2l, 1), (51, .ldc2_w 79, 3), (54, .lmul, 1), (55, .lstore 8, 2), (57, .iload_n 3, 1), (58, .i2l, 1), (59, .ldc2_w 79, 3), (62, .lmul, 1), (63, .lstore 10, 2), (65, .lload 4, 2), (67, .lload 6, 2), (69, .lsub, 1), (70, .lload 8, 2), (72, .lsub, 1), (73, .lload 10, 2), (75, .lsub, 1), (76, .lstore 12, 2), (78, .lload 12, 2), (80, .lconst 0, 1), (81, .lcmp, 1), (82, .ifCond .ge 13, 3), (85, .new 59, 3), (88, .dup, 1), (89, .ldc 81, 2), (91, .invokespecial 63, 3), (94, .athrow, 1), (95, .aload_n 0, 1), (96, .getfield 24, 3), (99, .lload 6, 2), (101, .lload 10, 2), (103, .lload 12, 2), (105, .aload_n 0, 1), (106, .getfield 18, 3), (109, .lload 12, 2)] : List (Nat × Instr × Nat)), decode prog_1_method_3_code q.1 = .ok (q.2.1, q.2.2) := by decide +kernel
theorem d_RF_log_0 : decode Y_RF_log.2.1 0 = .ok (.iload_n 1, 1) := D_RF_log_0 (0, .iload_n 1, 1) (List.mem_of_getElem? (i := 0) rfl)
theorem d_RF_log_1 : decode Y_RF_log.2.1 1 = .ok (.iconst 1, 1) := D_RF_log_0 (1, .iconst 1, 1) (List.mem_of_getElem? (i := 1) rfl)
theorem d_RF_log_2 : decode Y_RF_log.2.1 2 = .ok (.if_icmp .lt 18, 3) := D_RF_log_0 (2, .if_icmp .lt 18, 3) (List.mem_of_getElem? (i := 2) rfl)
theorem d_RF_log_5 : decode Y_RF_log.2.1 5 = .ok (.iload_n 1, 1) := D_RF_log_0 (5, .iload_n 1, 1) (List.mem_of_getElem? (i := 3) rfl)
theorem d_RF_log_6 : decode Y_RF_log.2.1 6 = .ok (.sipush 1000, 3) := D_RF_log_0 (6, .sipush 1000, 3) (List.mem_of_getElem? (i := 4) rfl)
theorem d_RF_log_9 : decode Y_RF_log.2.1 9 = .ok (.if_icmp .gt 11, 3) := D_RF_log_0 (9, .if_icmp .gt 11, 3) (List.mem_of_getElem? (i := 5) rfl)
theorem d_RF_log_12 : decode Y_RF_log.2.1 12 = .ok (.iload_n 2, 1) := D_RF_log_0 (12, .iload_n 2, 1) (List.mem_of_getElem? (i := 6) rfl)
theorem d_RF_log_13 : decode Y_RF_log.2.1 13 = .ok (.ifCond .lt 7, 3) := D_RF_log_0 (13, .ifCond .lt 7, 3) (List.mem_of_getElem? (i := 7) rfl)
theorem d_RF_log_16 : decode Y_RF_log.2.1 16 = .ok (.iload_n 3, 1) := D_RF_log_0 (16, .iload_n 3, 1) (List.mem_of_getElem? (i := 8) rfl)
theorem d_RF_log_17 : decode Y_RF_log.2.1 17 = .ok (.ifCond .ge 13, 3) := D_RF_log_0 (17, .ifCond .ge 13, 3) (List.mem_of_getElem? (i := 9) rfl)
theorem d_RF_log_20 : decode Y_RF_log.2.1 20 = .ok (.new 59, 3) := D_RF_log_0 (20, .new 59, 3) (List.mem_of_getElem? (i := 10) rfl)
theorem d_RF_log_23 : decode Y_RF_log.2.1 23 = .ok (.dup, 1) := D_RF_log_0 (23, .dup, 1) (List.mem_of_getElem? (i := 11) rfl)
theorem d_RF_log_24 : decode Y_RF_log.2.1 24 = .ok (.ldc 71, 2) := D_RF_log_0 (24, .ldc 71, 2) (List.mem_of_getElem? (i := 12) rfl)
theorem d_RF_log_26 : decode Y_RF_log.2.1 26 = .ok (.invokespecial 63, 3) := D_RF_log_0 (26, .invokespecial 63, 3) (List.mem_of_getElem? (i := 13) rfl)
theorem d_RF_log_29 : decode Y_RF_log.2.1 29 = .ok (.athrow, 1) := D_RF_log_0 (29, .athrow, 1) (List.mem_of_getElem? (i := 14) rfl)
theorem d_RF_log_30 : decode Y_RF_log.2.1 30 = .ok (.iload_n 1, 1) := D_RF_log_0 (30, .iload_n 1, 1) (List.mem_of_getElem? (i := 15) rfl)
theorem d_RF_log_31 : decode Y_RF_log.2.1 31 = .ok (.i2l, 1) := D_RF_log_0 (31, .i2l, 1) (List.mem_of_getElem? (i := 16) rfl)
theorem d_RF_log_32 : decode Y_RF_log.2.1 32 = .ok (.ldc2_w 73, 3) := D_RF_log_0 (32, .ldc2_w 73, 3) (List.mem_of_getElem? (i := 17) rfl)
theorem d_RF_log_35 : decode Y_RF_log.2.1 35 = .ok (.lmul, 1) := D_RF_log_0 (35, .lmul, 1) (List.mem_of_getElem? (i := 18) rfl)
theorem d_RF_log_36 : decode Y_RF_log.2.1 36 = .ok (.lstore 4, 2) := D_RF_log_0 (36, .lstore 4, 2) (List.mem_of_getElem? (i := 19) rfl)
theorem d_RF_log_38 : decode Y_RF_log.2.1 38 = .ok (.aload_n 0, 1) := D_RF_log_0 (38, .aload_n 0, 1) (List.mem_of_getElem? (i := 20) rfl)
theorem d_RF_log_39 : decode Y_RF_log.2.1 39 = .ok (.getfield 12, 3) := D_RF_log_0 (39, .getfield 12, 3) (List.mem_of_getElem? (i := 21) rfl)
theorem d_RF_log_42 : decode Y_RF_log.2.1 42 = .ok (.lload 4, 2) := D_RF_log_0 (42, .lload 4, 2) (List.mem_of_getElem? (i := 22) rfl)
theorem d_RF_log_44 : decode Y_RF_log.2.1 44 = .ok (.invokevirtual 75, 3) := D_RF_log_0 (44, .invokevirtual 75, 3) (List.mem_of_getElem? (i := 23) rfl)
theorem d_RF_log_47 : decode Y_RF_log.2.1 47 = .ok (.lstore 6, 2) := D_RF_log_0 (47, .lstore 6, 2) (List.mem_of_getElem? (i := 24) rfl)
theorem d_RF_log_49 : decode Y_RF_log.2.1 49 = .ok (.iload_n 2, 1) := D_RF_log_0 (49, .iload_n 2, 1) (List.mem_of_getElem? (i := 25) rfl)
theorem d_RF_log_50 : decode Y_RF_log.2.1 50 = .ok (.i2l, 1) := D_RF_log_0 (50, .i2l, 1) (List.mem_of_getElem? (i := 26) rfl)
theorem d_RF_log_51 : decode Y_RF_log.2.1 51 = .ok (.ldc2_w 79, 3) := D_RF_log_0 (51, .ldc2_w 79, 3) (List.mem_of_getElem? (i := 27) rfl)
theorem d_RF_log_54 : decode Y_RF_log.2.1 54 = .ok (.lmul, 1) := D_RF_log_0 (54, .lmul, 1) (List.mem_of_getElem? (i := 28) rfl)
theorem d_RF_log_55 : decode Y_RF_log.2.1 55 = .ok (.lstore 8, 2) := D_RF_log_0 (55, .lstore 8, 2) (List.mem_of_getElem? (i := 29) rfl)
theorem d_RF_log_57 : decode Y_RF_log.2.1 57 = .ok (.iload_n 3, 1) := D_RF_log_0 (57, .iload_n 3, 1) (List.mem_of_getElem? (i := 30) rfl)
theorem d_RF_log_58 : decode Y_RF_log.2.1 58 = .ok (.i2l, 1) := D_RF_log_0 (58, .i2l, 1) (List.mem_of_getElem? (i := 31) rfl)
theorem d_RF_log_59 : decode Y_RF_log.2.1 59 = .ok (.ldc2_w 79, 3) := D_RF_log_0 (59, .ldc2_w 79, 3) (List.mem_of_getElem? (i := 32) rfl)
theorem d_RF_log_62 : decode Y_RF_log.2.1 62 = .ok (.lmul, 1) := D_RF_log_0 (62, .lmul, 1) (List.mem_of_getElem? (i := 33) rfl)
theorem d_RF_log_63 : decode Y_RF_log.2.1 63 = .ok (.lstore 10, 2) := D_RF_log_0 (63, .lstore 10, 2) (List.mem_of_getElem? (i := 34) rfl)
theorem d_RF_log_65 : decode Y_RF_log.2.1 65 = .ok (.lload 4, 2) := D_RF_log_0 (65, .lload 4, 2) (List.mem_of_getElem? (i := 35) rfl)
theorem d_RF_log_67 : decode Y_RF_log.2.1 67 = .ok (.lload 6, 2) := D_RF_log_0 (67, .lload 6, 2) (List.mem_of_getElem? (i := 36) rfl)
theorem d_RF_log_69 : decode Y_RF_log.2.1 69 = .ok (.lsub, 1) := D_RF_log_0 (69, .lsub, 1) (List.mem_of_getElem? (i := 37) rfl)
theorem d_RF_log_70 : decode Y_RF_log.2.1 70 = .ok (.lload 8, 2) := D_RF_log_0 (70, .lload 8, 2) (List.mem_of_getElem? (i := 38) rfl)
theorem d_RF_log_72 : decode Y_RF_log.2.1 72 = .ok (.lsub, 1) := D_RF_log_0 (72, .lsub, 1) (List.mem_of_getElem? (i := 39) rfl)
theorem d_RF_log_73 : decode Y_RF_log.2.1 73 = .ok (.lload 10, 2) := D_RF_log_0 (73, .lload 10, 2) (List.mem_of_getElem? (i := 40) rfl)
theorem d_RF_log_75 : decode Y_RF_log.2.1 75 = .ok (.lsub, 1) := D_RF_log_0 (75, .lsub, 1) (List.mem_of_getElem? (i := 41) rfl)
theorem d_RF_log_76 : decode Y_RF_log.2.1 76 = .ok (.lstore 12, 2) := D_RF_log_0 (76, .lstore 12, 2) (List.mem_of_getElem? (i := 42) rfl)
theorem d_RF_log_78 : decode Y_RF_log.2.1 78 = .ok (.lload 12, 2) := D_RF_log_0 (78, .lload 12, 2) (List.mem_of_getElem? (i := 43) rfl)
theorem d_RF_log_80 : decode Y_RF_log.2.1 80 = .ok (.lconst 0, 1) := D_RF_log_0 (80, .lconst 0, 1) (List.mem_of_getElem? (i := 44) rfl)
theorem d_RF_log_81 : decode Y_RF_log.2.1 81 = .ok (.lcmp, 1) := D_RF_log_0 (81, .lcmp, 1) (List.mem_of_getElem? (i := 45) rfl)
theorem d_RF_log_82 : decode Y_RF_log.2.1 82 = .ok (.ifCond .ge 13, 3) := D_RF_log_0 (82, .ifCond .ge 13, 3) (List.mem_of_getElem? (i := 46) rfl)
theorem d_RF_log_85 : decode Y_RF_log.2.1 85 = .ok (.new 59, 3) := D_RF_log_0 (85, .new 59, 3) (List.mem_of_getElem? (i := 47) rfl)
theorem d_RF_log_88 : decode Y_RF_log.2.1 88 = .ok (.dup, 1) := D_RF_log_0 (88, .dup, 1) (List.mem_of_getElem? (i := 48) rfl)
theorem d_RF_log_89 : decode Y_RF_log.2.1 89 = .ok (.ldc 81, 2) := D_RF_log_0 (89, .ldc 81, 2) (List.mem_of_getElem? (i := 49) rfl)
theorem d_RF_log_91 : decode Y_RF_log.2.1 91 = .ok (.invokespecial 63, 3) := D_RF_log_0 (91, .invokespecial 63, 3) (List.mem_of_getElem? (i := 50) rfl)
theorem d_RF_log_94 : decode Y_RF_log.2.1 94 = .ok (.athrow, 1) := D_RF_log_0 (94, .athrow, 1) (List.mem_of_getElem? (i := 51) rfl)
theorem d_RF_log_95 : decode Y_RF_log.2.1 95 = .ok (.aload_n 0, 1) := D_RF_log_0 (95, .aload_n 0, 1) (List.mem_of_getElem? (i := 52) rfl)
theorem d_RF_log_96 : decode Y_RF_log.2.1 96 = .ok (.getfield 24, 3) := D_RF_log_0 (96, .getfield 24, 3) (List.mem_of_getElem? (i := 53) rfl)
theorem d_RF_log_99 : decode Y_RF_log.2.1 99 = .ok (.lload 6, 2) := D_RF_log_0 (99, .lload 6, 2) (List.mem_of_getElem? (i := 54) rfl)
theorem d_RF_log_101 : decode Y_RF_log.2.1 101 = .ok (.lload 10, 2) := D_RF_log_0 (101, .lload 10, 2) (List.mem_of_getElem? (i := 55) rfl)
theorem d_RF_log_103 : decode Y_RF_log.2.1 103 = .ok (.lload 12, 2) := D_RF_log_0 (103, .lload 12, 2) (List.mem_of_getElem? (i := 56) rfl)
theorem d_RF_log_105 : decode Y_RF_log.2.1 105 = .ok (.aload_n 0, 1) := D_RF_log_0 (105, .aload_n 0, 1) (List.mem_of_getElem? (i := 57) rfl)
theorem d_RF_log_106 : decode Y_RF_log.2.1 106 = .ok (.getfield 18, 3) := D_RF_log_0 (106, .getfield 18, 3) (List.mem_of_getElem? (i := 58) rfl)
theorem d_RF_log_109 : decode Y_RF_log.2.1 109 = .ok (.lload 12, 2) := D_RF_log_0 (109, .lload 12, 2) (List.mem_of_getElem? (i := 59) rfl)
theorem D_RF_log_1 : ∀ q ∈ ([(111, .invokevirtual 75, 3), (114, .lload 8, 2), (116, .invokevirtual 83, 3), (119, .aload_n 0, 1), (120, .getfield 28, 3), (123, .aload_n 0, 1), (124, .getfield 24, 3), (127, .invokevirtual 87, 3), (130, .aload_n 0, 1), (131, .getfield 91, 3), (134, .istore 14, 2), (136, .aload_n 0, 1), (137, .dup, 1), (138, .getfield 91, 3), (141, .iconst 1, 1), (142, .iadd, 1), (143, .putfield 91, 3), (146, .iload 14, 2), (148, .ireturn, 1)] : List (Nat × Instr × Nat)), decode prog_1_method_3_code q.1 = .ok (q.2.1, q.2.2) := by decide +kernel
theorem d_RF_log_111 : decode Y_RF_log.2.1 111 = .ok (.invokevirtual 75, 3) := D_RF_log_1 (111, .invokevirtual 75, 3) (List.mem_of_getElem? (i := 0) rfl)
theorem d_RF_log_114 : decode Y_RF_log.2.1 114 = .ok (.lload 8, 2) := D_RF_log_1 (114, .lload 8, 2) (List.mem_of_getElem? (i := 1) rfl)
theorem d_RF_log_116 : decode Y_RF_log.2.1 116 = .ok (.invokevirtual 83, 3) := D_RF_log_1 (116, .invokevirtual 83, 3) (List.mem_of_getElem? (i := 2) rfl)
theorem d_RF_log_119 : decode Y_RF_log.2.1 119 = .ok (.aload_n 0, 1) := D_RF_log_1 (119, .aload_n 0, 1) (List.mem_of_getElem? (i := 3) rfl)
theorem d_RF_log_120 : decode Y_RF_log.2.1 120 = .ok (.getfield 28, 3) := D_RF_log_1 (120, .getfield 28, 3) (List.mem_of_getElem? (i := 4) rfl)
theorem d_RF_log_123 : decode Y_RF_log.2.1 123 = .ok (.aload_n 0, 1) := D_RF_log_1 (123, .aload_n 0, 1) (List.mem_of_getElem? (i := 5) rfl)
theorem d_RF_log_124 : decode Y_RF_log.2.1 124 = .ok (.getfield 24, 3) := D_RF_log_1 (124, .getfield 24, 3) (List.mem_of_getElem? (i := 6) rfl)
theorem d_RF_log_127 : decode Y_RF_log.2.1 127 = .ok (.invokevirtual 87, 3) := D_RF_log_1 (127, .invokevirtual 87, 3) (List.mem_of_getElem? (i := 7) rfl)
theorem d_RF_log_130 : decode Y_RF_log.2.1 130 = .ok (.aload_n 0, 1) := D_RF_log_1 (130, .aload_n 0, 1) (List.mem_of_getElem? (i := 8) rfl)
theorem d_RF_log_131 : decode Y_RF_log.2.1 131 = .ok (.getfield 91, 3) := D_RF_log_1 (131, .getfield 91, 3) (List.mem_of_getElem? (i := 9) rfl)
theorem d_RF_log_134 : decode Y_RF_log.2.1 134 = .ok (.istore 14, 2) := D_RF_log_1 (134, .istore 14, 2) (List.mem_of_getElem? (i := 10) rfl)
theorem d_RF_log_136 : decode Y_RF_log.2.1 136 = .ok (.aload_n 0, 1) := D_RF_log_1 (136, .aload_n 0, 1) (List.mem_of_getElem? (i := 11) rfl)
theorem d_RF_log_137 : decode Y_RF_log.2.1 137 = .ok (.dup, 1) := D_RF_log_1 (137, .dup, 1) (List.mem_of_getElem? (i := 12) rfl)
theorem d_RF_log_138 : decode Y_RF_log.2.1 138 = .ok (.getfield 91, 3) := D_RF_log_1 (138, .getfield 91, 3) (List.mem_of_getElem? (i := 13) rfl)
theorem d_RF_log_141 : decode Y_RF_log.2.1 141 = .ok (.iconst 1, 1) := D_RF_log_1 (141, .iconst 1, 1) (List.mem_of_getElem? (i := 14) rfl)
theorem d_RF_log_142 : decode Y_RF_log.2.1 142 = .ok (.iadd, 1) := D_RF_log_1 (142, .iadd, 1) (List.mem_of_getElem? (i := 15) rfl)
theorem d_RF_log_143 : decode Y_RF_log.2.1 143 = .ok (.putfield 91, 3) := D_RF_log_1 (143, .putfield 91, 3) (List.mem_of_getElem? (i := 16) rfl)
theorem d_RF_log_146 : decode Y_RF_log.2.1 146 = .ok (.iload 14, 2) := D_RF_log_1 (146, .iload 14, 2) (List.mem_of_getElem? (i := 17) rfl)
theorem d_RF_log_148 : decode Y_RF_log.2.1 148 = .ok (.ireturn, 1) := D_RF_log_1 (148, .ireturn, 1) (List.mem_of_getElem? (i := 18) rfl)
theorem D_RF_portion_0 : ∀ q ∈ ([(0, .lload 4, 2), (2, .lconst 1, 1), (3, .lcmp, 1), (4, .ifCond .ge 7, 3), (7, .lconst 0, 1), (8, .goto 9, 3), (11, .lload_n 0, 1), (12, .lload_n 2, 1), (13, .lmul, 1), (14, .lload 4, 2), (16, .ldiv, 1), (17, .lreturn, 1)] : List (Nat × Instr × Nat)), decode prog_1_method_31_code q.1 = .ok (q.2.1, q.2.2) := by decide +kernel
theorem d_RF_portion_0 : decode Y_RF_portion.2.1 0 = .ok (.lload 4, 2) := D_RF_portion_0 (0, .lload 4, 2) (List.mem_of_getElem? (i := 0) rfl)
theorem d_RF_portion_2 : decode Y_RF_portion.2.1 2 = .ok (.lconst 1, 1) := D_RF_portion_0 (2, .lconst 1, 1) (List.mem_of_getElem? (i := 1) rfl)
theorem d_RF_portion_3 : decode Y_RF_portion.2.1 3 = .ok (.lcmp, 1) := D_RF_portion_0 (3, .lcmp, 1) (List.mem_of_getElem? (i := 2) rfl)
theorem d_RF_portion_4 : decode Y_RF_portion.2.1 4 = .ok (.ifCond .ge 7, 3) := D_RF_portion_0 (4, .ifCond .ge 7, 3) (List.mem_of_getElem? (i := 3) rfl)
theorem d_RF_portion_7 : decode Y_RF_portion.2.1 7 = .ok (.lconst 0, 1) := D_RF_portion_0 (7, .lconst 0, 1) (List.mem_of_getElem? (i := 4) rfl)
theorem d_RF_portion_8 : decode Y_RF_portion.2.1 8 = .ok (.goto 9, 3) := D_RF_portion_0 (8, .goto 9, 3) (List.mem_of_getElem? (i := 5) rfl)
theorem d_RF_portion_11 : decode Y_RF_portion.2.1 11 = .ok (.lload_n 0, 1) := D_RF_portion_0 (11, .lload_n 0, 1) (List.mem_of_getElem? (i := 6) rfl)
theorem d_RF_portion_12 : decode Y_RF_portion.2.1 12 = .ok (.lload_n 2, 1) := D_RF_portion_0 (12, .lload_n 2, 1) (List.mem_of_getElem? (i := 7) rfl)
theorem d_RF_portion_13 : decode Y_RF_portion.2.1 13 = .ok (.lmul, 1) := D_RF_portion_0 (13, .lmul, 1) (List.mem_of_getElem? (i := 8) rfl)
theorem d_RF_portion_14 : decode Y_RF_portion.2.1 14 = .ok (.lload 4, 2) := D_RF_portion_0 (14, .lload 4, 2) (List.mem_of_getElem? (i := 9) rfl)
theorem d_RF_portion_16 : decode Y_RF_portion.2.1 16 = .ok (.ldiv, 1) := D_RF_portion_0 (16, .ldiv, 1) (List.mem_of_getElem? (i := 10) rfl)
theorem d_RF_portion_17 : decode Y_RF_portion.2.1 17 = .ok (.lreturn, 1) := D_RF_portion_0 (17, .lreturn, 1) (List.mem_of_getElem? (i := 11) rfl)
theorem D_RF_volume_0 : ∀ q ∈ ([(0, .iload_n 1, 1), (1, .invokestatic 94, 3), (4, .aload_n 0, 1), (5, .invokevirtual 98, 3), (8, .iload_n 2, 1), (9, .ifCond .eq 14, 3), (12, .aload_n 0, 1), (13, .getfield 28, 3), (16, .iload_n 1, 1), (17, .invokevirtual 101, 3), (20, .goto 11, 3), (23, .aload_n 0, 1), (24, .getfield 24, 3), (27, .iload_n 1, 1), (28, .invokevirtual 101, 3), (31, .lreturn, 1)] : List (Nat × Instr × Nat)), decode prog_1_method_4_code q.1 = .ok (q.2.1, q.2.2) := by decide +kernel
theorem d_RF_volume_0 : decode Y_RF_volume.2.1 0 = .ok (.iload_n 1, 1) := D_RF_volume_0 (0, .iload_n 1, 1) (List.mem_of_getElem? (i := 0) rfl)
theorem d_RF_volume_1 : decode Y_RF_volume.2.1 1 = .ok (.invokestatic 94, 3) := D_RF_volume_0 (1, .invokestatic 94, 3) (List.mem_of_getElem? (i := 1) rfl)
theorem d_RF_volume_4 : decode Y_RF_volume.2.1 4 = .ok (.aload_n 0, 1) := D_RF_volume_0 (4, .aload_n 0, 1) (List.mem_of_getElem? (i := 2) rfl)
theorem d_RF_volume_5 : decode Y_RF_volume.2.1 5 = .ok (.invokevirtual 98, 3) := D_RF_volume_0 (5, .invokevirtual 98, 3) (List.mem_of_getElem? (i := 3) rfl)
theorem d_RF_volume_8 : decode Y_RF_volume.2.1 8 = .ok (.iload_n 2, 1) := D_RF_volume_0 (8, .iload_n 2, 1) (List.mem_of_getElem? (i := 4) rfl)
theorem d_RF_volume_9 : decode Y_RF_volume.2.1 9 = .ok (.ifCond .eq 14, 3) := D_RF_volume_0 (9, .ifCond .eq 14, 3) (List.mem_of_getElem? (i := 5) rfl)
theorem d_RF_volume_12 : decode Y_RF_volume.2.1 12 = .ok (.aload_n 0, 1) := D_RF_volume_0 (12, .aload_n 0, 1) (List.mem_of_getElem? (i := 6) rfl)
theorem d_RF_volume_13 : decode Y_RF_volume.2.1 13 = .ok (.getfield 28, 3) := D_RF_volume_0 (13, .getfield 28, 3) (List.mem_of_getElem? (i := 7) rfl)
theorem d_RF_volume_16 : decode Y_RF_volume.2.1 16 = .ok (.iload_n 1, 1) := D_RF_volume_0 (16, .iload_n 1, 1) (List.mem_of_getElem? (i := 8) rfl)
theorem d_RF_volume_17 : decode Y_RF_volume.2.1 17 = .ok (.invokevirtual 101, 3) := D_RF_volume_0 (17, .invokevirtual 101, 3) (List.mem_of_getElem? (i := 9) rfl)
theorem d_RF_volume_20 : decode Y_RF_volume.2.1 20 = .ok (.goto 11, 3) := D_RF_volume_0 (20, .goto 11, 3) (List.mem_of_getElem? (i := 10) rfl)
theorem d_RF_volume_23 : decode Y_RF_volume.2.1 23 = .ok (.aload_n 0, 1) := D_RF_volume_0 (23, .aload_n 0, 1) (List.mem_of_getElem? (i := 11) rfl)
theorem d_RF_volume_24 : decode Y_RF_volume.2.1 24 = .ok (.getfield 24, 3) := D_RF_volume_0 (24, .getfield 24, 3) (List.mem_of_getElem? (i := 12) rfl)
theorem d_RF_volume_27 : decode Y_RF_volume.2.1 27 = .ok (.iload_n 1, 1) := D_RF_volume_0 (27, .iload_n 1, 1) (List.mem_of_getElem? (i := 13) rfl)
theorem d_RF_volume_28 : decode Y_RF_volume.2.1 28 = .ok (.invokevirtual 101, 3) := D_RF_volume_0 (28, .invokevirtual 101, 3) (List.mem_of_getElem? (i := 14) rfl)
theorem d_RF_volume_31 : decode Y_RF_volume.2.1 31 = .ok (.lreturn, 1) := D_RF_volume_0 (31, .lreturn, 1) (List.mem_of_getElem? (i := 15) rfl)
theorem D_RF_checkKind_0 : ∀ q ∈ ([(0, .iload_n 0, 1), (1, .ifCond .lt 8, 3), (4, .iload_n 0, 1), (5, .iconst 4, 1), (6, .if_icmp .lt 14, 3), (9, .new 52, 3), (12, .dup, 1), (13, .ldc_w 280, 3), (16, .invokespecial 56, 3), (19, .athrow, 1), (20, .return_, 1)] : List (Nat × Instr × Nat)), decode prog_1_method_20_code q.1 = .ok (q.2.1, q.2.2) := by decide +kernel
theorem d_RF_checkKind_0 : decode Y_RF_checkKind.2.1 0 = .ok (.iload_n 0, 1) := D_RF_checkKind_0 (0, .iload_n 0, 1) (List.mem_of_getElem? (i := 0) rfl)
theorem d_RF_checkKind_1 : decode Y_RF_checkKind.2.1 1 = .ok (.ifCond .lt 8, 3) := D_RF_checkKind_0 (1, .ifCond .lt 8, 3) (List.mem_of_getElem? (i := 1) rfl)
theorem d_RF_checkKind_4 : decode Y_RF_checkKind.2.1 4 = .ok (.iload_n 0, 1) := D_RF_checkKind_0 (4, .iload_n 0, 1) (List.mem_of_getElem? (i := 2) rfl)
theorem d_RF_checkKind_5 : decode Y_RF_checkKind.2.1 5 = .ok (.iconst 4, 1) := D_RF_checkKind_0 (5, .iconst 4, 1) (List.mem_of_getElem? (i := 3) rfl)
theorem d_RF_checkKind_6 : decode Y_RF_checkKind.2.1 6 = .ok (.if_icmp .lt 14, 3) := D_RF_checkKind_0 (6, .if_icmp .lt 14, 3) (List.mem_of_getElem? (i := 4) rfl)
theorem d_RF_checkKind_9 : decode Y_RF_checkKind.2.1 9 = .ok (.new 52, 3) := D_RF_checkKind_0 (9, .new 52, 3) (List.mem_of_getElem? (i := 5) rfl)
theorem d_RF_checkKind_12 : decode Y_RF_checkKind.2.1 12 = .ok (.dup, 1) := D_RF_checkKind_0 (12, .dup, 1) (List.mem_of_getElem? (i := 6) rfl)
theorem d_RF_checkKind_13 : decode Y_RF_checkKind.2.1 13 = .ok (.ldc_w 280, 3) := D_RF_checkKind_0 (13, .ldc_w 280, 3) (List.mem_of_getElem? (i := 7) rfl)
theorem d_RF_checkKind_16 : decode Y_RF_checkKind.2.1 16 = .ok (.invokespecial 56, 3) := D_RF_checkKind_0 (16, .invokespecial 56, 3) (List.mem_of_getElem? (i := 8) rfl)
theorem d_RF_checkKind_19 : decode Y_RF_checkKind.2.1 19 = .ok (.athrow, 1) := D_RF_checkKind_0 (19, .athrow, 1) (List.mem_of_getElem? (i := 9) rfl)
theorem d_RF_checkKind_20 : decode Y_RF_checkKind.2.1 20 = .ok (.return_, 1) := D_RF_checkKind_0 (20, .return_, 1) (List.mem_of_getElem? (i := 10) rfl)
theorem D_RF_checkLogs_0 : ∀ q ∈ ([(0, .aload_n 0, 1), (1, .getfield 91, 3), (4, .ifCond .ne 14, 3), (7, .new 115, 3), (10, .dup, 1), (11, .ldc_w 282, 3), (14, .invokespecial 119, 3), (17, .athrow, 1), (18, .return_, 1)] : List (Nat × Instr × Nat)), decode prog_1_method_21_code q.1 = .ok (q.2.1, q.2.2) := by decide +kernel
theorem d_RF_checkLogs_0 : decode Y_RF_checkLogs.2.1 0 = .ok (.aload_n 0, 1) := D_RF_checkLogs_0 (0, .aload_n 0, 1) (List.mem_of_getElem? (i := 0) rfl)
theorem d_RF_checkLogs_1 : decode Y_RF_checkLogs.2.1 1 = .ok (.getfield 91, 3) := D_RF_checkLogs_0 (1, .getfield 91, 3) (List.mem_of_getElem? (i := 1) rfl)
theorem d_RF_checkLogs_4 : decode Y_RF_checkLogs.2.1 4 = .ok (.ifCond .ne 14, 3) := D_RF_checkLogs_0 (4, .ifCond .ne 14, 3) (List.mem_of_getElem? (i := 2) rfl)
theorem d_RF_checkLogs_7 : decode Y_RF_checkLogs.2.1 7 = .ok (.new 115, 3) := D_RF_checkLogs_0 (7, .new 115, 3) (List.mem_of_getElem? (i := 3) rfl)
theorem d_RF_checkLogs_10 : decode Y_RF_checkLogs.2.1 10 = .ok (.dup, 1) := D_RF_checkLogs_0 (10, .dup, 1) (List.mem_of_getElem? (i := 4) rfl)
theorem d_RF_checkLogs_11 : decode Y_RF_checkLogs.2.1 11 = .ok (.ldc_w 282, 3) := D_RF_checkLogs_0 (11, .ldc_w 282, 3) (List.mem_of_getElem? (i := 5) rfl)
theorem d_RF_checkLogs_14 : decode Y_RF_checkLogs.2.1 14 = .ok (.invokespecial 119, 3) := D_RF_checkLogs_0 (14, .invokespecial 119, 3) (List.mem_of_getElem? (i := 6) rfl)
theorem d_RF_checkLogs_17 : decode Y_RF_checkLogs.2.1 17 = .ok (.athrow, 1) := D_RF_checkLogs_0 (17, .athrow, 1) (List.mem_of_getElem? (i := 7) rfl)
theorem d_RF_checkLogs_18 : decode Y_RF_checkLogs.2.1 18 = .ok (.return_, 1) := D_RF_checkLogs_0 (18, .return_, 1) (List.mem_of_getElem? (i := 8) rfl)
theorem D_RF_boards_0 : ∀ q ∈ ([(0, .aload_n 0, 1), (1, .invokevirtual 98, 3), (4, .iload_n 1, 1), (5, .ifCond .eq 13, 3), (8, .aload_n 0, 1), (9, .getfield 28, 3), (12, .getfield 105, 3), (15, .goto 10, 3), (18, .aload_n 0, 1), (19, .getfield 24, 3), (22, .getfield 105, 3), (25, .lreturn, 1)] : List (Nat × Instr × Nat)), decode prog_1_method_5_code q.1 = .ok (q.2.1, q.2.2) := by decide +kernel
theorem d_RF_boards_0 : decode Y_RF_boards.2.1 0 = .ok (.aload_n 0, 1) := D_RF_boards_0 (0, .aload_n 0, 1) (List.mem_of_getElem? (i := 0) rfl)
theorem d_RF_boards_1 : decode Y_RF_boards.2.1 1 = .ok (.invokevirtual 98, 3) := D_RF_boards_0 (1, .invokevirtual 98, 3) (List.mem_of_getElem? (i := 1) rfl)
theorem d_RF_boards_4 : decode Y_RF_boards.2.1 4 = .ok (.iload_n 1, 1) := D_RF_boards_0 (4, .iload_n 1, 1) (List.mem_of_getElem? (i := 2) rfl)
theorem d_RF_boards_5 : decode Y_RF_boards.2.1 5 = .ok (.ifCond .eq 13, 3) := D_RF_boards_0 (5, .ifCond .eq 13, 3) (List.mem_of_getElem? (i := 3) rfl)
theorem d_RF_boards_8 : decode Y_RF_boards.2.1 8 = .ok (.aload_n 0, 1) := D_RF_boards_0 (8, .aload_n 0, 1) (List.mem_of_getElem? (i := 4) rfl)
theorem d_RF_boards_9 : decode Y_RF_boards.2.1 9 = .ok (.getfield 28, 3) := D_RF_boards_0 (9, .getfield 28, 3) (List.mem_of_getElem? (i := 5) rfl)
theorem d_RF_boards_12 : decode Y_RF_boards.2.1 12 = .ok (.getfield 105, 3) := D_RF_boards_0 (12, .getfield 105, 3) (List.mem_of_getElem? (i := 6) rfl)
theorem d_RF_boards_15 : decode Y_RF_boards.2.1 15 = .ok (.goto 10, 3) := D_RF_boards_0 (15, .goto 10, 3) (List.mem_of_getElem? (i := 7) rfl)
theorem d_RF_boards_18 : decode Y_RF_boards.2.1 18 = .ok (.aload_n 0, 1) := D_RF_boards_0 (18, .aload_n 0, 1) (List.mem_of_getElem? (i := 8) rfl)
theorem d_RF_boards_19 : decode Y_RF_boards.2.1 19 = .ok (.getfield 24, 3) := D_RF_boards_0 (19, .getfield 24, 3) (List.mem_of_getElem? (i := 9) rfl)
theorem d_RF_boards_22 : decode Y_RF_boards.2.1 22 = .ok (.getfield 105, 3) := D_RF_boards_0 (22, .getfield 105, 3) (List.mem_of_getElem? (i := 10) rfl)
theorem d_RF_boards_25 : decode Y_RF_boards.2.1 25 = .ok (.lreturn, 1) := D_RF_boards_0 (25, .lreturn, 1) (List.mem_of_getElem? (i := 11) rfl)
theorem D_RF_bin_0 : ∀ q ∈ ([(0, .iload_n 1, 1), (1, .invokestatic 94, 3), (4, .iload_n 2, 1), (5, .iconst 1, 1), (6, .if_icmp .lt 9, 3), (9, .iload_n 2, 1), (10, .ldc 109, 2), (12, .if_icmp .le 13, 3), (15, .new 59, 3), (18, .dup, 1), (19, .ldc 110, 2), (21, .invokespecial 63, 3), (24, .athrow, 1), (25, .aload_n 0, 1), (26, .getfield 112, 3), (29, .bipush 8, 2), (31, .if_icmp .lt 13, 3), (34, .new 115, 3), (37, .dup, 1), (38, .ldc 117, 2), (40, .invokespecial 119, 3), (43, .athrow, 1), (44, .aload_n 0, 1), (45, .getfield 112, 3), (48, .istore_n 3, 1), (49, .aload_n 0, 1), (50, .getfield 33, 3), (53, .iload_n 3, 1), (54, .aaload, 1), (55, .iload_n 1, 1), (56, .putfield 120, 3), (59, .aload_n 0, 1), (60, .getfield 33, 3), (63, .iload_n 3, 1), (64, .aaload, 1), (65, .iload_n 2, 1), (66, .putfield 123, 3), (69, .aload_n 0, 1), (70, .dup, 1), (71, .getfield 112, 3), (74, .iconst 1, 1), (75, .iadd, 1), (76, .putfield 112, 3), (79, .iload_n 3, 1), (80, .ireturn, 1)] : List (Nat × Instr × Nat)), decode prog_1_method_6_code q.1 = .ok (q.2.1, q.2.2) := by decide +kernel
theorem d_RF_bin_0 : decode Y_RF_bin.2.1 0 = .ok (.iload_n 1, 1) := D_RF_bin_0 (0, .iload_n 1, 1) (List.mem_of_getElem? (i := 0) rfl)
theorem d_RF_bin_1 : decode Y_RF_bin.2.1 1 = .ok (.invokestatic 94, 3) := D_RF_bin_0 (1, .invokestatic 94, 3) (List.mem_of_getElem? (i := 1) rfl)
theorem d_RF_bin_4 : decode Y_RF_bin.2.1 4 = .ok (.iload_n 2, 1) := D_RF_bin_0 (4, .iload_n 2, 1) (List.mem_of_getElem? (i := 2) rfl)
theorem d_RF_bin_5 : decode Y_RF_bin.2.1 5 = .ok (.iconst 1, 1) := D_RF_bin_0 (5, .iconst 1, 1) (List.mem_of_getElem? (i := 3) rfl)
theorem d_RF_bin_6 : decode Y_RF_bin.2.1 6 = .ok (.if_icmp .lt 9, 3) := D_RF_bin_0 (6, .if_icmp .lt 9, 3) (List.mem_of_getElem? (i := 4) rfl)
theorem d_RF_bin_9 : decode Y_RF_bin.2.1 9 = .ok (.iload_n 2, 1) := D_RF_bin_0 (9, .iload_n 2, 1) (List.mem_of_getElem? (i := 5) rfl)
theorem d_RF_bin_10 : decode Y_RF_bin.2.1 10 = .ok (.ldc 109, 2) := D_RF_bin_0 (10, .ldc 109, 2) (List.mem_of_getElem? (i := 6) rfl)
theorem d_RF_bin_12 : decode Y_RF_bin.2.1 12 = .ok (.if_icmp .le 13, 3) := D_RF_bin_0 (12, .if_icmp .le 13, 3) (List.mem_of_getElem? (i := 7) rfl)
theorem d_RF_bin_15 : decode Y_RF_bin.2.1 15 = .ok (.new 59, 3) := D_RF_bin_0 (15, .new 59, 3) (List.mem_of_getElem? (i := 8) rfl)
theorem d_RF_bin_18 : decode Y_RF_bin.2.1 18 = .ok (.dup, 1) := D_RF_bin_0 (18, .dup, 1) (List.mem_of_getElem? (i := 9) rfl)
theorem d_RF_bin_19 : decode Y_RF_bin.2.1 19 = .ok (.ldc 110, 2) := D_RF_bin_0 (19, .ldc 110, 2) (List.mem_of_getElem? (i := 10) rfl)
theorem d_RF_bin_21 : decode Y_RF_bin.2.1 21 = .ok (.invokespecial 63, 3) := D_RF_bin_0 (21, .invokespecial 63, 3) (List.mem_of_getElem? (i := 11) rfl)
theorem d_RF_bin_24 : decode Y_RF_bin.2.1 24 = .ok (.athrow, 1) := D_RF_bin_0 (24, .athrow, 1) (List.mem_of_getElem? (i := 12) rfl)
theorem d_RF_bin_25 : decode Y_RF_bin.2.1 25 = .ok (.aload_n 0, 1) := D_RF_bin_0 (25, .aload_n 0, 1) (List.mem_of_getElem? (i := 13) rfl)
theorem d_RF_bin_26 : decode Y_RF_bin.2.1 26 = .ok (.getfield 112, 3) := D_RF_bin_0 (26, .getfield 112, 3) (List.mem_of_getElem? (i := 14) rfl)
theorem d_RF_bin_29 : decode Y_RF_bin.2.1 29 = .ok (.bipush 8, 2) := D_RF_bin_0 (29, .bipush 8, 2) (List.mem_of_getElem? (i := 15) rfl)
theorem d_RF_bin_31 : decode Y_RF_bin.2.1 31 = .ok (.if_icmp .lt 13, 3) := D_RF_bin_0 (31, .if_icmp .lt 13, 3) (List.mem_of_getElem? (i := 16) rfl)
theorem d_RF_bin_34 : decode Y_RF_bin.2.1 34 = .ok (.new 115, 3) := D_RF_bin_0 (34, .new 115, 3) (List.mem_of_getElem? (i := 17) rfl)
theorem d_RF_bin_37 : decode Y_RF_bin.2.1 37 = .ok (.dup, 1) := D_RF_bin_0 (37, .dup, 1) (List.mem_of_getElem? (i := 18) rfl)
theorem d_RF_bin_38 : decode Y_RF_bin.2.1 38 = .ok (.ldc 117, 2) := D_RF_bin_0 (38, .ldc 117, 2) (List.mem_of_getElem? (i := 19) rfl)
theorem d_RF_bin_40 : decode Y_RF_bin.2.1 40 = .ok (.invokespecial 119, 3) := D_RF_bin_0 (40, .invokespecial 119, 3) (List.mem_of_getElem? (i := 20) rfl)
theorem d_RF_bin_43 : decode Y_RF_bin.2.1 43 = .ok (.athrow, 1) := D_RF_bin_0 (43, .athrow, 1) (List.mem_of_getElem? (i := 21) rfl)
theorem d_RF_bin_44 : decode Y_RF_bin.2.1 44 = .ok (.aload_n 0, 1) := D_RF_bin_0 (44, .aload_n 0, 1) (List.mem_of_getElem? (i := 22) rfl)
theorem d_RF_bin_45 : decode Y_RF_bin.2.1 45 = .ok (.getfield 112, 3) := D_RF_bin_0 (45, .getfield 112, 3) (List.mem_of_getElem? (i := 23) rfl)
theorem d_RF_bin_48 : decode Y_RF_bin.2.1 48 = .ok (.istore_n 3, 1) := D_RF_bin_0 (48, .istore_n 3, 1) (List.mem_of_getElem? (i := 24) rfl)
theorem d_RF_bin_49 : decode Y_RF_bin.2.1 49 = .ok (.aload_n 0, 1) := D_RF_bin_0 (49, .aload_n 0, 1) (List.mem_of_getElem? (i := 25) rfl)
theorem d_RF_bin_50 : decode Y_RF_bin.2.1 50 = .ok (.getfield 33, 3) := D_RF_bin_0 (50, .getfield 33, 3) (List.mem_of_getElem? (i := 26) rfl)
theorem d_RF_bin_53 : decode Y_RF_bin.2.1 53 = .ok (.iload_n 3, 1) := D_RF_bin_0 (53, .iload_n 3, 1) (List.mem_of_getElem? (i := 27) rfl)
theorem d_RF_bin_54 : decode Y_RF_bin.2.1 54 = .ok (.aaload, 1) := D_RF_bin_0 (54, .aaload, 1) (List.mem_of_getElem? (i := 28) rfl)
theorem d_RF_bin_55 : decode Y_RF_bin.2.1 55 = .ok (.iload_n 1, 1) := D_RF_bin_0 (55, .iload_n 1, 1) (List.mem_of_getElem? (i := 29) rfl)
theorem d_RF_bin_56 : decode Y_RF_bin.2.1 56 = .ok (.putfield 120, 3) := D_RF_bin_0 (56, .putfield 120, 3) (List.mem_of_getElem? (i := 30) rfl)
theorem d_RF_bin_59 : decode Y_RF_bin.2.1 59 = .ok (.aload_n 0, 1) := D_RF_bin_0 (59, .aload_n 0, 1) (List.mem_of_getElem? (i := 31) rfl)
theorem d_RF_bin_60 : decode Y_RF_bin.2.1 60 = .ok (.getfield 33, 3) := D_RF_bin_0 (60, .getfield 33, 3) (List.mem_of_getElem? (i := 32) rfl)
theorem d_RF_bin_63 : decode Y_RF_bin.2.1 63 = .ok (.iload_n 3, 1) := D_RF_bin_0 (63, .iload_n 3, 1) (List.mem_of_getElem? (i := 33) rfl)
theorem d_RF_bin_64 : decode Y_RF_bin.2.1 64 = .ok (.aaload, 1) := D_RF_bin_0 (64, .aaload, 1) (List.mem_of_getElem? (i := 34) rfl)
theorem d_RF_bin_65 : decode Y_RF_bin.2.1 65 = .ok (.iload_n 2, 1) := D_RF_bin_0 (65, .iload_n 2, 1) (List.mem_of_getElem? (i := 35) rfl)
theorem d_RF_bin_66 : decode Y_RF_bin.2.1 66 = .ok (.putfield 123, 3) := D_RF_bin_0 (66, .putfield 123, 3) (List.mem_of_getElem? (i := 36) rfl)
theorem d_RF_bin_69 : decode Y_RF_bin.2.1 69 = .ok (.aload_n 0, 1) := D_RF_bin_0 (69, .aload_n 0, 1) (List.mem_of_getElem? (i := 37) rfl)
theorem d_RF_bin_70 : decode Y_RF_bin.2.1 70 = .ok (.dup, 1) := D_RF_bin_0 (70, .dup, 1) (List.mem_of_getElem? (i := 38) rfl)
theorem d_RF_bin_71 : decode Y_RF_bin.2.1 71 = .ok (.getfield 112, 3) := D_RF_bin_0 (71, .getfield 112, 3) (List.mem_of_getElem? (i := 39) rfl)
theorem d_RF_bin_74 : decode Y_RF_bin.2.1 74 = .ok (.iconst 1, 1) := D_RF_bin_0 (74, .iconst 1, 1) (List.mem_of_getElem? (i := 40) rfl)
theorem d_RF_bin_75 : decode Y_RF_bin.2.1 75 = .ok (.iadd, 1) := D_RF_bin_0 (75, .iadd, 1) (List.mem_of_getElem? (i := 41) rfl)
theorem d_RF_bin_76 : decode Y_RF_bin.2.1 76 = .ok (.putfield 112, 3) := D_RF_bin_0 (76, .putfield 112, 3) (List.mem_of_getElem? (i := 42) rfl)
theorem d_RF_bin_79 : decode Y_RF_bin.2.1 79 = .ok (.iload_n 3, 1) := D_RF_bin_0 (79, .iload_n 3, 1) (List.mem_of_getElem? (i := 43) rfl)
theorem d_RF_bin_80 : decode Y_RF_bin.2.1 80 = .ok (.ireturn, 1) := D_RF_bin_0 (80, .ireturn, 1) (List.mem_of_getElem? (i := 44) rfl)
theorem D_RF_pour_0 : ∀ q ∈ ([(0, .aload_n 0, 1), (1, .iload_n 1, 1), (2, .invokevirtual 126, 3), (5, .astore 4, 2), (7, .iload_n 2, 1), (8, .iload_n 3, 1), (9, .invokestatic 130, 3), (12, .aload 4, 2), (14, .iload_n 2, 1), (15, .invokevirtual 133, 3), (18, .ifCond .ne 5, 3), (21, .iconst 0, 1), (22, .ireturn, 1), (23, .aload_n 0, 1), (24, .aload 4, 2), (26, .iload_n 2, 1), (27, .iload_n 3, 1), (28, .invokevirtual 137, 3), (31, .iconst 1, 1), (32, .ireturn, 1)] : List (Nat × Instr × Nat)), decode prog_1_method_7_code q.1 = .ok (q.2.1, q.2.2) := by decide +kernel
theorem d_RF_pour_0 : decode Y_RF_pour.2.1 0 = .ok (.aload_n 0, 1) := D_RF_pour_0 (0, .aload_n 0, 1) (List.mem_of_getElem? (i := 0) rfl)
theorem d_RF_pour_1 : decode Y_RF_pour.2.1 1 = .ok (.iload_n 1, 1) := D_RF_pour_0 (1, .iload_n 1, 1) (List.mem_of_getElem? (i := 1) rfl)
theorem d_RF_pour_2 : decode Y_RF_pour.2.1 2 = .ok (.invokevirtual 126, 3) := D_RF_pour_0 (2, .invokevirtual 126, 3) (List.mem_of_getElem? (i := 2) rfl)
theorem d_RF_pour_5 : decode Y_RF_pour.2.1 5 = .ok (.astore 4, 2) := D_RF_pour_0 (5, .astore 4, 2) (List.mem_of_getElem? (i := 3) rfl)
theorem d_RF_pour_7 : decode Y_RF_pour.2.1 7 = .ok (.iload_n 2, 1) := D_RF_pour_0 (7, .iload_n 2, 1) (List.mem_of_getElem? (i := 4) rfl)
theorem d_RF_pour_8 : decode Y_RF_pour.2.1 8 = .ok (.iload_n 3, 1) := D_RF_pour_0 (8, .iload_n 3, 1) (List.mem_of_getElem? (i := 5) rfl)
theorem d_RF_pour_9 : decode Y_RF_pour.2.1 9 = .ok (.invokestatic 130, 3) := D_RF_pour_0 (9, .invokestatic 130, 3) (List.mem_of_getElem? (i := 6) rfl)
theorem d_RF_pour_12 : decode Y_RF_pour.2.1 12 = .ok (.aload 4, 2) := D_RF_pour_0 (12, .aload 4, 2) (List.mem_of_getElem? (i := 7) rfl)
theorem d_RF_pour_14 : decode Y_RF_pour.2.1 14 = .ok (.iload_n 2, 1) := D_RF_pour_0 (14, .iload_n 2, 1) (List.mem_of_getElem? (i := 8) rfl)
theorem d_RF_pour_15 : decode Y_RF_pour.2.1 15 = .ok (.invokevirtual 133, 3) := D_RF_pour_0 (15, .invokevirtual 133, 3) (List.mem_of_getElem? (i := 9) rfl)
theorem d_RF_pour_18 : decode Y_RF_pour.2.1 18 = .ok (.ifCond .ne 5, 3) := D_RF_pour_0 (18, .ifCond .ne 5, 3) (List.mem_of_getElem? (i := 10) rfl)
theorem d_RF_pour_21 : decode Y_RF_pour.2.1 21 = .ok (.iconst 0, 1) := D_RF_pour_0 (21, .iconst 0, 1) (List.mem_of_getElem? (i := 11) rfl)
theorem d_RF_pour_22 : decode Y_RF_pour.2.1 22 = .ok (.ireturn, 1) := D_RF_pour_0 (22, .ireturn, 1) (List.mem_of_getElem? (i := 12) rfl)
theorem d_RF_pour_23 : decode Y_RF_pour.2.1 23 = .ok (.aload_n 0, 1) := D_RF_pour_0 (23, .aload_n 0, 1) (List.mem_of_getElem? (i := 13) rfl)
theorem d_RF_pour_24 : decode Y_RF_pour.2.1 24 = .ok (.aload 4, 2) := D_RF_pour_0 (24, .aload 4, 2) (List.mem_of_getElem? (i := 14) rfl)
theorem d_RF_pour_26 : decode Y_RF_pour.2.1 26 = .ok (.iload_n 2, 1) := D_RF_pour_0 (26, .iload_n 2, 1) (List.mem_of_getElem? (i := 15) rfl)
theorem d_RF_pour_27 : decode Y_RF_pour.2.1 27 = .ok (.iload_n 3, 1) := D_RF_pour_0 (27, .iload_n 3, 1) (List.mem_of_getElem? (i := 16) rfl)
theorem d_RF_pour_28 : decode Y_RF_pour.2.1 28 = .ok (.invokevirtual 137, 3) := D_RF_pour_0 (28, .invokevirtual 137, 3) (List.mem_of_getElem? (i := 17) rfl)
theorem d_RF_pour_31 : decode Y_RF_pour.2.1 31 = .ok (.iconst 1, 1) := D_RF_pour_0 (31, .iconst 1, 1) (List.mem_of_getElem? (i := 18) rfl)
theorem d_RF_pour_32 : decode Y_RF_pour.2.1 32 = .ok (.ireturn, 1) := D_RF_pour_0 (32, .ireturn, 1) (List.mem_of_getElem? (i := 19) rfl)
theorem D_RF_binAt_0 : ∀ q ∈ ([(0, .iload_n 1, 1), (1, .ifCond .lt 17, 3), (4, .iload_n 1, 1), (5, .aload_n 0, 1), (6, .getfield 112, 3), (9, .if_icmp .ge 9, 3), (12, .iload_n 1, 1), (13, .bipush 8, 2), (15, .if_icmp .lt 14, 3), (18, .new 52, 3), (21, .dup, 1), (22, .ldc_w 294, 3), (25, .invokespecial 56, 3), (28, .athrow, 1), (29, .aload_n 0, 1), (30, .getfield 33, 3), (33, .iload_n 1, 1), (34, .aaload, 1), (35, .areturn, 1)] : List (Nat × Instr × Nat)), decode prog_1_method_26_code q.1 = .ok (q.2.1, q.2.2) := by decide +kernel
theorem d_RF_binAt_0 : decode Y_RF_binAt.2.1 0 = .ok (.iload_n 1, 1) := D_RF_binAt_0 (0, .iload_n 1, 1) (List.mem_of_getElem? (i := 0) rfl)
theorem d_RF_binAt_1 : decode Y_RF_binAt.2.1 1 = .ok (.ifCond .lt 17, 3) := D_RF_binAt_0 (1, .ifCond .lt 17, 3) (List.mem_of_getElem? (i := 1) rfl)
theorem d_RF_binAt_4 : decode Y_RF_binAt.2.1 4 = .ok (.iload_n 1, 1) := D_RF_binAt_0 (4, .iload_n 1, 1) (List.mem_of_getElem? (i := 2) rfl)
theorem d_RF_binAt_5 : decode Y_RF_binAt.2.1 5 = .ok (.aload_n 0, 1) := D_RF_binAt_0 (5, .aload_n 0, 1) (List.mem_of_getElem? (i := 3) rfl)
theorem d_RF_binAt_6 : decode Y_RF_binAt.2.1 6 = .ok (.getfield 112, 3) := D_RF_binAt_0 (6, .getfield 112, 3) (List.mem_of_getElem? (i := 4) rfl)
theorem d_RF_binAt_9 : decode Y_RF_binAt.2.1 9 = .ok (.if_icmp .ge 9, 3) := D_RF_binAt_0 (9, .if_icmp .ge 9, 3) (List.mem_of_getElem? (i := 5) rfl)
theorem d_RF_binAt_12 : decode Y_RF_binAt.2.1 12 = .ok (.iload_n 1, 1) := D_RF_binAt_0 (12, .iload_n 1, 1) (List.mem_of_getElem? (i := 6) rfl)
theorem d_RF_binAt_13 : decode Y_RF_binAt.2.1 13 = .ok (.bipush 8, 2) := D_RF_binAt_0 (13, .bipush 8, 2) (List.mem_of_getElem? (i := 7) rfl)
theorem d_RF_binAt_15 : decode Y_RF_binAt.2.1 15 = .ok (.if_icmp .lt 14, 3) := D_RF_binAt_0 (15, .if_icmp .lt 14, 3) (List.mem_of_getElem? (i := 8) rfl)
theorem d_RF_binAt_18 : decode Y_RF_binAt.2.1 18 = .ok (.new 52, 3) := D_RF_binAt_0 (18, .new 52, 3) (List.mem_of_getElem? (i := 9) rfl)
theorem d_RF_binAt_21 : decode Y_RF_binAt.2.1 21 = .ok (.dup, 1) := D_RF_binAt_0 (21, .dup, 1) (List.mem_of_getElem? (i := 10) rfl)
theorem d_RF_binAt_22 : decode Y_RF_binAt.2.1 22 = .ok (.ldc_w 294, 3) := D_RF_binAt_0 (22, .ldc_w 294, 3) (List.mem_of_getElem? (i := 11) rfl)
theorem d_RF_binAt_25 : decode Y_RF_binAt.2.1 25 = .ok (.invokespecial 56, 3) := D_RF_binAt_0 (25, .invokespecial 56, 3) (List.mem_of_getElem? (i := 12) rfl)
theorem d_RF_binAt_28 : decode Y_RF_binAt.2.1 28 = .ok (.athrow, 1) := D_RF_binAt_0 (28, .athrow, 1) (List.mem_of_getElem? (i := 13) rfl)
theorem d_RF_binAt_29 : decode Y_RF_binAt.2.1 29 = .ok (.aload_n 0, 1) := D_RF_binAt_0 (29, .aload_n 0, 1) (List.mem_of_getElem? (i := 14) rfl)
theorem d_RF_binAt_30 : decode Y_RF_binAt.2.1 30 = .ok (.getfield 33, 3) := D_RF_binAt_0 (30, .getfield 33, 3) (List.mem_of_getElem? (i := 15) rfl)
theorem d_RF_binAt_33 : decode Y_RF_binAt.2.1 33 = .ok (.iload_n 1, 1) := D_RF_binAt_0 (33, .iload_n 1, 1) (List.mem_of_getElem? (i := 16) rfl)
theorem d_RF_binAt_34 : decode Y_RF_binAt.2.1 34 = .ok (.aaload, 1) := D_RF_binAt_0 (34, .aaload, 1) (List.mem_of_getElem? (i := 17) rfl)
theorem d_RF_binAt_35 : decode Y_RF_binAt.2.1 35 = .ok (.areturn, 1) := D_RF_binAt_0 (35, .areturn, 1) (List.mem_of_getElem? (i := 18) rfl)
theorem D_RF_checkPoured_0 : ∀ q ∈ ([(0, .iload_n 0, 1), (1, .ifCond .lt 20, 3), (4, .iload_n 0, 1), (5, .ldc 109, 2), (7, .if_icmp .gt 14, 3), (10, .iload_n 1, 1), (11, .ifCond .lt 10, 3), (14, .iload_n 1, 1), (15, .sipush 1000, 3), (18, .if_icmp .le 14, 3), (21, .new 59, 3), (24, .dup, 1), (25, .ldc_w 284, 3), (28, .invokespecial 63, 3), (31, .athrow, 1), (32, .return_, 1)] : List (Nat × Instr × Nat)), decode prog_1_method_22_code q.1 = .ok (q.2.1, q.2.2) := by decide +kernel
theorem d_RF_checkPoured_0 : decode Y_RF_checkPoured.2.1 0 = .ok (.iload_n 0, 1) := D_RF_checkPoured_0 (0, .iload_n 0, 1) (List.mem_of_getElem? (i := 0) rfl)
theorem d_RF_checkPoured_1 : decode Y_RF_checkPoured.2.1 1 = .ok (.ifCond .lt 20, 3) := D_RF_checkPoured_0 (1, .ifCond .lt 20, 3) (List.mem_of_getElem? (i := 1) rfl)
theorem d_RF_checkPoured_4 : decode Y_RF_checkPoured.2.1 4 = .ok (.iload_n 0, 1) := D_RF_checkPoured_0 (4, .iload_n 0, 1) (List.mem_of_getElem? (i := 2) rfl)
theorem d_RF_checkPoured_5 : decode Y_RF_checkPoured.2.1 5 = .ok (.ldc 109, 2) := D_RF_checkPoured_0 (5, .ldc 109, 2) (List.mem_of_getElem? (i := 3) rfl)
theorem d_RF_checkPoured_7 : decode Y_RF_checkPoured.2.1 7 = .ok (.if_icmp .gt 14, 3) := D_RF_checkPoured_0 (7, .if_icmp .gt 14, 3) (List.mem_of_getElem? (i := 4) rfl)
theorem d_RF_checkPoured_10 : decode Y_RF_checkPoured.2.1 10 = .ok (.iload_n 1, 1) := D_RF_checkPoured_0 (10, .iload_n 1, 1) (List.mem_of_getElem? (i := 5) rfl)
theorem d_RF_checkPoured_11 : decode Y_RF_checkPoured.2.1 11 = .ok (.ifCond .lt 10, 3) := D_RF_checkPoured_0 (11, .ifCond .lt 10, 3) (List.mem_of_getElem? (i := 6) rfl)
theorem d_RF_checkPoured_14 : decode Y_RF_checkPoured.2.1 14 = .ok (.iload_n 1, 1) := D_RF_checkPoured_0 (14, .iload_n 1, 1) (List.mem_of_getElem? (i := 7) rfl)
theorem d_RF_checkPoured_15 : decode Y_RF_checkPoured.2.1 15 = .ok (.sipush 1000, 3) := D_RF_checkPoured_0 (15, .sipush 1000, 3) (List.mem_of_getElem? (i := 8) rfl)
theorem d_RF_checkPoured_18 : decode Y_RF_checkPoured.2.1 18 = .ok (.if_icmp .le 14, 3) := D_RF_checkPoured_0 (18, .if_icmp .le 14, 3) (List.mem_of_getElem? (i := 9) rfl)
theorem d_RF_checkPoured_21 : decode Y_RF_checkPoured.2.1 21 = .ok (.new 59, 3) := D_RF_checkPoured_0 (21, .new 59, 3) (List.mem_of_getElem? (i := 10) rfl)
theorem d_RF_checkPoured_24 : decode Y_RF_checkPoured.2.1 24 = .ok (.dup, 1) := D_RF_checkPoured_0 (24, .dup, 1) (List.mem_of_getElem? (i := 11) rfl)
theorem d_RF_checkPoured_25 : decode Y_RF_checkPoured.2.1 25 = .ok (.ldc_w 284, 3) := D_RF_checkPoured_0 (25, .ldc_w 284, 3) (List.mem_of_getElem? (i := 12) rfl)
theorem d_RF_checkPoured_28 : decode Y_RF_checkPoured.2.1 28 = .ok (.invokespecial 63, 3) := D_RF_checkPoured_0 (28, .invokespecial 63, 3) (List.mem_of_getElem? (i := 13) rfl)
theorem d_RF_checkPoured_31 : decode Y_RF_checkPoured.2.1 31 = .ok (.athrow, 1) := D_RF_checkPoured_0 (31, .athrow, 1) (List.mem_of_getElem? (i := 14) rfl)
theorem d_RF_checkPoured_32 : decode Y_RF_checkPoured.2.1 32 = .ok (.return_, 1) := D_RF_checkPoured_0 (32, .return_, 1) (List.mem_of_getElem? (i := 15) rfl)
theorem D_RF_pourInto_0 : ∀ q ∈ ([(0, .aload_n 1, 1), (1, .iload_n 2, 1), (2, .i2l, 1), (3, .sipush 1000, 3), (6, .iload_n 3, 1), (7, .isub, 1), (8, .i2l, 1), (9, .lmul, 1), (10, .iload_n 2, 1), (11, .i2l, 1), (12, .iload_n 3, 1), (13, .i2l, 1), (14, .lmul, 1), (15, .invokevirtual 274, 3), (18, .aload_n 0, 1), (19, .dup, 1), (20, .getfield 199, 3), (23, .iload_n 2, 1), (24, .i2l, 1), (25, .ldc2_w 290, 3), (28, .lmul, 1), (29, .ladd, 1), (30, .putfield 199, 3), (33, .return_, 1)] : List (Nat × Instr × Nat)), decode prog_1_method_28_code q.1 = .ok (q.2.1, q.2.2) := by decide +kernel
theorem d_RF_pourInto_0 : decode Y_RF_pourInto.2.1 0 = .ok (.aload_n 1, 1) := D_RF_pourInto_0 (0, .aload_n 1, 1) (List.mem_of_getElem? (i := 0) rfl)
theorem d_RF_pourInto_1 : decode Y_RF_pourInto.2.1 1 = .ok (.iload_n 2, 1) := D_RF_pourInto_0 (1, .iload_n 2, 1) (List.mem_of_getElem? (i := 1) rfl)
theorem d_RF_pourInto_2 : decode Y_RF_pourInto.2.1 2 = .ok (.i2l, 1) := D_RF_pourInto_0 (2, .i2l, 1) (List.mem_of_getElem? (i := 2) rfl)
theorem d_RF_pourInto_3 : decode Y_RF_pourInto.2.1 3 = .ok (.sipush 1000, 3) := D_RF_pourInto_0 (3, .sipush 1000, 3) (List.mem_of_getElem? (i := 3) rfl)
theorem d_RF_pourInto_6 : decode Y_RF_pourInto.2.1 6 = .ok (.iload_n 3, 1) := D_RF_pourInto_0 (6, .iload_n 3, 1) (List.mem_of_getElem? (i := 4) rfl)
theorem d_RF_pourInto_7 : decode Y_RF_pourInto.2.1 7 = .ok (.isub, 1) := D_RF_pourInto_0 (7, .isub, 1) (List.mem_of_getElem? (i := 5) rfl)
theorem d_RF_pourInto_8 : decode Y_RF_pourInto.2.1 8 = .ok (.i2l, 1) := D_RF_pourInto_0 (8, .i2l, 1) (List.mem_of_getElem? (i := 6) rfl)
theorem d_RF_pourInto_9 : decode Y_RF_pourInto.2.1 9 = .ok (.lmul, 1) := D_RF_pourInto_0 (9, .lmul, 1) (List.mem_of_getElem? (i := 7) rfl)
theorem d_RF_pourInto_10 : decode Y_RF_pourInto.2.1 10 = .ok (.iload_n 2, 1) := D_RF_pourInto_0 (10, .iload_n 2, 1) (List.mem_of_getElem? (i := 8) rfl)
theorem d_RF_pourInto_11 : decode Y_RF_pourInto.2.1 11 = .ok (.i2l, 1) := D_RF_pourInto_0 (11, .i2l, 1) (List.mem_of_getElem? (i := 9) rfl)
theorem d_RF_pourInto_12 : decode Y_RF_pourInto.2.1 12 = .ok (.iload_n 3, 1) := D_RF_pourInto_0 (12, .iload_n 3, 1) (List.mem_of_getElem? (i := 10) rfl)
theorem d_RF_pourInto_13 : decode Y_RF_pourInto.2.1 13 = .ok (.i2l, 1) := D_RF_pourInto_0 (13, .i2l, 1) (List.mem_of_getElem? (i := 11) rfl)
theorem d_RF_pourInto_14 : decode Y_RF_pourInto.2.1 14 = .ok (.lmul, 1) := D_RF_pourInto_0 (14, .lmul, 1) (List.mem_of_getElem? (i := 12) rfl)
theorem d_RF_pourInto_15 : decode Y_RF_pourInto.2.1 15 = .ok (.invokevirtual 274, 3) := D_RF_pourInto_0 (15, .invokevirtual 274, 3) (List.mem_of_getElem? (i := 13) rfl)
theorem d_RF_pourInto_18 : decode Y_RF_pourInto.2.1 18 = .ok (.aload_n 0, 1) := D_RF_pourInto_0 (18, .aload_n 0, 1) (List.mem_of_getElem? (i := 14) rfl)
theorem d_RF_pourInto_19 : decode Y_RF_pourInto.2.1 19 = .ok (.dup, 1) := D_RF_pourInto_0 (19, .dup, 1) (List.mem_of_getElem? (i := 15) rfl)
theorem d_RF_pourInto_20 : decode Y_RF_pourInto.2.1 20 = .ok (.getfield 199, 3) := D_RF_pourInto_0 (20, .getfield 199, 3) (List.mem_of_getElem? (i := 16) rfl)
theorem d_RF_pourInto_23 : decode Y_RF_pourInto.2.1 23 = .ok (.iload_n 2, 1) := D_RF_pourInto_0 (23, .iload_n 2, 1) (List.mem_of_getElem? (i := 17) rfl)
theorem d_RF_pourInto_24 : decode Y_RF_pourInto.2.1 24 = .ok (.i2l, 1) := D_RF_pourInto_0 (24, .i2l, 1) (List.mem_of_getElem? (i := 18) rfl)
theorem d_RF_pourInto_25 : decode Y_RF_pourInto.2.1 25 = .ok (.ldc2_w 290, 3) := D_RF_pourInto_0 (25, .ldc2_w 290, 3) (List.mem_of_getElem? (i := 19) rfl)
theorem d_RF_pourInto_28 : decode Y_RF_pourInto.2.1 28 = .ok (.lmul, 1) := D_RF_pourInto_0 (28, .lmul, 1) (List.mem_of_getElem? (i := 20) rfl)
theorem d_RF_pourInto_29 : decode Y_RF_pourInto.2.1 29 = .ok (.ladd, 1) := D_RF_pourInto_0 (29, .ladd, 1) (List.mem_of_getElem? (i := 21) rfl)
theorem d_RF_pourInto_30 : decode Y_RF_pourInto.2.1 30 = .ok (.putfield 199, 3) := D_RF_pourInto_0 (30, .putfield 199, 3) (List.mem_of_getElem? (i := 22) rfl)
theorem d_RF_pourInto_33 : decode Y_RF_pourInto.2.1 33 = .ok (.return_, 1) := D_RF_pourInto_0 (33, .return_, 1) (List.mem_of_getElem? (i := 23) rfl)
theorem D_RF_about_0 : ∀ q ∈ ([(0, .aload_n 0, 1), (1, .iload_n 1, 1), (2, .invokevirtual 126, 3), (5, .astore_n 3, 1), (6, .iload_n 2, 1), (7, .tableswitch 69 0 5 #[37, 42, 47, 53, 59, 64], 37), (44, .aload_n 3, 1), (45, .getfield 141, 3), (48, .lreturn, 1), (49, .aload_n 3, 1), (50, .getfield 144, 3), (53, .lreturn, 1), (54, .aload_n 3, 1), (55, .getfield 123, 3), (58, .i2l, 1), (59, .lreturn, 1), (60, .aload_n 3, 1), (61, .getfield 120, 3), (64, .i2l, 1), (65, .lreturn, 1), (66, .aload_n 3, 1), (67, .getfield 147, 3), (70, .lreturn, 1), (71, .aload_n 3, 1), (72, .invokevirtual 150, 3), (75, .lreturn, 1), (76, .new 52, 3), (79, .dup, 1), (80, .ldc 154, 2), (82, .invokespecial 56, 3), (85, .athrow, 1)] : List (Nat × Instr × Nat)), decode prog_1_method_8_code q.1 = .ok (q.2.1, q.2.2) := by decide +kernel
theorem d_RF_about_0 : decode Y_RF_about.2.1 0 = .ok (.aload_n 0, 1) := D_RF_about_0 (0, .aload_n 0, 1) (List.mem_of_getElem? (i := 0) rfl)
theorem d_RF_about_1 : decode Y_RF_about.2.1 1 = .ok (.iload_n 1, 1) := D_RF_about_0 (1, .iload_n 1, 1) (List.mem_of_getElem? (i := 1) rfl)
theorem d_RF_about_2 : decode Y_RF_about.2.1 2 = .ok (.invokevirtual 126, 3) := D_RF_about_0 (2, .invokevirtual 126, 3) (List.mem_of_getElem? (i := 2) rfl)
theorem d_RF_about_5 : decode Y_RF_about.2.1 5 = .ok (.astore_n 3, 1) := D_RF_about_0 (5, .astore_n 3, 1) (List.mem_of_getElem? (i := 3) rfl)
theorem d_RF_about_6 : decode Y_RF_about.2.1 6 = .ok (.iload_n 2, 1) := D_RF_about_0 (6, .iload_n 2, 1) (List.mem_of_getElem? (i := 4) rfl)
theorem d_RF_about_7 : decode Y_RF_about.2.1 7 = .ok (.tableswitch 69 0 5 #[37, 42, 47, 53, 59, 64], 37) := D_RF_about_0 (7, .tableswitch 69 0 5 #[37, 42, 47, 53, 59, 64], 37) (List.mem_of_getElem? (i := 5) rfl)
theorem d_RF_about_44 : decode Y_RF_about.2.1 44 = .ok (.aload_n 3, 1) := D_RF_about_0 (44, .aload_n 3, 1) (List.mem_of_getElem? (i := 6) rfl)
theorem d_RF_about_45 : decode Y_RF_about.2.1 45 = .ok (.getfield 141, 3) := D_RF_about_0 (45, .getfield 141, 3) (List.mem_of_getElem? (i := 7) rfl)
theorem d_RF_about_48 : decode Y_RF_about.2.1 48 = .ok (.lreturn, 1) := D_RF_about_0 (48, .lreturn, 1) (List.mem_of_getElem? (i := 8) rfl)
theorem d_RF_about_49 : decode Y_RF_about.2.1 49 = .ok (.aload_n 3, 1) := D_RF_about_0 (49, .aload_n 3, 1) (List.mem_of_getElem? (i := 9) rfl)
theorem d_RF_about_50 : decode Y_RF_about.2.1 50 = .ok (.getfield 144, 3) := D_RF_about_0 (50, .getfield 144, 3) (List.mem_of_getElem? (i := 10) rfl)
theorem d_RF_about_53 : decode Y_RF_about.2.1 53 = .ok (.lreturn, 1) := D_RF_about_0 (53, .lreturn, 1) (List.mem_of_getElem? (i := 11) rfl)
theorem d_RF_about_54 : decode Y_RF_about.2.1 54 = .ok (.aload_n 3, 1) := D_RF_about_0 (54, .aload_n 3, 1) (List.mem_of_getElem? (i := 12) rfl)
theorem d_RF_about_55 : decode Y_RF_about.2.1 55 = .ok (.getfield 123, 3) := D_RF_about_0 (55, .getfield 123, 3) (List.mem_of_getElem? (i := 13) rfl)
theorem d_RF_about_58 : decode Y_RF_about.2.1 58 = .ok (.i2l, 1) := D_RF_about_0 (58, .i2l, 1) (List.mem_of_getElem? (i := 14) rfl)
theorem d_RF_about_59 : decode Y_RF_about.2.1 59 = .ok (.lreturn, 1) := D_RF_about_0 (59, .lreturn, 1) (List.mem_of_getElem? (i := 15) rfl)
theorem d_RF_about_60 : decode Y_RF_about.2.1 60 = .ok (.aload_n 3, 1) := D_RF_about_0 (60, .aload_n 3, 1) (List.mem_of_getElem? (i := 16) rfl)
theorem d_RF_about_61 : decode Y_RF_about.2.1 61 = .ok (.getfield 120, 3) := D_RF_about_0 (61, .getfield 120, 3) (List.mem_of_getElem? (i := 17) rfl)
theorem d_RF_about_64 : decode Y_RF_about.2.1 64 = .ok (.i2l, 1) := D_RF_about_0 (64, .i2l, 1) (List.mem_of_getElem? (i := 18) rfl)
theorem d_RF_about_65 : decode Y_RF_about.2.1 65 = .ok (.lreturn, 1) := D_RF_about_0 (65, .lreturn, 1) (List.mem_of_getElem? (i := 19) rfl)
theorem d_RF_about_66 : decode Y_RF_about.2.1 66 = .ok (.aload_n 3, 1) := D_RF_about_0 (66, .aload_n 3, 1) (List.mem_of_getElem? (i := 20) rfl)
theorem d_RF_about_67 : decode Y_RF_about.2.1 67 = .ok (.getfield 147, 3) := D_RF_about_0 (67, .getfield 147, 3) (List.mem_of_getElem? (i := 21) rfl)
theorem d_RF_about_70 : decode Y_RF_about.2.1 70 = .ok (.lreturn, 1) := D_RF_about_0 (70, .lreturn, 1) (List.mem_of_getElem? (i := 22) rfl)
theorem d_RF_about_71 : decode Y_RF_about.2.1 71 = .ok (.aload_n 3, 1) := D_RF_about_0 (71, .aload_n 3, 1) (List.mem_of_getElem? (i := 23) rfl)
theorem d_RF_about_72 : decode Y_RF_about.2.1 72 = .ok (.invokevirtual 150, 3) := D_RF_about_0 (72, .invokevirtual 150, 3) (List.mem_of_getElem? (i := 24) rfl)
theorem d_RF_about_75 : decode Y_RF_about.2.1 75 = .ok (.lreturn, 1) := D_RF_about_0 (75, .lreturn, 1) (List.mem_of_getElem? (i := 25) rfl)
theorem d_RF_about_76 : decode Y_RF_about.2.1 76 = .ok (.new 52, 3) := D_RF_about_0 (76, .new 52, 3) (List.mem_of_getElem? (i := 26) rfl)
theorem d_RF_about_79 : decode Y_RF_about.2.1 79 = .ok (.dup, 1) := D_RF_about_0 (79, .dup, 1) (List.mem_of_getElem? (i := 27) rfl)
theorem d_RF_about_80 : decode Y_RF_about.2.1 80 = .ok (.ldc 154, 2) := D_RF_about_0 (80, .ldc 154, 2) (List.mem_of_getElem? (i := 28) rfl)
theorem d_RF_about_82 : decode Y_RF_about.2.1 82 = .ok (.invokespecial 56, 3) := D_RF_about_0 (82, .invokespecial 56, 3) (List.mem_of_getElem? (i := 29) rfl)
theorem d_RF_about_85 : decode Y_RF_about.2.1 85 = .ok (.athrow, 1) := D_RF_about_0 (85, .athrow, 1) (List.mem_of_getElem? (i := 30) rfl)
theorem D_RF_screen_0 : ∀ q ∈ ([(0, .aload_n 0, 1), (1, .iload_n 1, 1), (2, .invokevirtual 156, 3), (5, .astore 7, 2), (7, .aload_n 0, 1), (8, .iload_n 2, 1), (9, .invokevirtual 126, 3), (12, .astore 8, 2), (14, .aload_n 0, 1), (15, .iload_n 3, 1), (16, .invokevirtual 126, 3), (19, .astore 9, 2), (21, .aload_n 0, 1), (22, .iload 4, 2), (24, .invokevirtual 126, 3), (27, .astore 10, 2), (29, .iload_n 2, 1), (30, .iload_n 3, 1), (31, .if_icmp .eq 15, 3), (34, .iload_n 2, 1), (35, .iload 4, 2), (37, .if_icmp .eq 9, 3), (40, .iload_n 3, 1), (41, .iload 4, 2), (43, .if_icmp .ne 13, 3), (46, .new 59, 3), (49, .dup, 1), (50, .ldc 160, 2), (52, .invokespecial 63, 3), (55, .athrow, 1), (56, .aload 8, 2), (58, .getfield 120, 3), (61, .aload 9, 2), (63, .getfield 120, 3), (66, .if_icmp .ne 16, 3), (69, .aload 8, 2), (71, .getfield 120, 3), (74, .aload 10, 2), (76, .getfield 120, 3), (79, .if_icmp .eq 13, 3), (82, .new 59, 3), (85, .dup, 1), (86, .ldc 162, 2), (88, .invokespecial 63, 3), (91, .athrow, 1), (92, .iload 5, 2), (94, .ifCond .lt 22, 3), (97, .iload 6, 2), (99, .ifCond .lt 17, 3), (102, .iload 5, 2), (104, .i2l, 1), (105, .iload 6, 2), (107, .i2l, 1), (108, .ladd, 1), (109, .ldc2_w 164, 3), (112, .lcmp, 1), (113, .ifCond .le 13, 3), (116, .new 59, 3), (119, .dup, 1), (120, .ldc 166, 2)] : List (Nat × Instr × Nat)), decode prog_1_method_9_code q.1 = .ok (q.2.1, q.2.2) := by decide +kernel
theorem d_RF_screen_0 : decode Y_RF_screen.2.1 0 = .ok (.aload_n 0, 1) := D_RF_screen_0 (0, .aload_n 0, 1) (List.mem_of_getElem? (i := 0) rfl)
theorem d_RF_screen_1 : decode Y_RF_screen.2.1 1 = .ok (.iload_n 1, 1) := D_RF_screen_0 (1, .iload_n 1, 1) (List.mem_of_getElem? (i := 1) rfl)
theorem d_RF_screen_2 : decode Y_RF_screen.2.1 2 = .ok (.invokevirtual 156, 3) := D_RF_screen_0 (2, .invokevirtual 156, 3) (List.mem_of_getElem? (i := 2) rfl)
theorem d_RF_screen_5 : decode Y_RF_screen.2.1 5 = .ok (.astore 7, 2) := D_RF_screen_0 (5, .astore 7, 2) (List.mem_of_getElem? (i := 3) rfl)
theorem d_RF_screen_7 : decode Y_RF_screen.2.1 7 = .ok (.aload_n 0, 1) := D_RF_screen_0 (7, .aload_n 0, 1) (List.mem_of_getElem? (i := 4) rfl)
theorem d_RF_screen_8 : decode Y_RF_screen.2.1 8 = .ok (.iload_n 2, 1) := D_RF_screen_0 (8, .iload_n 2, 1) (List.mem_of_getElem? (i := 5) rfl)
theorem d_RF_screen_9 : decode Y_RF_screen.2.1 9 = .ok (.invokevirtual 126, 3) := D_RF_screen_0 (9, .invokevirtual 126, 3) (List.mem_of_getElem? (i := 6) rfl)
theorem d_RF_screen_12 : decode Y_RF_screen.2.1 12 = .ok (.astore 8, 2) := D_RF_screen_0 (12, .astore 8, 2) (List.mem_of_getElem? (i := 7) rfl)
theorem d_RF_screen_14 : decode Y_RF_screen.2.1 14 = .ok (.aload_n 0, 1) := D_RF_screen_0 (14, .aload_n 0, 1) (List.mem_of_getElem? (i := 8) rfl)
theorem d_RF_screen_15 : decode Y_RF_screen.2.1 15 = .ok (.iload_n 3, 1) := D_RF_screen_0 (15, .iload_n 3, 1) (List.mem_of_getElem? (i := 9) rfl)
theorem d_RF_screen_16 : decode Y_RF_screen.2.1 16 = .ok (.invokevirtual 126, 3) := D_RF_screen_0 (16, .invokevirtual 126, 3) (List.mem_of_getElem? (i := 10) rfl)
theorem d_RF_screen_19 : decode Y_RF_screen.2.1 19 = .ok (.astore 9, 2) := D_RF_screen_0 (19, .astore 9, 2) (List.mem_of_getElem? (i := 11) rfl)
theorem d_RF_screen_21 : decode Y_RF_screen.2.1 21 = .ok (.aload_n 0, 1) := D_RF_screen_0 (21, .aload_n 0, 1) (List.mem_of_getElem? (i := 12) rfl)
theorem d_RF_screen_22 : decode Y_RF_screen.2.1 22 = .ok (.iload 4, 2) := D_RF_screen_0 (22, .iload 4, 2) (List.mem_of_getElem? (i := 13) rfl)
theorem d_RF_screen_24 : decode Y_RF_screen.2.1 24 = .ok (.invokevirtual 126, 3) := D_RF_screen_0 (24, .invokevirtual 126, 3) (List.mem_of_getElem? (i := 14) rfl)
theorem d_RF_screen_27 : decode Y_RF_screen.2.1 27 = .ok (.astore 10, 2) := D_RF_screen_0 (27, .astore 10, 2) (List.mem_of_getElem? (i := 15) rfl)
theorem d_RF_screen_29 : decode Y_RF_screen.2.1 29 = .ok (.iload_n 2, 1) := D_RF_screen_0 (29, .iload_n 2, 1) (List.mem_of_getElem? (i := 16) rfl)
theorem d_RF_screen_30 : decode Y_RF_screen.2.1 30 = .ok (.iload_n 3, 1) := D_RF_screen_0 (30, .iload_n 3, 1) (List.mem_of_getElem? (i := 17) rfl)
theorem d_RF_screen_31 : decode Y_RF_screen.2.1 31 = .ok (.if_icmp .eq 15, 3) := D_RF_screen_0 (31, .if_icmp .eq 15, 3) (List.mem_of_getElem? (i := 18) rfl)
theorem d_RF_screen_34 : decode Y_RF_screen.2.1 34 = .ok (.iload_n 2, 1) := D_RF_screen_0 (34, .iload_n 2, 1) (List.mem_of_getElem? (i := 19) rfl)
theorem d_RF_screen_35 : decode Y_RF_screen.2.1 35 = .ok (.iload 4, 2) := D_RF_screen_0 (35, .iload 4, 2) (List.mem_of_getElem? (i := 20) rfl)
theorem d_RF_screen_37 : decode Y_RF_screen.2.1 37 = .ok (.if_icmp .eq 9, 3) := D_RF_screen_0 (37, .if_icmp .eq 9, 3) (List.mem_of_getElem? (i := 21) rfl)
theorem d_RF_screen_40 : decode Y_RF_screen.2.1 40 = .ok (.iload_n 3, 1) := D_RF_screen_0 (40, .iload_n 3, 1) (List.mem_of_getElem? (i := 22) rfl)
theorem d_RF_screen_41 : decode Y_RF_screen.2.1 41 = .ok (.iload 4, 2) := D_RF_screen_0 (41, .iload 4, 2) (List.mem_of_getElem? (i := 23) rfl)
theorem d_RF_screen_43 : decode Y_RF_screen.2.1 43 = .ok (.if_icmp .ne 13, 3) := D_RF_screen_0 (43, .if_icmp .ne 13, 3) (List.mem_of_getElem? (i := 24) rfl)
theorem d_RF_screen_46 : decode Y_RF_screen.2.1 46 = .ok (.new 59, 3) := D_RF_screen_0 (46, .new 59, 3) (List.mem_of_getElem? (i := 25) rfl)
theorem d_RF_screen_49 : decode Y_RF_screen.2.1 49 = .ok (.dup, 1) := D_RF_screen_0 (49, .dup, 1) (List.mem_of_getElem? (i := 26) rfl)
theorem d_RF_screen_50 : decode Y_RF_screen.2.1 50 = .ok (.ldc 160, 2) := D_RF_screen_0 (50, .ldc 160, 2) (List.mem_of_getElem? (i := 27) rfl)
theorem d_RF_screen_52 : decode Y_RF_screen.2.1 52 = .ok (.invokespecial 63, 3) := D_RF_screen_0 (52, .invokespecial 63, 3) (List.mem_of_getElem? (i := 28) rfl)
theorem d_RF_screen_55 : decode Y_RF_screen.2.1 55 = .ok (.athrow, 1) := D_RF_screen_0 (55, .athrow, 1) (List.mem_of_getElem? (i := 29) rfl)
theorem d_RF_screen_56 : decode Y_RF_screen.2.1 56 = .ok (.aload 8, 2) := D_RF_screen_0 (56, .aload 8, 2) (List.mem_of_getElem? (i := 30) rfl)
theorem d_RF_screen_58 : decode Y_RF_screen.2.1 58 = .ok (.getfield 120, 3) := D_RF_screen_0 (58, .getfield 120, 3) (List.mem_of_getElem? (i := 31) rfl)
theorem d_RF_screen_61 : decode Y_RF_screen.2.1 61 = .ok (.aload 9, 2) := D_RF_screen_0 (61, .aload 9, 2) (List.mem_of_getElem? (i := 32) rfl)
theorem d_RF_screen_63 : decode Y_RF_screen.2.1 63 = .ok (.getfield 120, 3) := D_RF_screen_0 (63, .getfield 120, 3) (List.mem_of_getElem? (i := 33) rfl)
theorem d_RF_screen_66 : decode Y_RF_screen.2.1 66 = .ok (.if_icmp .ne 16, 3) := D_RF_screen_0 (66, .if_icmp .ne 16, 3) (List.mem_of_getElem? (i := 34) rfl)
theorem d_RF_screen_69 : decode Y_RF_screen.2.1 69 = .ok (.aload 8, 2) := D_RF_screen_0 (69, .aload 8, 2) (List.mem_of_getElem? (i := 35) rfl)
theorem d_RF_screen_71 : decode Y_RF_screen.2.1 71 = .ok (.getfield 120, 3) := D_RF_screen_0 (71, .getfield 120, 3) (List.mem_of_getElem? (i := 36) rfl)
theorem d_RF_screen_74 : decode Y_RF_screen.2.1 74 = .ok (.aload 10, 2) := D_RF_screen_0 (74, .aload 10, 2) (List.mem_of_getElem? (i := 37) rfl)
theorem d_RF_screen_76 : decode Y_RF_screen.2.1 76 = .ok (.getfield 120, 3) := D_RF_screen_0 (76, .getfield 120, 3) (List.mem_of_getElem? (i := 38) rfl)
theorem d_RF_screen_79 : decode Y_RF_screen.2.1 79 = .ok (.if_icmp .eq 13, 3) := D_RF_screen_0 (79, .if_icmp .eq 13, 3) (List.mem_of_getElem? (i := 39) rfl)
theorem d_RF_screen_82 : decode Y_RF_screen.2.1 82 = .ok (.new 59, 3) := D_RF_screen_0 (82, .new 59, 3) (List.mem_of_getElem? (i := 40) rfl)
theorem d_RF_screen_85 : decode Y_RF_screen.2.1 85 = .ok (.dup, 1) := D_RF_screen_0 (85, .dup, 1) (List.mem_of_getElem? (i := 41) rfl)
theorem d_RF_screen_86 : decode Y_RF_screen.2.1 86 = .ok (.ldc 162, 2) := D_RF_screen_0 (86, .ldc 162, 2) (List.mem_of_getElem? (i := 42) rfl)
theorem d_RF_screen_88 : decode Y_RF_screen.2.1 88 = .ok (.invokespecial 63, 3) := D_RF_screen_0 (88, .invokespecial 63, 3) (List.mem_of_getElem? (i := 43) rfl)
theorem d_RF_screen_91 : decode Y_RF_screen.2.1 91 = .ok (.athrow, 1) := D_RF_screen_0 (91, .athrow, 1) (List.mem_of_getElem? (i := 44) rfl)
theorem d_RF_screen_92 : decode Y_RF_screen.2.1 92 = .ok (.iload 5, 2) := D_RF_screen_0 (92, .iload 5, 2) (List.mem_of_getElem? (i := 45) rfl)
theorem d_RF_screen_94 : decode Y_RF_screen.2.1 94 = .ok (.ifCond .lt 22, 3) := D_RF_screen_0 (94, .ifCond .lt 22, 3) (List.mem_of_getElem? (i := 46) rfl)
theorem d_RF_screen_97 : decode Y_RF_screen.2.1 97 = .ok (.iload 6, 2) := D_RF_screen_0 (97, .iload 6, 2) (List.mem_of_getElem? (i := 47) rfl)
theorem d_RF_screen_99 : decode Y_RF_screen.2.1 99 = .ok (.ifCond .lt 17, 3) := D_RF_screen_0 (99, .ifCond .lt 17, 3) (List.mem_of_getElem? (i := 48) rfl)
theorem d_RF_screen_102 : decode Y_RF_screen.2.1 102 = .ok (.iload 5, 2) := D_RF_screen_0 (102, .iload 5, 2) (List.mem_of_getElem? (i := 49) rfl)
theorem d_RF_screen_104 : decode Y_RF_screen.2.1 104 = .ok (.i2l, 1) := D_RF_screen_0 (104, .i2l, 1) (List.mem_of_getElem? (i := 50) rfl)
theorem d_RF_screen_105 : decode Y_RF_screen.2.1 105 = .ok (.iload 6, 2) := D_RF_screen_0 (105, .iload 6, 2) (List.mem_of_getElem? (i := 51) rfl)
theorem d_RF_screen_107 : decode Y_RF_screen.2.1 107 = .ok (.i2l, 1) := D_RF_screen_0 (107, .i2l, 1) (List.mem_of_getElem? (i := 52) rfl)
theorem d_RF_screen_108 : decode Y_RF_screen.2.1 108 = .ok (.ladd, 1) := D_RF_screen_0 (108, .ladd, 1) (List.mem_of_getElem? (i := 53) rfl)
theorem d_RF_screen_109 : decode Y_RF_screen.2.1 109 = .ok (.ldc2_w 164, 3) := D_RF_screen_0 (109, .ldc2_w 164, 3) (List.mem_of_getElem? (i := 54) rfl)
theorem d_RF_screen_112 : decode Y_RF_screen.2.1 112 = .ok (.lcmp, 1) := D_RF_screen_0 (112, .lcmp, 1) (List.mem_of_getElem? (i := 55) rfl)
theorem d_RF_screen_113 : decode Y_RF_screen.2.1 113 = .ok (.ifCond .le 13, 3) := D_RF_screen_0 (113, .ifCond .le 13, 3) (List.mem_of_getElem? (i := 56) rfl)
theorem d_RF_screen_116 : decode Y_RF_screen.2.1 116 = .ok (.new 59, 3) := D_RF_screen_0 (116, .new 59, 3) (List.mem_of_getElem? (i := 57) rfl)
theorem d_RF_screen_119 : decode Y_RF_screen.2.1 119 = .ok (.dup, 1) := D_RF_screen_0 (119, .dup, 1) (List.mem_of_getElem? (i := 58) rfl)
theorem d_RF_screen_120 : decode Y_RF_screen.2.1 120 = .ok (.ldc 166, 2) := D_RF_screen_0 (120, .ldc 166, 2) (List.mem_of_getElem? (i := 59) rfl)
theorem D_RF_screen_1 : ∀ q ∈ ([(122, .invokespecial 63, 3), (125, .athrow, 1), (126, .aload 7, 2), (128, .iload_n 2, 1), (129, .iload_n 3, 1), (130, .iload 4, 2), (132, .iload 6, 2), (134, .bipush 60, 2), (136, .iload 5, 2), (138, .isub, 1), (139, .iload 6, 2), (141, .isub, 1), (142, .invokevirtual 168, 3), (145, .return_, 1)] : List (Nat × Instr × Nat)), decode prog_1_method_9_code q.1 = .ok (q.2.1, q.2.2) := by decide +kernel
theorem d_RF_screen_122 : decode Y_RF_screen.2.1 122 = .ok (.invokespecial 63, 3) := D_RF_screen_1 (122, .invokespecial 63, 3) (List.mem_of_getElem? (i := 0) rfl)
theorem d_RF_screen_125 : decode Y_RF_screen.2.1 125 = .ok (.athrow, 1) := D_RF_screen_1 (125, .athrow, 1) (List.mem_of_getElem? (i := 1) rfl)
theorem d_RF_screen_126 : decode Y_RF_screen.2.1 126 = .ok (.aload 7, 2) := D_RF_screen_1 (126, .aload 7, 2) (List.mem_of_getElem? (i := 2) rfl)
theorem d_RF_screen_128 : decode Y_RF_screen.2.1 128 = .ok (.iload_n 2, 1) := D_RF_screen_1 (128, .iload_n 2, 1) (List.mem_of_getElem? (i := 3) rfl)
theorem d_RF_screen_129 : decode Y_RF_screen.2.1 129 = .ok (.iload_n 3, 1) := D_RF_screen_1 (129, .iload_n 3, 1) (List.mem_of_getElem? (i := 4) rfl)
theorem d_RF_screen_130 : decode Y_RF_screen.2.1 130 = .ok (.iload 4, 2) := D_RF_screen_1 (130, .iload 4, 2) (List.mem_of_getElem? (i := 5) rfl)
theorem d_RF_screen_132 : decode Y_RF_screen.2.1 132 = .ok (.iload 6, 2) := D_RF_screen_1 (132, .iload 6, 2) (List.mem_of_getElem? (i := 6) rfl)
theorem d_RF_screen_134 : decode Y_RF_screen.2.1 134 = .ok (.bipush 60, 2) := D_RF_screen_1 (134, .bipush 60, 2) (List.mem_of_getElem? (i := 7) rfl)
theorem d_RF_screen_136 : decode Y_RF_screen.2.1 136 = .ok (.iload 5, 2) := D_RF_screen_1 (136, .iload 5, 2) (List.mem_of_getElem? (i := 8) rfl)
theorem d_RF_screen_138 : decode Y_RF_screen.2.1 138 = .ok (.isub, 1) := D_RF_screen_1 (138, .isub, 1) (List.mem_of_getElem? (i := 9) rfl)
theorem d_RF_screen_139 : decode Y_RF_screen.2.1 139 = .ok (.iload 6, 2) := D_RF_screen_1 (139, .iload 6, 2) (List.mem_of_getElem? (i := 10) rfl)
theorem d_RF_screen_141 : decode Y_RF_screen.2.1 141 = .ok (.isub, 1) := D_RF_screen_1 (141, .isub, 1) (List.mem_of_getElem? (i := 11) rfl)
theorem d_RF_screen_142 : decode Y_RF_screen.2.1 142 = .ok (.invokevirtual 168, 3) := D_RF_screen_1 (142, .invokevirtual 168, 3) (List.mem_of_getElem? (i := 12) rfl)
theorem d_RF_screen_145 : decode Y_RF_screen.2.1 145 = .ok (.return_, 1) := D_RF_screen_1 (145, .return_, 1) (List.mem_of_getElem? (i := 13) rfl)
theorem D_RF_screenAt_0 : ∀ q ∈ ([(0, .iload_n 1, 1), (1, .ifCond .lt 8, 3), (4, .iload_n 1, 1), (5, .iconst 4, 1), (6, .if_icmp .lt 14, 3), (9, .new 52, 3), (12, .dup, 1), (13, .ldc_w 296, 3), (16, .invokespecial 56, 3), (19, .athrow, 1), (20, .aload_n 0, 1), (21, .getfield 40, 3), (24, .iload_n 1, 1), (25, .aaload, 1), (26, .areturn, 1)] : List (Nat × Instr × Nat)), decode prog_1_method_27_code q.1 = .ok (q.2.1, q.2.2) := by decide +kernel
theorem d_RF_screenAt_0 : decode Y_RF_screenAt.2.1 0 = .ok (.iload_n 1, 1) := D_RF_screenAt_0 (0, .iload_n 1, 1) (List.mem_of_getElem? (i := 0) rfl)
theorem d_RF_screenAt_1 : decode Y_RF_screenAt.2.1 1 = .ok (.ifCond .lt 8, 3) := D_RF_screenAt_0 (1, .ifCond .lt 8, 3) (List.mem_of_getElem? (i := 1) rfl)
theorem d_RF_screenAt_4 : decode Y_RF_screenAt.2.1 4 = .ok (.iload_n 1, 1) := D_RF_screenAt_0 (4, .iload_n 1, 1) (List.mem_of_getElem? (i := 2) rfl)
theorem d_RF_screenAt_5 : decode Y_RF_screenAt.2.1 5 = .ok (.iconst 4, 1) := D_RF_screenAt_0 (5, .iconst 4, 1) (List.mem_of_getElem? (i := 3) rfl)
theorem d_RF_screenAt_6 : decode Y_RF_screenAt.2.1 6 = .ok (.if_icmp .lt 14, 3) := D_RF_screenAt_0 (6, .if_icmp .lt 14, 3) (List.mem_of_getElem? (i := 4) rfl)
theorem d_RF_screenAt_9 : decode Y_RF_screenAt.2.1 9 = .ok (.new 52, 3) := D_RF_screenAt_0 (9, .new 52, 3) (List.mem_of_getElem? (i := 5) rfl)
theorem d_RF_screenAt_12 : decode Y_RF_screenAt.2.1 12 = .ok (.dup, 1) := D_RF_screenAt_0 (12, .dup, 1) (List.mem_of_getElem? (i := 6) rfl)
theorem d_RF_screenAt_13 : decode Y_RF_screenAt.2.1 13 = .ok (.ldc_w 296, 3) := D_RF_screenAt_0 (13, .ldc_w 296, 3) (List.mem_of_getElem? (i := 7) rfl)
theorem d_RF_screenAt_16 : decode Y_RF_screenAt.2.1 16 = .ok (.invokespecial 56, 3) := D_RF_screenAt_0 (16, .invokespecial 56, 3) (List.mem_of_getElem? (i := 8) rfl)
theorem d_RF_screenAt_19 : decode Y_RF_screenAt.2.1 19 = .ok (.athrow, 1) := D_RF_screenAt_0 (19, .athrow, 1) (List.mem_of_getElem? (i := 9) rfl)
theorem d_RF_screenAt_20 : decode Y_RF_screenAt.2.1 20 = .ok (.aload_n 0, 1) := D_RF_screenAt_0 (20, .aload_n 0, 1) (List.mem_of_getElem? (i := 10) rfl)
theorem d_RF_screenAt_21 : decode Y_RF_screenAt.2.1 21 = .ok (.getfield 40, 3) := D_RF_screenAt_0 (21, .getfield 40, 3) (List.mem_of_getElem? (i := 11) rfl)
theorem d_RF_screenAt_24 : decode Y_RF_screenAt.2.1 24 = .ok (.iload_n 1, 1) := D_RF_screenAt_0 (24, .iload_n 1, 1) (List.mem_of_getElem? (i := 12) rfl)
theorem d_RF_screenAt_25 : decode Y_RF_screenAt.2.1 25 = .ok (.aaload, 1) := D_RF_screenAt_0 (25, .aaload, 1) (List.mem_of_getElem? (i := 13) rfl)
theorem d_RF_screenAt_26 : decode Y_RF_screenAt.2.1 26 = .ok (.areturn, 1) := D_RF_screenAt_0 (26, .areturn, 1) (List.mem_of_getElem? (i := 14) rfl)
theorem D_RF_send_0 : ∀ q ∈ ([(0, .aload_n 0, 1), (1, .iload_n 1, 1), (2, .invokevirtual 156, 3), (5, .astore 4, 2), (7, .iload_n 2, 1), (8, .iload_n 3, 1), (9, .invokestatic 130, 3), (12, .aload 4, 2), (14, .getfield 171, 3), (17, .ifCond .ne 13, 3), (20, .new 115, 3), (23, .dup, 1), (24, .ldc 175, 2), (26, .invokespecial 119, 3), (29, .athrow, 1), (30, .aload_n 0, 1), (31, .aload 4, 2), (33, .getfield 177, 3), (36, .invokevirtual 126, 3), (39, .astore 5, 2), (41, .aload_n 0, 1), (42, .aload 4, 2), (44, .getfield 180, 3), (47, .invokevirtual 126, 3), (50, .astore 6, 2), (52, .aload_n 0, 1), (53, .aload 4, 2), (55, .getfield 183, 3), (58, .invokevirtual 126, 3), (61, .astore 7, 2), (63, .iload_n 2, 1), (64, .aload 4, 2), (66, .getfield 186, 3), (69, .imul, 1), (70, .bipush 60, 2), (72, .idiv, 1), (73, .istore 8, 2), (75, .iload_n 2, 1), (76, .aload 4, 2), (78, .getfield 189, 3), (81, .imul, 1), (82, .bipush 60, 2), (84, .idiv, 1), (85, .istore 9, 2), (87, .iload_n 2, 1), (88, .iload 8, 2), (90, .isub, 1), (91, .iload 9, 2), (93, .isub, 1), (94, .istore 10, 2), (96, .aload 5, 2), (98, .iload 10, 2), (100, .invokevirtual 133, 3), (103, .ifCond .eq 23, 3), (106, .aload 6, 2), (108, .iload 8, 2), (110, .invokevirtual 133, 3), (113, .ifCond .eq 13, 3), (116, .aload 7, 2), (118, .iload 9, 2)] : List (Nat × Instr × Nat)), decode prog_1_method_10_code q.1 = .ok (q.2.1, q.2.2) := by decide +kernel
theorem d_RF_send_0 : decode Y_RF_send.2.1 0 = .ok (.aload_n 0, 1) := D_RF_send_0 (0, .aload_n 0, 1) (List.mem_of_getElem? (i := 0) rfl)
theorem d_RF_send_1 : decode Y_RF_send.2.1 1 = .ok (.iload_n 1, 1) := D_RF_send_0 (1, .iload_n 1, 1) (List.mem_of_getElem? (i := 1) rfl)
theorem d_RF_send_2 : decode Y_RF_send.2.1 2 = .ok (.invokevirtual 156, 3) := D_RF_send_0 (2, .invokevirtual 156, 3) (List.mem_of_getElem? (i := 2) rfl)
theorem d_RF_send_5 : decode Y_RF_send.2.1 5 = .ok (.astore 4, 2) := D_RF_send_0 (5, .astore 4, 2) (List.mem_of_getElem? (i := 3) rfl)
theorem d_RF_send_7 : decode Y_RF_send.2.1 7 = .ok (.iload_n 2, 1) := D_RF_send_0 (7, .iload_n 2, 1) (List.mem_of_getElem? (i := 4) rfl)
theorem d_RF_send_8 : decode Y_RF_send.2.1 8 = .ok (.iload_n 3, 1) := D_RF_send_0 (8, .iload_n 3, 1) (List.mem_of_getElem? (i := 5) rfl)
theorem d_RF_send_9 : decode Y_RF_send.2.1 9 = .ok (.invokestatic 130, 3) := D_RF_send_0 (9, .invokestatic 130, 3) (List.mem_of_getElem? (i := 6) rfl)
theorem d_RF_send_12 : decode Y_RF_send.2.1 12 = .ok (.aload 4, 2) := D_RF_send_0 (12, .aload 4, 2) (List.mem_of_getElem? (i := 7) rfl)
theorem d_RF_send_14 : decode Y_RF_send.2.1 14 = .ok (.getfield 171, 3) := D_RF_send_0 (14, .getfield 171, 3) (List.mem_of_getElem? (i := 8) rfl)
theorem d_RF_send_17 : decode Y_RF_send.2.1 17 = .ok (.ifCond .ne 13, 3) := D_RF_send_0 (17, .ifCond .ne 13, 3) (List.mem_of_getElem? (i := 9) rfl)
theorem d_RF_send_20 : decode Y_RF_send.2.1 20 = .ok (.new 115, 3) := D_RF_send_0 (20, .new 115, 3) (List.mem_of_getElem? (i := 10) rfl)
theorem d_RF_send_23 : decode Y_RF_send.2.1 23 = .ok (.dup, 1) := D_RF_send_0 (23, .dup, 1) (List.mem_of_getElem? (i := 11) rfl)
theorem d_RF_send_24 : decode Y_RF_send.2.1 24 = .ok (.ldc 175, 2) := D_RF_send_0 (24, .ldc 175, 2) (List.mem_of_getElem? (i := 12) rfl)
theorem d_RF_send_26 : decode Y_RF_send.2.1 26 = .ok (.invokespecial 119, 3) := D_RF_send_0 (26, .invokespecial 119, 3) (List.mem_of_getElem? (i := 13) rfl)
theorem d_RF_send_29 : decode Y_RF_send.2.1 29 = .ok (.athrow, 1) := D_RF_send_0 (29, .athrow, 1) (List.mem_of_getElem? (i := 14) rfl)
theorem d_RF_send_30 : decode Y_RF_send.2.1 30 = .ok (.aload_n 0, 1) := D_RF_send_0 (30, .aload_n 0, 1) (List.mem_of_getElem? (i := 15) rfl)
theorem d_RF_send_31 : decode Y_RF_send.2.1 31 = .ok (.aload 4, 2) := D_RF_send_0 (31, .aload 4, 2) (List.mem_of_getElem? (i := 16) rfl)
theorem d_RF_send_33 : decode Y_RF_send.2.1 33 = .ok (.getfield 177, 3) := D_RF_send_0 (33, .getfield 177, 3) (List.mem_of_getElem? (i := 17) rfl)
theorem d_RF_send_36 : decode Y_RF_send.2.1 36 = .ok (.invokevirtual 126, 3) := D_RF_send_0 (36, .invokevirtual 126, 3) (List.mem_of_getElem? (i := 18) rfl)
theorem d_RF_send_39 : decode Y_RF_send.2.1 39 = .ok (.astore 5, 2) := D_RF_send_0 (39, .astore 5, 2) (List.mem_of_getElem? (i := 19) rfl)
theorem d_RF_send_41 : decode Y_RF_send.2.1 41 = .ok (.aload_n 0, 1) := D_RF_send_0 (41, .aload_n 0, 1) (List.mem_of_getElem? (i := 20) rfl)
theorem d_RF_send_42 : decode Y_RF_send.2.1 42 = .ok (.aload 4, 2) := D_RF_send_0 (42, .aload 4, 2) (List.mem_of_getElem? (i := 21) rfl)
theorem d_RF_send_44 : decode Y_RF_send.2.1 44 = .ok (.getfield 180, 3) := D_RF_send_0 (44, .getfield 180, 3) (List.mem_of_getElem? (i := 22) rfl)
theorem d_RF_send_47 : decode Y_RF_send.2.1 47 = .ok (.invokevirtual 126, 3) := D_RF_send_0 (47, .invokevirtual 126, 3) (List.mem_of_getElem? (i := 23) rfl)
theorem d_RF_send_50 : decode Y_RF_send.2.1 50 = .ok (.astore 6, 2) := D_RF_send_0 (50, .astore 6, 2) (List.mem_of_getElem? (i := 24) rfl)
theorem d_RF_send_52 : decode Y_RF_send.2.1 52 = .ok (.aload_n 0, 1) := D_RF_send_0 (52, .aload_n 0, 1) (List.mem_of_getElem? (i := 25) rfl)
theorem d_RF_send_53 : decode Y_RF_send.2.1 53 = .ok (.aload 4, 2) := D_RF_send_0 (53, .aload 4, 2) (List.mem_of_getElem? (i := 26) rfl)
theorem d_RF_send_55 : decode Y_RF_send.2.1 55 = .ok (.getfield 183, 3) := D_RF_send_0 (55, .getfield 183, 3) (List.mem_of_getElem? (i := 27) rfl)
theorem d_RF_send_58 : decode Y_RF_send.2.1 58 = .ok (.invokevirtual 126, 3) := D_RF_send_0 (58, .invokevirtual 126, 3) (List.mem_of_getElem? (i := 28) rfl)
theorem d_RF_send_61 : decode Y_RF_send.2.1 61 = .ok (.astore 7, 2) := D_RF_send_0 (61, .astore 7, 2) (List.mem_of_getElem? (i := 29) rfl)
theorem d_RF_send_63 : decode Y_RF_send.2.1 63 = .ok (.iload_n 2, 1) := D_RF_send_0 (63, .iload_n 2, 1) (List.mem_of_getElem? (i := 30) rfl)
theorem d_RF_send_64 : decode Y_RF_send.2.1 64 = .ok (.aload 4, 2) := D_RF_send_0 (64, .aload 4, 2) (List.mem_of_getElem? (i := 31) rfl)
theorem d_RF_send_66 : decode Y_RF_send.2.1 66 = .ok (.getfield 186, 3) := D_RF_send_0 (66, .getfield 186, 3) (List.mem_of_getElem? (i := 32) rfl)
theorem d_RF_send_69 : decode Y_RF_send.2.1 69 = .ok (.imul, 1) := D_RF_send_0 (69, .imul, 1) (List.mem_of_getElem? (i := 33) rfl)
theorem d_RF_send_70 : decode Y_RF_send.2.1 70 = .ok (.bipush 60, 2) := D_RF_send_0 (70, .bipush 60, 2) (List.mem_of_getElem? (i := 34) rfl)
theorem d_RF_send_72 : decode Y_RF_send.2.1 72 = .ok (.idiv, 1) := D_RF_send_0 (72, .idiv, 1) (List.mem_of_getElem? (i := 35) rfl)
theorem d_RF_send_73 : decode Y_RF_send.2.1 73 = .ok (.istore 8, 2) := D_RF_send_0 (73, .istore 8, 2) (List.mem_of_getElem? (i := 36) rfl)
theorem d_RF_send_75 : decode Y_RF_send.2.1 75 = .ok (.iload_n 2, 1) := D_RF_send_0 (75, .iload_n 2, 1) (List.mem_of_getElem? (i := 37) rfl)
theorem d_RF_send_76 : decode Y_RF_send.2.1 76 = .ok (.aload 4, 2) := D_RF_send_0 (76, .aload 4, 2) (List.mem_of_getElem? (i := 38) rfl)
theorem d_RF_send_78 : decode Y_RF_send.2.1 78 = .ok (.getfield 189, 3) := D_RF_send_0 (78, .getfield 189, 3) (List.mem_of_getElem? (i := 39) rfl)
theorem d_RF_send_81 : decode Y_RF_send.2.1 81 = .ok (.imul, 1) := D_RF_send_0 (81, .imul, 1) (List.mem_of_getElem? (i := 40) rfl)
theorem d_RF_send_82 : decode Y_RF_send.2.1 82 = .ok (.bipush 60, 2) := D_RF_send_0 (82, .bipush 60, 2) (List.mem_of_getElem? (i := 41) rfl)
theorem d_RF_send_84 : decode Y_RF_send.2.1 84 = .ok (.idiv, 1) := D_RF_send_0 (84, .idiv, 1) (List.mem_of_getElem? (i := 42) rfl)
theorem d_RF_send_85 : decode Y_RF_send.2.1 85 = .ok (.istore 9, 2) := D_RF_send_0 (85, .istore 9, 2) (List.mem_of_getElem? (i := 43) rfl)
theorem d_RF_send_87 : decode Y_RF_send.2.1 87 = .ok (.iload_n 2, 1) := D_RF_send_0 (87, .iload_n 2, 1) (List.mem_of_getElem? (i := 44) rfl)
theorem d_RF_send_88 : decode Y_RF_send.2.1 88 = .ok (.iload 8, 2) := D_RF_send_0 (88, .iload 8, 2) (List.mem_of_getElem? (i := 45) rfl)
theorem d_RF_send_90 : decode Y_RF_send.2.1 90 = .ok (.isub, 1) := D_RF_send_0 (90, .isub, 1) (List.mem_of_getElem? (i := 46) rfl)
theorem d_RF_send_91 : decode Y_RF_send.2.1 91 = .ok (.iload 9, 2) := D_RF_send_0 (91, .iload 9, 2) (List.mem_of_getElem? (i := 47) rfl)
theorem d_RF_send_93 : decode Y_RF_send.2.1 93 = .ok (.isub, 1) := D_RF_send_0 (93, .isub, 1) (List.mem_of_getElem? (i := 48) rfl)
theorem d_RF_send_94 : decode Y_RF_send.2.1 94 = .ok (.istore 10, 2) := D_RF_send_0 (94, .istore 10, 2) (List.mem_of_getElem? (i := 49) rfl)
theorem d_RF_send_96 : decode Y_RF_send.2.1 96 = .ok (.aload 5, 2) := D_RF_send_0 (96, .aload 5, 2) (List.mem_of_getElem? (i := 50) rfl)
theorem d_RF_send_98 : decode Y_RF_send.2.1 98 = .ok (.iload 10, 2) := D_RF_send_0 (98, .iload 10, 2) (List.mem_of_getElem? (i := 51) rfl)
theorem d_RF_send_100 : decode Y_RF_send.2.1 100 = .ok (.invokevirtual 133, 3) := D_RF_send_0 (100, .invokevirtual 133, 3) (List.mem_of_getElem? (i := 52) rfl)
theorem d_RF_send_103 : decode Y_RF_send.2.1 103 = .ok (.ifCond .eq 23, 3) := D_RF_send_0 (103, .ifCond .eq 23, 3) (List.mem_of_getElem? (i := 53) rfl)
theorem d_RF_send_106 : decode Y_RF_send.2.1 106 = .ok (.aload 6, 2) := D_RF_send_0 (106, .aload 6, 2) (List.mem_of_getElem? (i := 54) rfl)
theorem d_RF_send_108 : decode Y_RF_send.2.1 108 = .ok (.iload 8, 2) := D_RF_send_0 (108, .iload 8, 2) (List.mem_of_getElem? (i := 55) rfl)
theorem d_RF_send_110 : decode Y_RF_send.2.1 110 = .ok (.invokevirtual 133, 3) := D_RF_send_0 (110, .invokevirtual 133, 3) (List.mem_of_getElem? (i := 56) rfl)
theorem d_RF_send_113 : decode Y_RF_send.2.1 113 = .ok (.ifCond .eq 13, 3) := D_RF_send_0 (113, .ifCond .eq 13, 3) (List.mem_of_getElem? (i := 57) rfl)
theorem d_RF_send_116 : decode Y_RF_send.2.1 116 = .ok (.aload 7, 2) := D_RF_send_0 (116, .aload 7, 2) (List.mem_of_getElem? (i := 58) rfl)
theorem d_RF_send_118 : decode Y_RF_send.2.1 118 = .ok (.iload 9, 2) := D_RF_send_0 (118, .iload 9, 2) (List.mem_of_getElem? (i := 59) rfl)
theorem D_RF_send_1 : ∀ q ∈ ([(120, .invokevirtual 133, 3), (123, .ifCond .ne 5, 3), (126, .iconst 0, 1), (127, .ireturn, 1), (128, .aload_n 0, 1), (129, .aload 5, 2), (131, .iload 10, 2), (133, .iload_n 3, 1), (134, .invokevirtual 137, 3), (137, .aload_n 0, 1), (138, .aload 6, 2), (140, .iload 8, 2), (142, .iload_n 3, 1), (143, .invokevirtual 137, 3), (146, .aload_n 0, 1), (147, .aload 7, 2), (149, .iload 9, 2), (151, .iload_n 3, 1), (152, .invokevirtual 137, 3), (155, .iconst 1, 1), (156, .ireturn, 1)] : List (Nat × Instr × Nat)), decode prog_1_method_10_code q.1 = .ok (q.2.1, q.2.2) := by decide +kernel
theorem d_RF_send_120 : decode Y_RF_send.2.1 120 = .ok (.invokevirtual 133, 3) := D_RF_send_1 (120, .invokevirtual 133, 3) (List.mem_of_getElem? (i := 0) rfl)
theorem d_RF_send_123 : decode Y_RF_send.2.1 123 = .ok (.ifCond .ne 5, 3) := D_RF_send_1 (123, .ifCond .ne 5, 3) (List.mem_of_getElem? (i := 1) rfl)
theorem d_RF_send_126 : decode Y_RF_send.2.1 126 = .ok (.iconst 0, 1) := D_RF_send_1 (126, .iconst 0, 1) (List.mem_of_getElem? (i := 2) rfl)
theorem d_RF_send_127 : decode Y_RF_send.2.1 127 = .ok (.ireturn, 1) := D_RF_send_1 (127, .ireturn, 1) (List.mem_of_getElem? (i := 3) rfl)
theorem d_RF_send_128 : decode Y_RF_send.2.1 128 = .ok (.aload_n 0, 1) := D_RF_send_1 (128, .aload_n 0, 1) (List.mem_of_getElem? (i := 4) rfl)
theorem d_RF_send_129 : decode Y_RF_send.2.1 129 = .ok (.aload 5, 2) := D_RF_send_1 (129, .aload 5, 2) (List.mem_of_getElem? (i := 5) rfl)
theorem d_RF_send_131 : decode Y_RF_send.2.1 131 = .ok (.iload 10, 2) := D_RF_send_1 (131, .iload 10, 2) (List.mem_of_getElem? (i := 6) rfl)
theorem d_RF_send_133 : decode Y_RF_send.2.1 133 = .ok (.iload_n 3, 1) := D_RF_send_1 (133, .iload_n 3, 1) (List.mem_of_getElem? (i := 7) rfl)
theorem d_RF_send_134 : decode Y_RF_send.2.1 134 = .ok (.invokevirtual 137, 3) := D_RF_send_1 (134, .invokevirtual 137, 3) (List.mem_of_getElem? (i := 8) rfl)
theorem d_RF_send_137 : decode Y_RF_send.2.1 137 = .ok (.aload_n 0, 1) := D_RF_send_1 (137, .aload_n 0, 1) (List.mem_of_getElem? (i := 9) rfl)
theorem d_RF_send_138 : decode Y_RF_send.2.1 138 = .ok (.aload 6, 2) := D_RF_send_1 (138, .aload 6, 2) (List.mem_of_getElem? (i := 10) rfl)
theorem d_RF_send_140 : decode Y_RF_send.2.1 140 = .ok (.iload 8, 2) := D_RF_send_1 (140, .iload 8, 2) (List.mem_of_getElem? (i := 11) rfl)
theorem d_RF_send_142 : decode Y_RF_send.2.1 142 = .ok (.iload_n 3, 1) := D_RF_send_1 (142, .iload_n 3, 1) (List.mem_of_getElem? (i := 12) rfl)
theorem d_RF_send_143 : decode Y_RF_send.2.1 143 = .ok (.invokevirtual 137, 3) := D_RF_send_1 (143, .invokevirtual 137, 3) (List.mem_of_getElem? (i := 13) rfl)
theorem d_RF_send_146 : decode Y_RF_send.2.1 146 = .ok (.aload_n 0, 1) := D_RF_send_1 (146, .aload_n 0, 1) (List.mem_of_getElem? (i := 14) rfl)
theorem d_RF_send_147 : decode Y_RF_send.2.1 147 = .ok (.aload 7, 2) := D_RF_send_1 (147, .aload 7, 2) (List.mem_of_getElem? (i := 15) rfl)
theorem d_RF_send_149 : decode Y_RF_send.2.1 149 = .ok (.iload 9, 2) := D_RF_send_1 (149, .iload 9, 2) (List.mem_of_getElem? (i := 16) rfl)
theorem d_RF_send_151 : decode Y_RF_send.2.1 151 = .ok (.iload_n 3, 1) := D_RF_send_1 (151, .iload_n 3, 1) (List.mem_of_getElem? (i := 17) rfl)
theorem d_RF_send_152 : decode Y_RF_send.2.1 152 = .ok (.invokevirtual 137, 3) := D_RF_send_1 (152, .invokevirtual 137, 3) (List.mem_of_getElem? (i := 18) rfl)
theorem d_RF_send_155 : decode Y_RF_send.2.1 155 = .ok (.iconst 1, 1) := D_RF_send_1 (155, .iconst 1, 1) (List.mem_of_getElem? (i := 19) rfl)
theorem d_RF_send_156 : decode Y_RF_send.2.1 156 = .ok (.ireturn, 1) := D_RF_send_1 (156, .ireturn, 1) (List.mem_of_getElem? (i := 20) rfl)
theorem D_RF_scale_0 : ∀ q ∈ ([(0, .aload_n 0, 1), (1, .iload_n 1, 1), (2, .invokevirtual 126, 3), (5, .astore 4, 2), (7, .lload_n 2, 1), (8, .lconst 0, 1), (9, .lcmp, 1), (10, .ifCond .lt 11, 3), (13, .lload_n 2, 1), (14, .ldc2_w 192, 3), (17, .lcmp, 1), (18, .ifCond .le 13, 3), (21, .new 59, 3), (24, .dup, 1), (25, .ldc 194, 2), (27, .invokespecial 63, 3), (30, .athrow, 1), (31, .aload 4, 2), (33, .lload_n 2, 1), (34, .putfield 147, 3), (37, .return_, 1)] : List (Nat × Instr × Nat)), decode prog_1_method_11_code q.1 = .ok (q.2.1, q.2.2) := by decide +kernel
theorem d_RF_scale_0 : decode Y_RF_scale.2.1 0 = .ok (.aload_n 0, 1) := D_RF_scale_0 (0, .aload_n 0, 1) (List.mem_of_getElem? (i := 0) rfl)
theorem d_RF_scale_1 : decode Y_RF_scale.2.1 1 = .ok (.iload_n 1, 1) := D_RF_scale_0 (1, .iload_n 1, 1) (List.mem_of_getElem? (i := 1) rfl)
theorem d_RF_scale_2 : decode Y_RF_scale.2.1 2 = .ok (.invokevirtual 126, 3) := D_RF_scale_0 (2, .invokevirtual 126, 3) (List.mem_of_getElem? (i := 2) rfl)
theorem d_RF_scale_5 : decode Y_RF_scale.2.1 5 = .ok (.astore 4, 2) := D_RF_scale_0 (5, .astore 4, 2) (List.mem_of_getElem? (i := 3) rfl)
theorem d_RF_scale_7 : decode Y_RF_scale.2.1 7 = .ok (.lload_n 2, 1) := D_RF_scale_0 (7, .lload_n 2, 1) (List.mem_of_getElem? (i := 4) rfl)
theorem d_RF_scale_8 : decode Y_RF_scale.2.1 8 = .ok (.lconst 0, 1) := D_RF_scale_0 (8, .lconst 0, 1) (List.mem_of_getElem? (i := 5) rfl)
theorem d_RF_scale_9 : decode Y_RF_scale.2.1 9 = .ok (.lcmp, 1) := D_RF_scale_0 (9, .lcmp, 1) (List.mem_of_getElem? (i := 6) rfl)
theorem d_RF_scale_10 : decode Y_RF_scale.2.1 10 = .ok (.ifCond .lt 11, 3) := D_RF_scale_0 (10, .ifCond .lt 11, 3) (List.mem_of_getElem? (i := 7) rfl)
theorem d_RF_scale_13 : decode Y_RF_scale.2.1 13 = .ok (.lload_n 2, 1) := D_RF_scale_0 (13, .lload_n 2, 1) (List.mem_of_getElem? (i := 8) rfl)
theorem d_RF_scale_14 : decode Y_RF_scale.2.1 14 = .ok (.ldc2_w 192, 3) := D_RF_scale_0 (14, .ldc2_w 192, 3) (List.mem_of_getElem? (i := 9) rfl)
theorem d_RF_scale_17 : decode Y_RF_scale.2.1 17 = .ok (.lcmp, 1) := D_RF_scale_0 (17, .lcmp, 1) (List.mem_of_getElem? (i := 10) rfl)
theorem d_RF_scale_18 : decode Y_RF_scale.2.1 18 = .ok (.ifCond .le 13, 3) := D_RF_scale_0 (18, .ifCond .le 13, 3) (List.mem_of_getElem? (i := 11) rfl)
theorem d_RF_scale_21 : decode Y_RF_scale.2.1 21 = .ok (.new 59, 3) := D_RF_scale_0 (21, .new 59, 3) (List.mem_of_getElem? (i := 12) rfl)
theorem d_RF_scale_24 : decode Y_RF_scale.2.1 24 = .ok (.dup, 1) := D_RF_scale_0 (24, .dup, 1) (List.mem_of_getElem? (i := 13) rfl)
theorem d_RF_scale_25 : decode Y_RF_scale.2.1 25 = .ok (.ldc 194, 2) := D_RF_scale_0 (25, .ldc 194, 2) (List.mem_of_getElem? (i := 14) rfl)
theorem d_RF_scale_27 : decode Y_RF_scale.2.1 27 = .ok (.invokespecial 63, 3) := D_RF_scale_0 (27, .invokespecial 63, 3) (List.mem_of_getElem? (i := 15) rfl)
theorem d_RF_scale_30 : decode Y_RF_scale.2.1 30 = .ok (.athrow, 1) := D_RF_scale_0 (30, .athrow, 1) (List.mem_of_getElem? (i := 16) rfl)
theorem d_RF_scale_31 : decode Y_RF_scale.2.1 31 = .ok (.aload 4, 2) := D_RF_scale_0 (31, .aload 4, 2) (List.mem_of_getElem? (i := 17) rfl)
theorem d_RF_scale_33 : decode Y_RF_scale.2.1 33 = .ok (.lload_n 2, 1) := D_RF_scale_0 (33, .lload_n 2, 1) (List.mem_of_getElem? (i := 18) rfl)
theorem d_RF_scale_34 : decode Y_RF_scale.2.1 34 = .ok (.putfield 147, 3) := D_RF_scale_0 (34, .putfield 147, 3) (List.mem_of_getElem? (i := 19) rfl)
theorem d_RF_scale_37 : decode Y_RF_scale.2.1 37 = .ok (.return_, 1) := D_RF_scale_0 (37, .return_, 1) (List.mem_of_getElem? (i := 20) rfl)
theorem D_RF_shift_0 : ∀ q ∈ ([(0, .iload_n 1, 1), (1, .tableswitch 52 0 3 #[31, 36, 41, 46], 31), (32, .aload_n 0, 1), (33, .invokevirtual 196, 3), (36, .lreturn, 1), (37, .aload_n 0, 1), (38, .getfield 199, 3), (41, .lreturn, 1), (42, .aload_n 0, 1), (43, .getfield 202, 3), (46, .lreturn, 1), (47, .aload_n 0, 1), (48, .getfield 205, 3), (51, .i2l, 1), (52, .lreturn, 1), (53, .new 52, 3), (56, .dup, 1), (57, .ldc 208, 2), (59, .invokespecial 56, 3), (62, .athrow, 1)] : List (Nat × Instr × Nat)), decode prog_1_method_12_code q.1 = .ok (q.2.1, q.2.2) := by decide +kernel
theorem d_RF_shift_0 : decode Y_RF_shift.2.1 0 = .ok (.iload_n 1, 1) := D_RF_shift_0 (0, .iload_n 1, 1) (List.mem_of_getElem? (i := 0) rfl)
theorem d_RF_shift_1 : decode Y_RF_shift.2.1 1 = .ok (.tableswitch 52 0 3 #[31, 36, 41, 46], 31) := D_RF_shift_0 (1, .tableswitch 52 0 3 #[31, 36, 41, 46], 31) (List.mem_of_getElem? (i := 1) rfl)
theorem d_RF_shift_32 : decode Y_RF_shift.2.1 32 = .ok (.aload_n 0, 1) := D_RF_shift_0 (32, .aload_n 0, 1) (List.mem_of_getElem? (i := 2) rfl)
theorem d_RF_shift_33 : decode Y_RF_shift.2.1 33 = .ok (.invokevirtual 196, 3) := D_RF_shift_0 (33, .invokevirtual 196, 3) (List.mem_of_getElem? (i := 3) rfl)
theorem d_RF_shift_36 : decode Y_RF_shift.2.1 36 = .ok (.lreturn, 1) := D_RF_shift_0 (36, .lreturn, 1) (List.mem_of_getElem? (i := 4) rfl)
theorem d_RF_shift_37 : decode Y_RF_shift.2.1 37 = .ok (.aload_n 0, 1) := D_RF_shift_0 (37, .aload_n 0, 1) (List.mem_of_getElem? (i := 5) rfl)
theorem d_RF_shift_38 : decode Y_RF_shift.2.1 38 = .ok (.getfield 199, 3) := D_RF_shift_0 (38, .getfield 199, 3) (List.mem_of_getElem? (i := 6) rfl)
theorem d_RF_shift_41 : decode Y_RF_shift.2.1 41 = .ok (.lreturn, 1) := D_RF_shift_0 (41, .lreturn, 1) (List.mem_of_getElem? (i := 7) rfl)
theorem d_RF_shift_42 : decode Y_RF_shift.2.1 42 = .ok (.aload_n 0, 1) := D_RF_shift_0 (42, .aload_n 0, 1) (List.mem_of_getElem? (i := 8) rfl)
theorem d_RF_shift_43 : decode Y_RF_shift.2.1 43 = .ok (.getfield 202, 3) := D_RF_shift_0 (43, .getfield 202, 3) (List.mem_of_getElem? (i := 9) rfl)
theorem d_RF_shift_46 : decode Y_RF_shift.2.1 46 = .ok (.lreturn, 1) := D_RF_shift_0 (46, .lreturn, 1) (List.mem_of_getElem? (i := 10) rfl)
theorem d_RF_shift_47 : decode Y_RF_shift.2.1 47 = .ok (.aload_n 0, 1) := D_RF_shift_0 (47, .aload_n 0, 1) (List.mem_of_getElem? (i := 11) rfl)
theorem d_RF_shift_48 : decode Y_RF_shift.2.1 48 = .ok (.getfield 205, 3) := D_RF_shift_0 (48, .getfield 205, 3) (List.mem_of_getElem? (i := 12) rfl)
theorem d_RF_shift_51 : decode Y_RF_shift.2.1 51 = .ok (.i2l, 1) := D_RF_shift_0 (51, .i2l, 1) (List.mem_of_getElem? (i := 13) rfl)
theorem d_RF_shift_52 : decode Y_RF_shift.2.1 52 = .ok (.lreturn, 1) := D_RF_shift_0 (52, .lreturn, 1) (List.mem_of_getElem? (i := 14) rfl)
theorem d_RF_shift_53 : decode Y_RF_shift.2.1 53 = .ok (.new 52, 3) := D_RF_shift_0 (53, .new 52, 3) (List.mem_of_getElem? (i := 15) rfl)
theorem d_RF_shift_56 : decode Y_RF_shift.2.1 56 = .ok (.dup, 1) := D_RF_shift_0 (56, .dup, 1) (List.mem_of_getElem? (i := 16) rfl)
theorem d_RF_shift_57 : decode Y_RF_shift.2.1 57 = .ok (.ldc 208, 2) := D_RF_shift_0 (57, .ldc 208, 2) (List.mem_of_getElem? (i := 17) rfl)
theorem d_RF_shift_59 : decode Y_RF_shift.2.1 59 = .ok (.invokespecial 56, 3) := D_RF_shift_0 (59, .invokespecial 56, 3) (List.mem_of_getElem? (i := 18) rfl)
theorem d_RF_shift_62 : decode Y_RF_shift.2.1 62 = .ok (.athrow, 1) := D_RF_shift_0 (62, .athrow, 1) (List.mem_of_getElem? (i := 19) rfl)
theorem D_RF_gramsLost_0 : ∀ q ∈ ([(0, .lconst 0, 1), (1, .lstore_n 1, 1), (2, .iconst 0, 1), (3, .istore_n 3, 1), (4, .iload_n 3, 1), (5, .bipush 8, 2), (7, .if_icmp .ge 47, 3), (10, .aload_n 0, 1), (11, .getfield 33, 3), (14, .iload_n 3, 1), (15, .aaload, 1), (16, .getfield 147, 3), (19, .ldc2_w 210, 3), (22, .lcmp, 1), (23, .ifCond .eq 25, 3), (26, .lload_n 1, 1), (27, .aload_n 0, 1), (28, .getfield 33, 3), (31, .iload_n 3, 1), (32, .aaload, 1), (33, .invokevirtual 150, 3), (36, .aload_n 0, 1), (37, .getfield 33, 3), (40, .iload_n 3, 1), (41, .aaload, 1), (42, .getfield 147, 3), (45, .lsub, 1), (46, .ladd, 1), (47, .lstore_n 1, 1), (48, .iinc 3 1, 3), (51, .goto (-47), 3), (54, .lload_n 1, 1), (55, .lreturn, 1)] : List (Nat × Instr × Nat)), decode prog_1_method_30_code q.1 = .ok (q.2.1, q.2.2) := by decide +kernel
theorem d_RF_gramsLost_0 : decode Y_RF_gramsLost.2.1 0 = .ok (.lconst 0, 1) := D_RF_gramsLost_0 (0, .lconst 0, 1) (List.mem_of_getElem? (i := 0) rfl)
theorem d_RF_gramsLost_1 : decode Y_RF_gramsLost.2.1 1 = .ok (.lstore_n 1, 1) := D_RF_gramsLost_0 (1, .lstore_n 1, 1) (List.mem_of_getElem? (i := 1) rfl)
theorem d_RF_gramsLost_2 : decode Y_RF_gramsLost.2.1 2 = .ok (.iconst 0, 1) := D_RF_gramsLost_0 (2, .iconst 0, 1) (List.mem_of_getElem? (i := 2) rfl)
theorem d_RF_gramsLost_3 : decode Y_RF_gramsLost.2.1 3 = .ok (.istore_n 3, 1) := D_RF_gramsLost_0 (3, .istore_n 3, 1) (List.mem_of_getElem? (i := 3) rfl)
theorem d_RF_gramsLost_4 : decode Y_RF_gramsLost.2.1 4 = .ok (.iload_n 3, 1) := D_RF_gramsLost_0 (4, .iload_n 3, 1) (List.mem_of_getElem? (i := 4) rfl)
theorem d_RF_gramsLost_5 : decode Y_RF_gramsLost.2.1 5 = .ok (.bipush 8, 2) := D_RF_gramsLost_0 (5, .bipush 8, 2) (List.mem_of_getElem? (i := 5) rfl)
theorem d_RF_gramsLost_7 : decode Y_RF_gramsLost.2.1 7 = .ok (.if_icmp .ge 47, 3) := D_RF_gramsLost_0 (7, .if_icmp .ge 47, 3) (List.mem_of_getElem? (i := 6) rfl)
theorem d_RF_gramsLost_10 : decode Y_RF_gramsLost.2.1 10 = .ok (.aload_n 0, 1) := D_RF_gramsLost_0 (10, .aload_n 0, 1) (List.mem_of_getElem? (i := 7) rfl)
theorem d_RF_gramsLost_11 : decode Y_RF_gramsLost.2.1 11 = .ok (.getfield 33, 3) := D_RF_gramsLost_0 (11, .getfield 33, 3) (List.mem_of_getElem? (i := 8) rfl)
theorem d_RF_gramsLost_14 : decode Y_RF_gramsLost.2.1 14 = .ok (.iload_n 3, 1) := D_RF_gramsLost_0 (14, .iload_n 3, 1) (List.mem_of_getElem? (i := 9) rfl)
theorem d_RF_gramsLost_15 : decode Y_RF_gramsLost.2.1 15 = .ok (.aaload, 1) := D_RF_gramsLost_0 (15, .aaload, 1) (List.mem_of_getElem? (i := 10) rfl)
theorem d_RF_gramsLost_16 : decode Y_RF_gramsLost.2.1 16 = .ok (.getfield 147, 3) := D_RF_gramsLost_0 (16, .getfield 147, 3) (List.mem_of_getElem? (i := 11) rfl)
theorem d_RF_gramsLost_19 : decode Y_RF_gramsLost.2.1 19 = .ok (.ldc2_w 210, 3) := D_RF_gramsLost_0 (19, .ldc2_w 210, 3) (List.mem_of_getElem? (i := 12) rfl)
theorem d_RF_gramsLost_22 : decode Y_RF_gramsLost.2.1 22 = .ok (.lcmp, 1) := D_RF_gramsLost_0 (22, .lcmp, 1) (List.mem_of_getElem? (i := 13) rfl)
theorem d_RF_gramsLost_23 : decode Y_RF_gramsLost.2.1 23 = .ok (.ifCond .eq 25, 3) := D_RF_gramsLost_0 (23, .ifCond .eq 25, 3) (List.mem_of_getElem? (i := 14) rfl)
theorem d_RF_gramsLost_26 : decode Y_RF_gramsLost.2.1 26 = .ok (.lload_n 1, 1) := D_RF_gramsLost_0 (26, .lload_n 1, 1) (List.mem_of_getElem? (i := 15) rfl)
theorem d_RF_gramsLost_27 : decode Y_RF_gramsLost.2.1 27 = .ok (.aload_n 0, 1) := D_RF_gramsLost_0 (27, .aload_n 0, 1) (List.mem_of_getElem? (i := 16) rfl)
theorem d_RF_gramsLost_28 : decode Y_RF_gramsLost.2.1 28 = .ok (.getfield 33, 3) := D_RF_gramsLost_0 (28, .getfield 33, 3) (List.mem_of_getElem? (i := 17) rfl)
theorem d_RF_gramsLost_31 : decode Y_RF_gramsLost.2.1 31 = .ok (.iload_n 3, 1) := D_RF_gramsLost_0 (31, .iload_n 3, 1) (List.mem_of_getElem? (i := 18) rfl)
theorem d_RF_gramsLost_32 : decode Y_RF_gramsLost.2.1 32 = .ok (.aaload, 1) := D_RF_gramsLost_0 (32, .aaload, 1) (List.mem_of_getElem? (i := 19) rfl)
theorem d_RF_gramsLost_33 : decode Y_RF_gramsLost.2.1 33 = .ok (.invokevirtual 150, 3) := D_RF_gramsLost_0 (33, .invokevirtual 150, 3) (List.mem_of_getElem? (i := 20) rfl)
theorem d_RF_gramsLost_36 : decode Y_RF_gramsLost.2.1 36 = .ok (.aload_n 0, 1) := D_RF_gramsLost_0 (36, .aload_n 0, 1) (List.mem_of_getElem? (i := 21) rfl)
theorem d_RF_gramsLost_37 : decode Y_RF_gramsLost.2.1 37 = .ok (.getfield 33, 3) := D_RF_gramsLost_0 (37, .getfield 33, 3) (List.mem_of_getElem? (i := 22) rfl)
theorem d_RF_gramsLost_40 : decode Y_RF_gramsLost.2.1 40 = .ok (.iload_n 3, 1) := D_RF_gramsLost_0 (40, .iload_n 3, 1) (List.mem_of_getElem? (i := 23) rfl)
theorem d_RF_gramsLost_41 : decode Y_RF_gramsLost.2.1 41 = .ok (.aaload, 1) := D_RF_gramsLost_0 (41, .aaload, 1) (List.mem_of_getElem? (i := 24) rfl)
theorem d_RF_gramsLost_42 : decode Y_RF_gramsLost.2.1 42 = .ok (.getfield 147, 3) := D_RF_gramsLost_0 (42, .getfield 147, 3) (List.mem_of_getElem? (i := 25) rfl)
theorem d_RF_gramsLost_45 : decode Y_RF_gramsLost.2.1 45 = .ok (.lsub, 1) := D_RF_gramsLost_0 (45, .lsub, 1) (List.mem_of_getElem? (i := 26) rfl)
theorem d_RF_gramsLost_46 : decode Y_RF_gramsLost.2.1 46 = .ok (.ladd, 1) := D_RF_gramsLost_0 (46, .ladd, 1) (List.mem_of_getElem? (i := 27) rfl)
theorem d_RF_gramsLost_47 : decode Y_RF_gramsLost.2.1 47 = .ok (.lstore_n 1, 1) := D_RF_gramsLost_0 (47, .lstore_n 1, 1) (List.mem_of_getElem? (i := 28) rfl)
theorem d_RF_gramsLost_48 : decode Y_RF_gramsLost.2.1 48 = .ok (.iinc 3 1, 3) := D_RF_gramsLost_0 (48, .iinc 3 1, 3) (List.mem_of_getElem? (i := 29) rfl)
theorem d_RF_gramsLost_51 : decode Y_RF_gramsLost.2.1 51 = .ok (.goto (-47), 3) := D_RF_gramsLost_0 (51, .goto (-47), 3) (List.mem_of_getElem? (i := 30) rfl)
theorem d_RF_gramsLost_54 : decode Y_RF_gramsLost.2.1 54 = .ok (.lload_n 1, 1) := D_RF_gramsLost_0 (54, .lload_n 1, 1) (List.mem_of_getElem? (i := 31) rfl)
theorem d_RF_gramsLost_55 : decode Y_RF_gramsLost.2.1 55 = .ok (.lreturn, 1) := D_RF_gramsLost_0 (55, .lreturn, 1) (List.mem_of_getElem? (i := 32) rfl)
theorem D_RF_row_0 : ∀ q ∈ ([(0, .iload_n 1, 1), (1, .invokestatic 212, 3), (4, .iload_n 1, 1), (5, .aload_n 0, 1), (6, .getfield 48, 3), (9, .invokevirtual 215, 3), (12, .if_icmp .le 14, 3), (15, .iload_n 2, 1), (16, .ifCond .lt 10, 3), (19, .iload_n 2, 1), (20, .sipush 200, 3), (23, .if_icmp .le 13, 3), (26, .new 59, 3), (29, .dup, 1), (30, .ldc 219, 2), (32, .invokespecial 63, 3), (35, .athrow, 1), (36, .aload_n 0, 1), (37, .getfield 48, 3), (40, .iload_n 1, 1), (41, .iload_n 2, 1), (42, .invokevirtual 221, 3), (45, .ifCond .ne 13, 3), (48, .new 115, 3), (51, .dup, 1), (52, .ldc 224, 2), (54, .invokespecial 119, 3), (57, .athrow, 1), (58, .aload_n 0, 1), (59, .getfield 48, 3), (62, .getfield 226, 3), (65, .ireturn, 1)] : List (Nat × Instr × Nat)), decode prog_1_method_14_code q.1 = .ok (q.2.1, q.2.2) := by decide +kernel
theorem d_RF_row_0 : decode Y_RF_row.2.1 0 = .ok (.iload_n 1, 1) := D_RF_row_0 (0, .iload_n 1, 1) (List.mem_of_getElem? (i := 0) rfl)
theorem d_RF_row_1 : decode Y_RF_row.2.1 1 = .ok (.invokestatic 212, 3) := D_RF_row_0 (1, .invokestatic 212, 3) (List.mem_of_getElem? (i := 1) rfl)
theorem d_RF_row_4 : decode Y_RF_row.2.1 4 = .ok (.iload_n 1, 1) := D_RF_row_0 (4, .iload_n 1, 1) (List.mem_of_getElem? (i := 2) rfl)
theorem d_RF_row_5 : decode Y_RF_row.2.1 5 = .ok (.aload_n 0, 1) := D_RF_row_0 (5, .aload_n 0, 1) (List.mem_of_getElem? (i := 3) rfl)
theorem d_RF_row_6 : decode Y_RF_row.2.1 6 = .ok (.getfield 48, 3) := D_RF_row_0 (6, .getfield 48, 3) (List.mem_of_getElem? (i := 4) rfl)
theorem d_RF_row_9 : decode Y_RF_row.2.1 9 = .ok (.invokevirtual 215, 3) := D_RF_row_0 (9, .invokevirtual 215, 3) (List.mem_of_getElem? (i := 5) rfl)
theorem d_RF_row_12 : decode Y_RF_row.2.1 12 = .ok (.if_icmp .le 14, 3) := D_RF_row_0 (12, .if_icmp .le 14, 3) (List.mem_of_getElem? (i := 6) rfl)
theorem d_RF_row_15 : decode Y_RF_row.2.1 15 = .ok (.iload_n 2, 1) := D_RF_row_0 (15, .iload_n 2, 1) (List.mem_of_getElem? (i := 7) rfl)
theorem d_RF_row_16 : decode Y_RF_row.2.1 16 = .ok (.ifCond .lt 10, 3) := D_RF_row_0 (16, .ifCond .lt 10, 3) (List.mem_of_getElem? (i := 8) rfl)
theorem d_RF_row_19 : decode Y_RF_row.2.1 19 = .ok (.iload_n 2, 1) := D_RF_row_0 (19, .iload_n 2, 1) (List.mem_of_getElem? (i := 9) rfl)
theorem d_RF_row_20 : decode Y_RF_row.2.1 20 = .ok (.sipush 200, 3) := D_RF_row_0 (20, .sipush 200, 3) (List.mem_of_getElem? (i := 10) rfl)
theorem d_RF_row_23 : decode Y_RF_row.2.1 23 = .ok (.if_icmp .le 13, 3) := D_RF_row_0 (23, .if_icmp .le 13, 3) (List.mem_of_getElem? (i := 11) rfl)
theorem d_RF_row_26 : decode Y_RF_row.2.1 26 = .ok (.new 59, 3) := D_RF_row_0 (26, .new 59, 3) (List.mem_of_getElem? (i := 12) rfl)
theorem d_RF_row_29 : decode Y_RF_row.2.1 29 = .ok (.dup, 1) := D_RF_row_0 (29, .dup, 1) (List.mem_of_getElem? (i := 13) rfl)
theorem d_RF_row_30 : decode Y_RF_row.2.1 30 = .ok (.ldc 219, 2) := D_RF_row_0 (30, .ldc 219, 2) (List.mem_of_getElem? (i := 14) rfl)
theorem d_RF_row_32 : decode Y_RF_row.2.1 32 = .ok (.invokespecial 63, 3) := D_RF_row_0 (32, .invokespecial 63, 3) (List.mem_of_getElem? (i := 15) rfl)
theorem d_RF_row_35 : decode Y_RF_row.2.1 35 = .ok (.athrow, 1) := D_RF_row_0 (35, .athrow, 1) (List.mem_of_getElem? (i := 16) rfl)
theorem d_RF_row_36 : decode Y_RF_row.2.1 36 = .ok (.aload_n 0, 1) := D_RF_row_0 (36, .aload_n 0, 1) (List.mem_of_getElem? (i := 17) rfl)
theorem d_RF_row_37 : decode Y_RF_row.2.1 37 = .ok (.getfield 48, 3) := D_RF_row_0 (37, .getfield 48, 3) (List.mem_of_getElem? (i := 18) rfl)
theorem d_RF_row_40 : decode Y_RF_row.2.1 40 = .ok (.iload_n 1, 1) := D_RF_row_0 (40, .iload_n 1, 1) (List.mem_of_getElem? (i := 19) rfl)
theorem d_RF_row_41 : decode Y_RF_row.2.1 41 = .ok (.iload_n 2, 1) := D_RF_row_0 (41, .iload_n 2, 1) (List.mem_of_getElem? (i := 20) rfl)
theorem d_RF_row_42 : decode Y_RF_row.2.1 42 = .ok (.invokevirtual 221, 3) := D_RF_row_0 (42, .invokevirtual 221, 3) (List.mem_of_getElem? (i := 21) rfl)
theorem d_RF_row_45 : decode Y_RF_row.2.1 45 = .ok (.ifCond .ne 13, 3) := D_RF_row_0 (45, .ifCond .ne 13, 3) (List.mem_of_getElem? (i := 22) rfl)
theorem d_RF_row_48 : decode Y_RF_row.2.1 48 = .ok (.new 115, 3) := D_RF_row_0 (48, .new 115, 3) (List.mem_of_getElem? (i := 23) rfl)
theorem d_RF_row_51 : decode Y_RF_row.2.1 51 = .ok (.dup, 1) := D_RF_row_0 (51, .dup, 1) (List.mem_of_getElem? (i := 24) rfl)
theorem d_RF_row_52 : decode Y_RF_row.2.1 52 = .ok (.ldc 224, 2) := D_RF_row_0 (52, .ldc 224, 2) (List.mem_of_getElem? (i := 25) rfl)
theorem d_RF_row_54 : decode Y_RF_row.2.1 54 = .ok (.invokespecial 119, 3) := D_RF_row_0 (54, .invokespecial 119, 3) (List.mem_of_getElem? (i := 26) rfl)
theorem d_RF_row_57 : decode Y_RF_row.2.1 57 = .ok (.athrow, 1) := D_RF_row_0 (57, .athrow, 1) (List.mem_of_getElem? (i := 27) rfl)
theorem d_RF_row_58 : decode Y_RF_row.2.1 58 = .ok (.aload_n 0, 1) := D_RF_row_0 (58, .aload_n 0, 1) (List.mem_of_getElem? (i := 28) rfl)
theorem d_RF_row_59 : decode Y_RF_row.2.1 59 = .ok (.getfield 48, 3) := D_RF_row_0 (59, .getfield 48, 3) (List.mem_of_getElem? (i := 29) rfl)
theorem d_RF_row_62 : decode Y_RF_row.2.1 62 = .ok (.getfield 226, 3) := D_RF_row_0 (62, .getfield 226, 3) (List.mem_of_getElem? (i := 30) rfl)
theorem d_RF_row_65 : decode Y_RF_row.2.1 65 = .ok (.ireturn, 1) := D_RF_row_0 (65, .ireturn, 1) (List.mem_of_getElem? (i := 31) rfl)
theorem D_RF_checkDay_0 : ∀ q ∈ ([(0, .iload_n 0, 1), (1, .ifCond .lt 10, 3), (4, .iload_n 0, 1), (5, .sipush 365, 3), (8, .if_icmp .lt 14, 3), (11, .new 59, 3), (14, .dup, 1), (15, .ldc_w 288, 3), (18, .invokespecial 63, 3), (21, .athrow, 1), (22, .return_, 1)] : List (Nat × Instr × Nat)), decode prog_1_method_24_code q.1 = .ok (q.2.1, q.2.2) := by decide +kernel
theorem d_RF_checkDay_0 : decode Y_RF_checkDay.2.1 0 = .ok (.iload_n 0, 1) := D_RF_checkDay_0 (0, .iload_n 0, 1) (List.mem_of_getElem? (i := 0) rfl)
theorem d_RF_checkDay_1 : decode Y_RF_checkDay.2.1 1 = .ok (.ifCond .lt 10, 3) := D_RF_checkDay_0 (1, .ifCond .lt 10, 3) (List.mem_of_getElem? (i := 1) rfl)
theorem d_RF_checkDay_4 : decode Y_RF_checkDay.2.1 4 = .ok (.iload_n 0, 1) := D_RF_checkDay_0 (4, .iload_n 0, 1) (List.mem_of_getElem? (i := 2) rfl)
theorem d_RF_checkDay_5 : decode Y_RF_checkDay.2.1 5 = .ok (.sipush 365, 3) := D_RF_checkDay_0 (5, .sipush 365, 3) (List.mem_of_getElem? (i := 3) rfl)
theorem d_RF_checkDay_8 : decode Y_RF_checkDay.2.1 8 = .ok (.if_icmp .lt 14, 3) := D_RF_checkDay_0 (8, .if_icmp .lt 14, 3) (List.mem_of_getElem? (i := 4) rfl)
theorem d_RF_checkDay_11 : decode Y_RF_checkDay.2.1 11 = .ok (.new 59, 3) := D_RF_checkDay_0 (11, .new 59, 3) (List.mem_of_getElem? (i := 5) rfl)
theorem d_RF_checkDay_14 : decode Y_RF_checkDay.2.1 14 = .ok (.dup, 1) := D_RF_checkDay_0 (14, .dup, 1) (List.mem_of_getElem? (i := 6) rfl)
theorem d_RF_checkDay_15 : decode Y_RF_checkDay.2.1 15 = .ok (.ldc_w 288, 3) := D_RF_checkDay_0 (15, .ldc_w 288, 3) (List.mem_of_getElem? (i := 7) rfl)
theorem d_RF_checkDay_18 : decode Y_RF_checkDay.2.1 18 = .ok (.invokespecial 63, 3) := D_RF_checkDay_0 (18, .invokespecial 63, 3) (List.mem_of_getElem? (i := 8) rfl)
theorem d_RF_checkDay_21 : decode Y_RF_checkDay.2.1 21 = .ok (.athrow, 1) := D_RF_checkDay_0 (21, .athrow, 1) (List.mem_of_getElem? (i := 9) rfl)
theorem d_RF_checkDay_22 : decode Y_RF_checkDay.2.1 22 = .ok (.return_, 1) := D_RF_checkDay_0 (22, .return_, 1) (List.mem_of_getElem? (i := 10) rfl)
theorem D_RF_burn_0 : ∀ q ∈ ([(0, .aload_n 0, 1), (1, .iload_n 1, 1), (2, .invokevirtual 126, 3), (5, .astore 4, 2), (7, .iload_n 2, 1), (8, .invokestatic 229, 3), (11, .iload_n 3, 1), (12, .invokestatic 212, 3), (15, .aload 4, 2), (17, .iload_n 2, 1), (18, .invokestatic 232, 3), (21, .aload 4, 2), (23, .iload_n 2, 1), (24, .invokevirtual 236, 3), (27, .lstore 5, 2), (29, .aload 4, 2), (31, .iload_n 2, 1), (32, .invokevirtual 239, 3), (35, .lstore 7, 2), (37, .aload_n 0, 1), (38, .aload 4, 2), (40, .lload 7, 2), (42, .lload 5, 2), (44, .invokevirtual 242, 3), (47, .lload 7, 2), (49, .ldc2_w 246, 3), (52, .lmul, 1), (53, .lload 5, 2), (55, .ldc2_w 248, 3), (58, .lmul, 1), (59, .lsub, 1), (60, .aload_n 0, 1), (61, .getfield 48, 3), (64, .iload_n 3, 1), (65, .invokevirtual 250, 3), (68, .i2l, 1), (69, .lmul, 1), (70, .ldc2_w 254, 3), (73, .ldiv, 1), (74, .lstore 9, 2), (76, .lload 9, 2), (78, .lconst 0, 1), (79, .lcmp, 1), (80, .ifCond .ge 7, 3), (83, .lconst 0, 1), (84, .goto 5, 3), (87, .lload 9, 2), (89, .lreturn, 1)] : List (Nat × Instr × Nat)), decode prog_1_method_15_code q.1 = .ok (q.2.1, q.2.2) := by decide +kernel
theorem d_RF_burn_0 : decode Y_RF_burn.2.1 0 = .ok (.aload_n 0, 1) := D_RF_burn_0 (0, .aload_n 0, 1) (List.mem_of_getElem? (i := 0) rfl)
theorem d_RF_burn_1 : decode Y_RF_burn.2.1 1 = .ok (.iload_n 1, 1) := D_RF_burn_0 (1, .iload_n 1, 1) (List.mem_of_getElem? (i := 1) rfl)
theorem d_RF_burn_2 : decode Y_RF_burn.2.1 2 = .ok (.invokevirtual 126, 3) := D_RF_burn_0 (2, .invokevirtual 126, 3) (List.mem_of_getElem? (i := 2) rfl)
theorem d_RF_burn_5 : decode Y_RF_burn.2.1 5 = .ok (.astore 4, 2) := D_RF_burn_0 (5, .astore 4, 2) (List.mem_of_getElem? (i := 3) rfl)
theorem d_RF_burn_7 : decode Y_RF_burn.2.1 7 = .ok (.iload_n 2, 1) := D_RF_burn_0 (7, .iload_n 2, 1) (List.mem_of_getElem? (i := 4) rfl)
theorem d_RF_burn_8 : decode Y_RF_burn.2.1 8 = .ok (.invokestatic 229, 3) := D_RF_burn_0 (8, .invokestatic 229, 3) (List.mem_of_getElem? (i := 5) rfl)
theorem d_RF_burn_11 : decode Y_RF_burn.2.1 11 = .ok (.iload_n 3, 1) := D_RF_burn_0 (11, .iload_n 3, 1) (List.mem_of_getElem? (i := 6) rfl)
theorem d_RF_burn_12 : decode Y_RF_burn.2.1 12 = .ok (.invokestatic 212, 3) := D_RF_burn_0 (12, .invokestatic 212, 3) (List.mem_of_getElem? (i := 7) rfl)
theorem d_RF_burn_15 : decode Y_RF_burn.2.1 15 = .ok (.aload 4, 2) := D_RF_burn_0 (15, .aload 4, 2) (List.mem_of_getElem? (i := 8) rfl)
theorem d_RF_burn_17 : decode Y_RF_burn.2.1 17 = .ok (.iload_n 2, 1) := D_RF_burn_0 (17, .iload_n 2, 1) (List.mem_of_getElem? (i := 9) rfl)
theorem d_RF_burn_18 : decode Y_RF_burn.2.1 18 = .ok (.invokestatic 232, 3) := D_RF_burn_0 (18, .invokestatic 232, 3) (List.mem_of_getElem? (i := 10) rfl)
theorem d_RF_burn_21 : decode Y_RF_burn.2.1 21 = .ok (.aload 4, 2) := D_RF_burn_0 (21, .aload 4, 2) (List.mem_of_getElem? (i := 11) rfl)
theorem d_RF_burn_23 : decode Y_RF_burn.2.1 23 = .ok (.iload_n 2, 1) := D_RF_burn_0 (23, .iload_n 2, 1) (List.mem_of_getElem? (i := 12) rfl)
theorem d_RF_burn_24 : decode Y_RF_burn.2.1 24 = .ok (.invokevirtual 236, 3) := D_RF_burn_0 (24, .invokevirtual 236, 3) (List.mem_of_getElem? (i := 13) rfl)
theorem d_RF_burn_27 : decode Y_RF_burn.2.1 27 = .ok (.lstore 5, 2) := D_RF_burn_0 (27, .lstore 5, 2) (List.mem_of_getElem? (i := 14) rfl)
theorem d_RF_burn_29 : decode Y_RF_burn.2.1 29 = .ok (.aload 4, 2) := D_RF_burn_0 (29, .aload 4, 2) (List.mem_of_getElem? (i := 15) rfl)
theorem d_RF_burn_31 : decode Y_RF_burn.2.1 31 = .ok (.iload_n 2, 1) := D_RF_burn_0 (31, .iload_n 2, 1) (List.mem_of_getElem? (i := 16) rfl)
theorem d_RF_burn_32 : decode Y_RF_burn.2.1 32 = .ok (.invokevirtual 239, 3) := D_RF_burn_0 (32, .invokevirtual 239, 3) (List.mem_of_getElem? (i := 17) rfl)
theorem d_RF_burn_35 : decode Y_RF_burn.2.1 35 = .ok (.lstore 7, 2) := D_RF_burn_0 (35, .lstore 7, 2) (List.mem_of_getElem? (i := 18) rfl)
theorem d_RF_burn_37 : decode Y_RF_burn.2.1 37 = .ok (.aload_n 0, 1) := D_RF_burn_0 (37, .aload_n 0, 1) (List.mem_of_getElem? (i := 19) rfl)
theorem d_RF_burn_38 : decode Y_RF_burn.2.1 38 = .ok (.aload 4, 2) := D_RF_burn_0 (38, .aload 4, 2) (List.mem_of_getElem? (i := 20) rfl)
theorem d_RF_burn_40 : decode Y_RF_burn.2.1 40 = .ok (.lload 7, 2) := D_RF_burn_0 (40, .lload 7, 2) (List.mem_of_getElem? (i := 21) rfl)
theorem d_RF_burn_42 : decode Y_RF_burn.2.1 42 = .ok (.lload 5, 2) := D_RF_burn_0 (42, .lload 5, 2) (List.mem_of_getElem? (i := 22) rfl)
theorem d_RF_burn_44 : decode Y_RF_burn.2.1 44 = .ok (.invokevirtual 242, 3) := D_RF_burn_0 (44, .invokevirtual 242, 3) (List.mem_of_getElem? (i := 23) rfl)
theorem d_RF_burn_47 : decode Y_RF_burn.2.1 47 = .ok (.lload 7, 2) := D_RF_burn_0 (47, .lload 7, 2) (List.mem_of_getElem? (i := 24) rfl)
theorem d_RF_burn_49 : decode Y_RF_burn.2.1 49 = .ok (.ldc2_w 246, 3) := D_RF_burn_0 (49, .ldc2_w 246, 3) (List.mem_of_getElem? (i := 25) rfl)
theorem d_RF_burn_52 : decode Y_RF_burn.2.1 52 = .ok (.lmul, 1) := D_RF_burn_0 (52, .lmul, 1) (List.mem_of_getElem? (i := 26) rfl)
theorem d_RF_burn_53 : decode Y_RF_burn.2.1 53 = .ok (.lload 5, 2) := D_RF_burn_0 (53, .lload 5, 2) (List.mem_of_getElem? (i := 27) rfl)
theorem d_RF_burn_55 : decode Y_RF_burn.2.1 55 = .ok (.ldc2_w 248, 3) := D_RF_burn_0 (55, .ldc2_w 248, 3) (List.mem_of_getElem? (i := 28) rfl)
theorem d_RF_burn_58 : decode Y_RF_burn.2.1 58 = .ok (.lmul, 1) := D_RF_burn_0 (58, .lmul, 1) (List.mem_of_getElem? (i := 29) rfl)
theorem d_RF_burn_59 : decode Y_RF_burn.2.1 59 = .ok (.lsub, 1) := D_RF_burn_0 (59, .lsub, 1) (List.mem_of_getElem? (i := 30) rfl)
theorem d_RF_burn_60 : decode Y_RF_burn.2.1 60 = .ok (.aload_n 0, 1) := D_RF_burn_0 (60, .aload_n 0, 1) (List.mem_of_getElem? (i := 31) rfl)
theorem d_RF_burn_61 : decode Y_RF_burn.2.1 61 = .ok (.getfield 48, 3) := D_RF_burn_0 (61, .getfield 48, 3) (List.mem_of_getElem? (i := 32) rfl)
theorem d_RF_burn_64 : decode Y_RF_burn.2.1 64 = .ok (.iload_n 3, 1) := D_RF_burn_0 (64, .iload_n 3, 1) (List.mem_of_getElem? (i := 33) rfl)
theorem d_RF_burn_65 : decode Y_RF_burn.2.1 65 = .ok (.invokevirtual 250, 3) := D_RF_burn_0 (65, .invokevirtual 250, 3) (List.mem_of_getElem? (i := 34) rfl)
theorem d_RF_burn_68 : decode Y_RF_burn.2.1 68 = .ok (.i2l, 1) := D_RF_burn_0 (68, .i2l, 1) (List.mem_of_getElem? (i := 35) rfl)
theorem d_RF_burn_69 : decode Y_RF_burn.2.1 69 = .ok (.lmul, 1) := D_RF_burn_0 (69, .lmul, 1) (List.mem_of_getElem? (i := 36) rfl)
theorem d_RF_burn_70 : decode Y_RF_burn.2.1 70 = .ok (.ldc2_w 254, 3) := D_RF_burn_0 (70, .ldc2_w 254, 3) (List.mem_of_getElem? (i := 37) rfl)
theorem d_RF_burn_73 : decode Y_RF_burn.2.1 73 = .ok (.ldiv, 1) := D_RF_burn_0 (73, .ldiv, 1) (List.mem_of_getElem? (i := 38) rfl)
theorem d_RF_burn_74 : decode Y_RF_burn.2.1 74 = .ok (.lstore 9, 2) := D_RF_burn_0 (74, .lstore 9, 2) (List.mem_of_getElem? (i := 39) rfl)
theorem d_RF_burn_76 : decode Y_RF_burn.2.1 76 = .ok (.lload 9, 2) := D_RF_burn_0 (76, .lload 9, 2) (List.mem_of_getElem? (i := 40) rfl)
theorem d_RF_burn_78 : decode Y_RF_burn.2.1 78 = .ok (.lconst 0, 1) := D_RF_burn_0 (78, .lconst 0, 1) (List.mem_of_getElem? (i := 41) rfl)
theorem d_RF_burn_79 : decode Y_RF_burn.2.1 79 = .ok (.lcmp, 1) := D_RF_burn_0 (79, .lcmp, 1) (List.mem_of_getElem? (i := 42) rfl)
theorem d_RF_burn_80 : decode Y_RF_burn.2.1 80 = .ok (.ifCond .ge 7, 3) := D_RF_burn_0 (80, .ifCond .ge 7, 3) (List.mem_of_getElem? (i := 43) rfl)
theorem d_RF_burn_83 : decode Y_RF_burn.2.1 83 = .ok (.lconst 0, 1) := D_RF_burn_0 (83, .lconst 0, 1) (List.mem_of_getElem? (i := 44) rfl)
theorem d_RF_burn_84 : decode Y_RF_burn.2.1 84 = .ok (.goto 5, 3) := D_RF_burn_0 (84, .goto 5, 3) (List.mem_of_getElem? (i := 45) rfl)
theorem d_RF_burn_87 : decode Y_RF_burn.2.1 87 = .ok (.lload 9, 2) := D_RF_burn_0 (87, .lload 9, 2) (List.mem_of_getElem? (i := 46) rfl)
theorem d_RF_burn_89 : decode Y_RF_burn.2.1 89 = .ok (.lreturn, 1) := D_RF_burn_0 (89, .lreturn, 1) (List.mem_of_getElem? (i := 47) rfl)
theorem D_RF_checkTaken_0 : ∀ q ∈ ([(0, .iload_n 0, 1), (1, .iconst 1, 1), (2, .if_icmp .lt 9, 3), (5, .iload_n 0, 1), (6, .ldc 109, 2), (8, .if_icmp .le 14, 3), (11, .new 59, 3), (14, .dup, 1), (15, .ldc_w 286, 3), (18, .invokespecial 63, 3), (21, .athrow, 1), (22, .return_, 1)] : List (Nat × Instr × Nat)), decode prog_1_method_23_code q.1 = .ok (q.2.1, q.2.2) := by decide +kernel
theorem d_RF_checkTaken_0 : decode Y_RF_checkTaken.2.1 0 = .ok (.iload_n 0, 1) := D_RF_checkTaken_0 (0, .iload_n 0, 1) (List.mem_of_getElem? (i := 0) rfl)
theorem d_RF_checkTaken_1 : decode Y_RF_checkTaken.2.1 1 = .ok (.iconst 1, 1) := D_RF_checkTaken_0 (1, .iconst 1, 1) (List.mem_of_getElem? (i := 1) rfl)
theorem d_RF_checkTaken_2 : decode Y_RF_checkTaken.2.1 2 = .ok (.if_icmp .lt 9, 3) := D_RF_checkTaken_0 (2, .if_icmp .lt 9, 3) (List.mem_of_getElem? (i := 2) rfl)
theorem d_RF_checkTaken_5 : decode Y_RF_checkTaken.2.1 5 = .ok (.iload_n 0, 1) := D_RF_checkTaken_0 (5, .iload_n 0, 1) (List.mem_of_getElem? (i := 3) rfl)
theorem d_RF_checkTaken_6 : decode Y_RF_checkTaken.2.1 6 = .ok (.ldc 109, 2) := D_RF_checkTaken_0 (6, .ldc 109, 2) (List.mem_of_getElem? (i := 4) rfl)
theorem d_RF_checkTaken_8 : decode Y_RF_checkTaken.2.1 8 = .ok (.if_icmp .le 14, 3) := D_RF_checkTaken_0 (8, .if_icmp .le 14, 3) (List.mem_of_getElem? (i := 5) rfl)
theorem d_RF_checkTaken_11 : decode Y_RF_checkTaken.2.1 11 = .ok (.new 59, 3) := D_RF_checkTaken_0 (11, .new 59, 3) (List.mem_of_getElem? (i := 6) rfl)
theorem d_RF_checkTaken_14 : decode Y_RF_checkTaken.2.1 14 = .ok (.dup, 1) := D_RF_checkTaken_0 (14, .dup, 1) (List.mem_of_getElem? (i := 7) rfl)
theorem d_RF_checkTaken_15 : decode Y_RF_checkTaken.2.1 15 = .ok (.ldc_w 286, 3) := D_RF_checkTaken_0 (15, .ldc_w 286, 3) (List.mem_of_getElem? (i := 8) rfl)
theorem d_RF_checkTaken_18 : decode Y_RF_checkTaken.2.1 18 = .ok (.invokespecial 63, 3) := D_RF_checkTaken_0 (18, .invokespecial 63, 3) (List.mem_of_getElem? (i := 9) rfl)
theorem d_RF_checkTaken_21 : decode Y_RF_checkTaken.2.1 21 = .ok (.athrow, 1) := D_RF_checkTaken_0 (21, .athrow, 1) (List.mem_of_getElem? (i := 10) rfl)
theorem d_RF_checkTaken_22 : decode Y_RF_checkTaken.2.1 22 = .ok (.return_, 1) := D_RF_checkTaken_0 (22, .return_, 1) (List.mem_of_getElem? (i := 11) rfl)
theorem D_RF_checkEnough_0 : ∀ q ∈ ([(0, .iload_n 1, 1), (1, .i2l, 1), (2, .ldc2_w 290, 3), (5, .lmul, 1), (6, .aload_n 0, 1), (7, .invokevirtual 150, 3), (10, .lcmp, 1), (11, .ifCond .le 14, 3), (14, .new 115, 3), (17, .dup, 1), (18, .ldc_w 292, 3), (21, .invokespecial 119, 3), (24, .athrow, 1), (25, .return_, 1)] : List (Nat × Instr × Nat)), decode prog_1_method_25_code q.1 = .ok (q.2.1, q.2.2) := by decide +kernel
theorem d_RF_checkEnough_0 : decode Y_RF_checkEnough.2.1 0 = .ok (.iload_n 1, 1) := D_RF_checkEnough_0 (0, .iload_n 1, 1) (List.mem_of_getElem? (i := 0) rfl)
theorem d_RF_checkEnough_1 : decode Y_RF_checkEnough.2.1 1 = .ok (.i2l, 1) := D_RF_checkEnough_0 (1, .i2l, 1) (List.mem_of_getElem? (i := 1) rfl)
theorem d_RF_checkEnough_2 : decode Y_RF_checkEnough.2.1 2 = .ok (.ldc2_w 290, 3) := D_RF_checkEnough_0 (2, .ldc2_w 290, 3) (List.mem_of_getElem? (i := 2) rfl)
theorem d_RF_checkEnough_5 : decode Y_RF_checkEnough.2.1 5 = .ok (.lmul, 1) := D_RF_checkEnough_0 (5, .lmul, 1) (List.mem_of_getElem? (i := 3) rfl)
theorem d_RF_checkEnough_6 : decode Y_RF_checkEnough.2.1 6 = .ok (.aload_n 0, 1) := D_RF_checkEnough_0 (6, .aload_n 0, 1) (List.mem_of_getElem? (i := 4) rfl)
theorem d_RF_checkEnough_7 : decode Y_RF_checkEnough.2.1 7 = .ok (.invokevirtual 150, 3) := D_RF_checkEnough_0 (7, .invokevirtual 150, 3) (List.mem_of_getElem? (i := 5) rfl)
theorem d_RF_checkEnough_10 : decode Y_RF_checkEnough.2.1 10 = .ok (.lcmp, 1) := D_RF_checkEnough_0 (10, .lcmp, 1) (List.mem_of_getElem? (i := 6) rfl)
theorem d_RF_checkEnough_11 : decode Y_RF_checkEnough.2.1 11 = .ok (.ifCond .le 14, 3) := D_RF_checkEnough_0 (11, .ifCond .le 14, 3) (List.mem_of_getElem? (i := 7) rfl)
theorem d_RF_checkEnough_14 : decode Y_RF_checkEnough.2.1 14 = .ok (.new 115, 3) := D_RF_checkEnough_0 (14, .new 115, 3) (List.mem_of_getElem? (i := 8) rfl)
theorem d_RF_checkEnough_17 : decode Y_RF_checkEnough.2.1 17 = .ok (.dup, 1) := D_RF_checkEnough_0 (17, .dup, 1) (List.mem_of_getElem? (i := 9) rfl)
theorem d_RF_checkEnough_18 : decode Y_RF_checkEnough.2.1 18 = .ok (.ldc_w 292, 3) := D_RF_checkEnough_0 (18, .ldc_w 292, 3) (List.mem_of_getElem? (i := 10) rfl)
theorem d_RF_checkEnough_21 : decode Y_RF_checkEnough.2.1 21 = .ok (.invokespecial 119, 3) := D_RF_checkEnough_0 (21, .invokespecial 119, 3) (List.mem_of_getElem? (i := 11) rfl)
theorem d_RF_checkEnough_24 : decode Y_RF_checkEnough.2.1 24 = .ok (.athrow, 1) := D_RF_checkEnough_0 (24, .athrow, 1) (List.mem_of_getElem? (i := 12) rfl)
theorem d_RF_checkEnough_25 : decode Y_RF_checkEnough.2.1 25 = .ok (.return_, 1) := D_RF_checkEnough_0 (25, .return_, 1) (List.mem_of_getElem? (i := 13) rfl)
theorem D_RF_takeAway_0 : ∀ q ∈ ([(0, .aload_n 1, 1), (1, .lload_n 2, 1), (2, .lneg, 1), (3, .lload 4, 2), (5, .lneg, 1), (6, .invokevirtual 274, 3), (9, .aload_n 0, 1), (10, .dup, 1), (11, .getfield 202, 3), (14, .lload_n 2, 1), (15, .lload 4, 2), (17, .ladd, 1), (18, .ladd, 1), (19, .putfield 202, 3), (22, .return_, 1)] : List (Nat × Instr × Nat)), decode prog_1_method_29_code q.1 = .ok (q.2.1, q.2.2) := by decide +kernel
theorem d_RF_takeAway_0 : decode Y_RF_takeAway.2.1 0 = .ok (.aload_n 1, 1) := D_RF_takeAway_0 (0, .aload_n 1, 1) (List.mem_of_getElem? (i := 0) rfl)
theorem d_RF_takeAway_1 : decode Y_RF_takeAway.2.1 1 = .ok (.lload_n 2, 1) := D_RF_takeAway_0 (1, .lload_n 2, 1) (List.mem_of_getElem? (i := 1) rfl)
theorem d_RF_takeAway_2 : decode Y_RF_takeAway.2.1 2 = .ok (.lneg, 1) := D_RF_takeAway_0 (2, .lneg, 1) (List.mem_of_getElem? (i := 2) rfl)
theorem d_RF_takeAway_3 : decode Y_RF_takeAway.2.1 3 = .ok (.lload 4, 2) := D_RF_takeAway_0 (3, .lload 4, 2) (List.mem_of_getElem? (i := 3) rfl)
theorem d_RF_takeAway_5 : decode Y_RF_takeAway.2.1 5 = .ok (.lneg, 1) := D_RF_takeAway_0 (5, .lneg, 1) (List.mem_of_getElem? (i := 4) rfl)
theorem d_RF_takeAway_6 : decode Y_RF_takeAway.2.1 6 = .ok (.invokevirtual 274, 3) := D_RF_takeAway_0 (6, .invokevirtual 274, 3) (List.mem_of_getElem? (i := 5) rfl)
theorem d_RF_takeAway_9 : decode Y_RF_takeAway.2.1 9 = .ok (.aload_n 0, 1) := D_RF_takeAway_0 (9, .aload_n 0, 1) (List.mem_of_getElem? (i := 6) rfl)
theorem d_RF_takeAway_10 : decode Y_RF_takeAway.2.1 10 = .ok (.dup, 1) := D_RF_takeAway_0 (10, .dup, 1) (List.mem_of_getElem? (i := 7) rfl)
theorem d_RF_takeAway_11 : decode Y_RF_takeAway.2.1 11 = .ok (.getfield 202, 3) := D_RF_takeAway_0 (11, .getfield 202, 3) (List.mem_of_getElem? (i := 8) rfl)
theorem d_RF_takeAway_14 : decode Y_RF_takeAway.2.1 14 = .ok (.lload_n 2, 1) := D_RF_takeAway_0 (14, .lload_n 2, 1) (List.mem_of_getElem? (i := 9) rfl)
theorem d_RF_takeAway_15 : decode Y_RF_takeAway.2.1 15 = .ok (.lload 4, 2) := D_RF_takeAway_0 (15, .lload 4, 2) (List.mem_of_getElem? (i := 10) rfl)
theorem d_RF_takeAway_17 : decode Y_RF_takeAway.2.1 17 = .ok (.ladd, 1) := D_RF_takeAway_0 (17, .ladd, 1) (List.mem_of_getElem? (i := 11) rfl)
theorem d_RF_takeAway_18 : decode Y_RF_takeAway.2.1 18 = .ok (.ladd, 1) := D_RF_takeAway_0 (18, .ladd, 1) (List.mem_of_getElem? (i := 12) rfl)
theorem d_RF_takeAway_19 : decode Y_RF_takeAway.2.1 19 = .ok (.putfield 202, 3) := D_RF_takeAway_0 (19, .putfield 202, 3) (List.mem_of_getElem? (i := 13) rfl)
theorem d_RF_takeAway_22 : decode Y_RF_takeAway.2.1 22 = .ok (.return_, 1) := D_RF_takeAway_0 (22, .return_, 1) (List.mem_of_getElem? (i := 14) rfl)
theorem D_RF_sell_0 : ∀ q ∈ ([(0, .aload_n 0, 1), (1, .iload_n 1, 1), (2, .invokevirtual 126, 3), (5, .astore 4, 2), (7, .iload_n 2, 1), (8, .invokestatic 229, 3), (11, .iload_n 3, 1), (12, .ifCond .lt 9, 3), (15, .iload_n 3, 1), (16, .ldc 109, 2), (18, .if_icmp .le 14, 3), (21, .new 59, 3), (24, .dup, 1), (25, .ldc_w 256, 3), (28, .invokespecial 63, 3), (31, .athrow, 1), (32, .aload 4, 2), (34, .iload_n 2, 1), (35, .invokestatic 232, 3), (38, .aload 4, 2), (40, .iload_n 2, 1), (41, .invokevirtual 239, 3), (44, .lstore 5, 2), (46, .aload_n 0, 1), (47, .aload 4, 2), (49, .lload 5, 2), (51, .aload 4, 2), (53, .iload_n 2, 1), (54, .invokevirtual 236, 3), (57, .invokevirtual 242, 3), (60, .lload 5, 2), (62, .iload_n 3, 1), (63, .i2l, 1), (64, .lmul, 1), (65, .ldc2_w 258, 3), (68, .ldiv, 1), (69, .lreturn, 1)] : List (Nat × Instr × Nat)), decode prog_1_method_16_code q.1 = .ok (q.2.1, q.2.2) := by decide +kernel
theorem d_RF_sell_0 : decode Y_RF_sell.2.1 0 = .ok (.aload_n 0, 1) := D_RF_sell_0 (0, .aload_n 0, 1) (List.mem_of_getElem? (i := 0) rfl)
theorem d_RF_sell_1 : decode Y_RF_sell.2.1 1 = .ok (.iload_n 1, 1) := D_RF_sell_0 (1, .iload_n 1, 1) (List.mem_of_getElem? (i := 1) rfl)
theorem d_RF_sell_2 : decode Y_RF_sell.2.1 2 = .ok (.invokevirtual 126, 3) := D_RF_sell_0 (2, .invokevirtual 126, 3) (List.mem_of_getElem? (i := 2) rfl)
theorem d_RF_sell_5 : decode Y_RF_sell.2.1 5 = .ok (.astore 4, 2) := D_RF_sell_0 (5, .astore 4, 2) (List.mem_of_getElem? (i := 3) rfl)
theorem d_RF_sell_7 : decode Y_RF_sell.2.1 7 = .ok (.iload_n 2, 1) := D_RF_sell_0 (7, .iload_n 2, 1) (List.mem_of_getElem? (i := 4) rfl)
theorem d_RF_sell_8 : decode Y_RF_sell.2.1 8 = .ok (.invokestatic 229, 3) := D_RF_sell_0 (8, .invokestatic 229, 3) (List.mem_of_getElem? (i := 5) rfl)
theorem d_RF_sell_11 : decode Y_RF_sell.2.1 11 = .ok (.iload_n 3, 1) := D_RF_sell_0 (11, .iload_n 3, 1) (List.mem_of_getElem? (i := 6) rfl)
theorem d_RF_sell_12 : decode Y_RF_sell.2.1 12 = .ok (.ifCond .lt 9, 3) := D_RF_sell_0 (12, .ifCond .lt 9, 3) (List.mem_of_getElem? (i := 7) rfl)
theorem d_RF_sell_15 : decode Y_RF_sell.2.1 15 = .ok (.iload_n 3, 1) := D_RF_sell_0 (15, .iload_n 3, 1) (List.mem_of_getElem? (i := 8) rfl)
theorem d_RF_sell_16 : decode Y_RF_sell.2.1 16 = .ok (.ldc 109, 2) := D_RF_sell_0 (16, .ldc 109, 2) (List.mem_of_getElem? (i := 9) rfl)
theorem d_RF_sell_18 : decode Y_RF_sell.2.1 18 = .ok (.if_icmp .le 14, 3) := D_RF_sell_0 (18, .if_icmp .le 14, 3) (List.mem_of_getElem? (i := 10) rfl)
theorem d_RF_sell_21 : decode Y_RF_sell.2.1 21 = .ok (.new 59, 3) := D_RF_sell_0 (21, .new 59, 3) (List.mem_of_getElem? (i := 11) rfl)
theorem d_RF_sell_24 : decode Y_RF_sell.2.1 24 = .ok (.dup, 1) := D_RF_sell_0 (24, .dup, 1) (List.mem_of_getElem? (i := 12) rfl)
theorem d_RF_sell_25 : decode Y_RF_sell.2.1 25 = .ok (.ldc_w 256, 3) := D_RF_sell_0 (25, .ldc_w 256, 3) (List.mem_of_getElem? (i := 13) rfl)
theorem d_RF_sell_28 : decode Y_RF_sell.2.1 28 = .ok (.invokespecial 63, 3) := D_RF_sell_0 (28, .invokespecial 63, 3) (List.mem_of_getElem? (i := 14) rfl)
theorem d_RF_sell_31 : decode Y_RF_sell.2.1 31 = .ok (.athrow, 1) := D_RF_sell_0 (31, .athrow, 1) (List.mem_of_getElem? (i := 15) rfl)
theorem d_RF_sell_32 : decode Y_RF_sell.2.1 32 = .ok (.aload 4, 2) := D_RF_sell_0 (32, .aload 4, 2) (List.mem_of_getElem? (i := 16) rfl)
theorem d_RF_sell_34 : decode Y_RF_sell.2.1 34 = .ok (.iload_n 2, 1) := D_RF_sell_0 (34, .iload_n 2, 1) (List.mem_of_getElem? (i := 17) rfl)
theorem d_RF_sell_35 : decode Y_RF_sell.2.1 35 = .ok (.invokestatic 232, 3) := D_RF_sell_0 (35, .invokestatic 232, 3) (List.mem_of_getElem? (i := 18) rfl)
theorem d_RF_sell_38 : decode Y_RF_sell.2.1 38 = .ok (.aload 4, 2) := D_RF_sell_0 (38, .aload 4, 2) (List.mem_of_getElem? (i := 19) rfl)
theorem d_RF_sell_40 : decode Y_RF_sell.2.1 40 = .ok (.iload_n 2, 1) := D_RF_sell_0 (40, .iload_n 2, 1) (List.mem_of_getElem? (i := 20) rfl)
theorem d_RF_sell_41 : decode Y_RF_sell.2.1 41 = .ok (.invokevirtual 239, 3) := D_RF_sell_0 (41, .invokevirtual 239, 3) (List.mem_of_getElem? (i := 21) rfl)
theorem d_RF_sell_44 : decode Y_RF_sell.2.1 44 = .ok (.lstore 5, 2) := D_RF_sell_0 (44, .lstore 5, 2) (List.mem_of_getElem? (i := 22) rfl)
theorem d_RF_sell_46 : decode Y_RF_sell.2.1 46 = .ok (.aload_n 0, 1) := D_RF_sell_0 (46, .aload_n 0, 1) (List.mem_of_getElem? (i := 23) rfl)
theorem d_RF_sell_47 : decode Y_RF_sell.2.1 47 = .ok (.aload 4, 2) := D_RF_sell_0 (47, .aload 4, 2) (List.mem_of_getElem? (i := 24) rfl)
theorem d_RF_sell_49 : decode Y_RF_sell.2.1 49 = .ok (.lload 5, 2) := D_RF_sell_0 (49, .lload 5, 2) (List.mem_of_getElem? (i := 25) rfl)
theorem d_RF_sell_51 : decode Y_RF_sell.2.1 51 = .ok (.aload 4, 2) := D_RF_sell_0 (51, .aload 4, 2) (List.mem_of_getElem? (i := 26) rfl)
theorem d_RF_sell_53 : decode Y_RF_sell.2.1 53 = .ok (.iload_n 2, 1) := D_RF_sell_0 (53, .iload_n 2, 1) (List.mem_of_getElem? (i := 27) rfl)
theorem d_RF_sell_54 : decode Y_RF_sell.2.1 54 = .ok (.invokevirtual 236, 3) := D_RF_sell_0 (54, .invokevirtual 236, 3) (List.mem_of_getElem? (i := 28) rfl)
theorem d_RF_sell_57 : decode Y_RF_sell.2.1 57 = .ok (.invokevirtual 242, 3) := D_RF_sell_0 (57, .invokevirtual 242, 3) (List.mem_of_getElem? (i := 29) rfl)
theorem d_RF_sell_60 : decode Y_RF_sell.2.1 60 = .ok (.lload 5, 2) := D_RF_sell_0 (60, .lload 5, 2) (List.mem_of_getElem? (i := 30) rfl)
theorem d_RF_sell_62 : decode Y_RF_sell.2.1 62 = .ok (.iload_n 3, 1) := D_RF_sell_0 (62, .iload_n 3, 1) (List.mem_of_getElem? (i := 31) rfl)
theorem d_RF_sell_63 : decode Y_RF_sell.2.1 63 = .ok (.i2l, 1) := D_RF_sell_0 (63, .i2l, 1) (List.mem_of_getElem? (i := 32) rfl)
theorem d_RF_sell_64 : decode Y_RF_sell.2.1 64 = .ok (.lmul, 1) := D_RF_sell_0 (64, .lmul, 1) (List.mem_of_getElem? (i := 33) rfl)
theorem d_RF_sell_65 : decode Y_RF_sell.2.1 65 = .ok (.ldc2_w 258, 3) := D_RF_sell_0 (65, .ldc2_w 258, 3) (List.mem_of_getElem? (i := 34) rfl)
theorem d_RF_sell_68 : decode Y_RF_sell.2.1 68 = .ok (.ldiv, 1) := D_RF_sell_0 (68, .ldiv, 1) (List.mem_of_getElem? (i := 35) rfl)
theorem d_RF_sell_69 : decode Y_RF_sell.2.1 69 = .ok (.lreturn, 1) := D_RF_sell_0 (69, .lreturn, 1) (List.mem_of_getElem? (i := 36) rfl)
theorem D_RF_span_0 : ∀ q ∈ ([(0, .aload_n 0, 1), (1, .iload_n 1, 1), (2, .invokevirtual 126, 3), (5, .astore 4, 2), (7, .iload_n 2, 1), (8, .ifCond .lt 15, 3), (11, .iload_n 3, 1), (12, .iload_n 2, 1), (13, .if_icmp .lt 10, 3), (16, .iload_n 3, 1), (17, .sipush 1000, 3), (20, .if_icmp .le 14, 3), (23, .new 59, 3), (26, .dup, 1), (27, .ldc_w 260, 3), (30, .invokespecial 63, 3), (33, .athrow, 1), (34, .aload 4, 2), (36, .iload_n 2, 1), (37, .putfield 262, 3), (40, .aload 4, 2), (42, .iload_n 3, 1), (43, .putfield 265, 3), (46, .return_, 1)] : List (Nat × Instr × Nat)), decode prog_1_method_17_code q.1 = .ok (q.2.1, q.2.2) := by decide +kernel
theorem d_RF_span_0 : decode Y_RF_span.2.1 0 = .ok (.aload_n 0, 1) := D_RF_span_0 (0, .aload_n 0, 1) (List.mem_of_getElem? (i := 0) rfl)
theorem d_RF_span_1 : decode Y_RF_span.2.1 1 = .ok (.iload_n 1, 1) := D_RF_span_0 (1, .iload_n 1, 1) (List.mem_of_getElem? (i := 1) rfl)
theorem d_RF_span_2 : decode Y_RF_span.2.1 2 = .ok (.invokevirtual 126, 3) := D_RF_span_0 (2, .invokevirtual 126, 3) (List.mem_of_getElem? (i := 2) rfl)
theorem d_RF_span_5 : decode Y_RF_span.2.1 5 = .ok (.astore 4, 2) := D_RF_span_0 (5, .astore 4, 2) (List.mem_of_getElem? (i := 3) rfl)
theorem d_RF_span_7 : decode Y_RF_span.2.1 7 = .ok (.iload_n 2, 1) := D_RF_span_0 (7, .iload_n 2, 1) (List.mem_of_getElem? (i := 4) rfl)
theorem d_RF_span_8 : decode Y_RF_span.2.1 8 = .ok (.ifCond .lt 15, 3) := D_RF_span_0 (8, .ifCond .lt 15, 3) (List.mem_of_getElem? (i := 5) rfl)
theorem d_RF_span_11 : decode Y_RF_span.2.1 11 = .ok (.iload_n 3, 1) := D_RF_span_0 (11, .iload_n 3, 1) (List.mem_of_getElem? (i := 6) rfl)
theorem d_RF_span_12 : decode Y_RF_span.2.1 12 = .ok (.iload_n 2, 1) := D_RF_span_0 (12, .iload_n 2, 1) (List.mem_of_getElem? (i := 7) rfl)
theorem d_RF_span_13 : decode Y_RF_span.2.1 13 = .ok (.if_icmp .lt 10, 3) := D_RF_span_0 (13, .if_icmp .lt 10, 3) (List.mem_of_getElem? (i := 8) rfl)
theorem d_RF_span_16 : decode Y_RF_span.2.1 16 = .ok (.iload_n 3, 1) := D_RF_span_0 (16, .iload_n 3, 1) (List.mem_of_getElem? (i := 9) rfl)
theorem d_RF_span_17 : decode Y_RF_span.2.1 17 = .ok (.sipush 1000, 3) := D_RF_span_0 (17, .sipush 1000, 3) (List.mem_of_getElem? (i := 10) rfl)
theorem d_RF_span_20 : decode Y_RF_span.2.1 20 = .ok (.if_icmp .le 14, 3) := D_RF_span_0 (20, .if_icmp .le 14, 3) (List.mem_of_getElem? (i := 11) rfl)
theorem d_RF_span_23 : decode Y_RF_span.2.1 23 = .ok (.new 59, 3) := D_RF_span_0 (23, .new 59, 3) (List.mem_of_getElem? (i := 12) rfl)
theorem d_RF_span_26 : decode Y_RF_span.2.1 26 = .ok (.dup, 1) := D_RF_span_0 (26, .dup, 1) (List.mem_of_getElem? (i := 13) rfl)
theorem d_RF_span_27 : decode Y_RF_span.2.1 27 = .ok (.ldc_w 260, 3) := D_RF_span_0 (27, .ldc_w 260, 3) (List.mem_of_getElem? (i := 14) rfl)
theorem d_RF_span_30 : decode Y_RF_span.2.1 30 = .ok (.invokespecial 63, 3) := D_RF_span_0 (30, .invokespecial 63, 3) (List.mem_of_getElem? (i := 15) rfl)
theorem d_RF_span_33 : decode Y_RF_span.2.1 33 = .ok (.athrow, 1) := D_RF_span_0 (33, .athrow, 1) (List.mem_of_getElem? (i := 16) rfl)
theorem d_RF_span_34 : decode Y_RF_span.2.1 34 = .ok (.aload 4, 2) := D_RF_span_0 (34, .aload 4, 2) (List.mem_of_getElem? (i := 17) rfl)
theorem d_RF_span_36 : decode Y_RF_span.2.1 36 = .ok (.iload_n 2, 1) := D_RF_span_0 (36, .iload_n 2, 1) (List.mem_of_getElem? (i := 18) rfl)
theorem d_RF_span_37 : decode Y_RF_span.2.1 37 = .ok (.putfield 262, 3) := D_RF_span_0 (37, .putfield 262, 3) (List.mem_of_getElem? (i := 19) rfl)
theorem d_RF_span_40 : decode Y_RF_span.2.1 40 = .ok (.aload 4, 2) := D_RF_span_0 (40, .aload 4, 2) (List.mem_of_getElem? (i := 20) rfl)
theorem d_RF_span_42 : decode Y_RF_span.2.1 42 = .ok (.iload_n 3, 1) := D_RF_span_0 (42, .iload_n 3, 1) (List.mem_of_getElem? (i := 21) rfl)
theorem d_RF_span_43 : decode Y_RF_span.2.1 43 = .ok (.putfield 265, 3) := D_RF_span_0 (43, .putfield 265, 3) (List.mem_of_getElem? (i := 22) rfl)
theorem d_RF_span_46 : decode Y_RF_span.2.1 46 = .ok (.return_, 1) := D_RF_span_0 (46, .return_, 1) (List.mem_of_getElem? (i := 23) rfl)
theorem D_RF_mix_0 : ∀ q ∈ ([(0, .aload_n 0, 1), (1, .iload_n 1, 1), (2, .invokevirtual 126, 3), (5, .astore 4, 2), (7, .aload_n 0, 1), (8, .iload_n 2, 1), (9, .invokevirtual 126, 3), (12, .astore 5, 2), (14, .iload_n 1, 1), (15, .iload_n 2, 1), (16, .if_icmp .ne 14, 3), (19, .new 59, 3), (22, .dup, 1), (23, .ldc_w 268, 3), (26, .invokespecial 63, 3), (29, .athrow, 1), (30, .iload_n 3, 1), (31, .invokestatic 229, 3), (34, .aload 4, 2), (36, .iload_n 3, 1), (37, .invokestatic 232, 3), (40, .aload 4, 2), (42, .iload_n 3, 1), (43, .invokevirtual 236, 3), (46, .lstore 6, 2), (48, .aload 4, 2), (50, .iload_n 3, 1), (51, .invokevirtual 239, 3), (54, .lstore 8, 2), (56, .aload 5, 2), (58, .iload_n 3, 1), (59, .invokevirtual 133, 3), (62, .ifCond .eq 15, 3), (65, .aload 5, 2), (67, .lload 8, 2), (69, .lload 6, 2), (71, .invokevirtual 270, 3), (74, .ifCond .ne 5, 3), (77, .iconst 0, 1), (78, .ireturn, 1), (79, .aload_n 0, 1), (80, .aload 4, 2), (82, .lload 8, 2), (84, .lload 6, 2), (86, .invokevirtual 242, 3), (89, .aload 5, 2), (91, .lload 8, 2), (93, .lload 6, 2), (95, .invokevirtual 274, 3), (98, .iconst 1, 1), (99, .ireturn, 1)] : List (Nat × Instr × Nat)), decode prog_1_method_18_code q.1 = .ok (q.2.1, q.2.2) := by decide +kernel
theorem d_RF_mix_0 : decode Y_RF_mix.2.1 0 = .ok (.aload_n 0, 1) := D_RF_mix_0 (0, .aload_n 0, 1) (List.mem_of_getElem? (i := 0) rfl)
theorem d_RF_mix_1 : decode Y_RF_mix.2.1 1 = .ok (.iload_n 1, 1) := D_RF_mix_0 (1, .iload_n 1, 1) (List.mem_of_getElem? (i := 1) rfl)
theorem d_RF_mix_2 : decode Y_RF_mix.2.1 2 = .ok (.invokevirtual 126, 3) := D_RF_mix_0 (2, .invokevirtual 126, 3) (List.mem_of_getElem? (i := 2) rfl)
theorem d_RF_mix_5 : decode Y_RF_mix.2.1 5 = .ok (.astore 4, 2) := D_RF_mix_0 (5, .astore 4, 2) (List.mem_of_getElem? (i := 3) rfl)
theorem d_RF_mix_7 : decode Y_RF_mix.2.1 7 = .ok (.aload_n 0, 1) := D_RF_mix_0 (7, .aload_n 0, 1) (List.mem_of_getElem? (i := 4) rfl)
theorem d_RF_mix_8 : decode Y_RF_mix.2.1 8 = .ok (.iload_n 2, 1) := D_RF_mix_0 (8, .iload_n 2, 1) (List.mem_of_getElem? (i := 5) rfl)
theorem d_RF_mix_9 : decode Y_RF_mix.2.1 9 = .ok (.invokevirtual 126, 3) := D_RF_mix_0 (9, .invokevirtual 126, 3) (List.mem_of_getElem? (i := 6) rfl)
theorem d_RF_mix_12 : decode Y_RF_mix.2.1 12 = .ok (.astore 5, 2) := D_RF_mix_0 (12, .astore 5, 2) (List.mem_of_getElem? (i := 7) rfl)
theorem d_RF_mix_14 : decode Y_RF_mix.2.1 14 = .ok (.iload_n 1, 1) := D_RF_mix_0 (14, .iload_n 1, 1) (List.mem_of_getElem? (i := 8) rfl)
theorem d_RF_mix_15 : decode Y_RF_mix.2.1 15 = .ok (.iload_n 2, 1) := D_RF_mix_0 (15, .iload_n 2, 1) (List.mem_of_getElem? (i := 9) rfl)
theorem d_RF_mix_16 : decode Y_RF_mix.2.1 16 = .ok (.if_icmp .ne 14, 3) := D_RF_mix_0 (16, .if_icmp .ne 14, 3) (List.mem_of_getElem? (i := 10) rfl)
theorem d_RF_mix_19 : decode Y_RF_mix.2.1 19 = .ok (.new 59, 3) := D_RF_mix_0 (19, .new 59, 3) (List.mem_of_getElem? (i := 11) rfl)
theorem d_RF_mix_22 : decode Y_RF_mix.2.1 22 = .ok (.dup, 1) := D_RF_mix_0 (22, .dup, 1) (List.mem_of_getElem? (i := 12) rfl)
theorem d_RF_mix_23 : decode Y_RF_mix.2.1 23 = .ok (.ldc_w 268, 3) := D_RF_mix_0 (23, .ldc_w 268, 3) (List.mem_of_getElem? (i := 13) rfl)
theorem d_RF_mix_26 : decode Y_RF_mix.2.1 26 = .ok (.invokespecial 63, 3) := D_RF_mix_0 (26, .invokespecial 63, 3) (List.mem_of_getElem? (i := 14) rfl)
theorem d_RF_mix_29 : decode Y_RF_mix.2.1 29 = .ok (.athrow, 1) := D_RF_mix_0 (29, .athrow, 1) (List.mem_of_getElem? (i := 15) rfl)
theorem d_RF_mix_30 : decode Y_RF_mix.2.1 30 = .ok (.iload_n 3, 1) := D_RF_mix_0 (30, .iload_n 3, 1) (List.mem_of_getElem? (i := 16) rfl)
theorem d_RF_mix_31 : decode Y_RF_mix.2.1 31 = .ok (.invokestatic 229, 3) := D_RF_mix_0 (31, .invokestatic 229, 3) (List.mem_of_getElem? (i := 17) rfl)
theorem d_RF_mix_34 : decode Y_RF_mix.2.1 34 = .ok (.aload 4, 2) := D_RF_mix_0 (34, .aload 4, 2) (List.mem_of_getElem? (i := 18) rfl)
theorem d_RF_mix_36 : decode Y_RF_mix.2.1 36 = .ok (.iload_n 3, 1) := D_RF_mix_0 (36, .iload_n 3, 1) (List.mem_of_getElem? (i := 19) rfl)
theorem d_RF_mix_37 : decode Y_RF_mix.2.1 37 = .ok (.invokestatic 232, 3) := D_RF_mix_0 (37, .invokestatic 232, 3) (List.mem_of_getElem? (i := 20) rfl)
theorem d_RF_mix_40 : decode Y_RF_mix.2.1 40 = .ok (.aload 4, 2) := D_RF_mix_0 (40, .aload 4, 2) (List.mem_of_getElem? (i := 21) rfl)
theorem d_RF_mix_42 : decode Y_RF_mix.2.1 42 = .ok (.iload_n 3, 1) := D_RF_mix_0 (42, .iload_n 3, 1) (List.mem_of_getElem? (i := 22) rfl)
theorem d_RF_mix_43 : decode Y_RF_mix.2.1 43 = .ok (.invokevirtual 236, 3) := D_RF_mix_0 (43, .invokevirtual 236, 3) (List.mem_of_getElem? (i := 23) rfl)
theorem d_RF_mix_46 : decode Y_RF_mix.2.1 46 = .ok (.lstore 6, 2) := D_RF_mix_0 (46, .lstore 6, 2) (List.mem_of_getElem? (i := 24) rfl)
theorem d_RF_mix_48 : decode Y_RF_mix.2.1 48 = .ok (.aload 4, 2) := D_RF_mix_0 (48, .aload 4, 2) (List.mem_of_getElem? (i := 25) rfl)
theorem d_RF_mix_50 : decode Y_RF_mix.2.1 50 = .ok (.iload_n 3, 1) := D_RF_mix_0 (50, .iload_n 3, 1) (List.mem_of_getElem? (i := 26) rfl)
theorem d_RF_mix_51 : decode Y_RF_mix.2.1 51 = .ok (.invokevirtual 239, 3) := D_RF_mix_0 (51, .invokevirtual 239, 3) (List.mem_of_getElem? (i := 27) rfl)
theorem d_RF_mix_54 : decode Y_RF_mix.2.1 54 = .ok (.lstore 8, 2) := D_RF_mix_0 (54, .lstore 8, 2) (List.mem_of_getElem? (i := 28) rfl)
theorem d_RF_mix_56 : decode Y_RF_mix.2.1 56 = .ok (.aload 5, 2) := D_RF_mix_0 (56, .aload 5, 2) (List.mem_of_getElem? (i := 29) rfl)
theorem d_RF_mix_58 : decode Y_RF_mix.2.1 58 = .ok (.iload_n 3, 1) := D_RF_mix_0 (58, .iload_n 3, 1) (List.mem_of_getElem? (i := 30) rfl)
theorem d_RF_mix_59 : decode Y_RF_mix.2.1 59 = .ok (.invokevirtual 133, 3) := D_RF_mix_0 (59, .invokevirtual 133, 3) (List.mem_of_getElem? (i := 31) rfl)
theorem d_RF_mix_62 : decode Y_RF_mix.2.1 62 = .ok (.ifCond .eq 15, 3) := D_RF_mix_0 (62, .ifCond .eq 15, 3) (List.mem_of_getElem? (i := 32) rfl)
theorem d_RF_mix_65 : decode Y_RF_mix.2.1 65 = .ok (.aload 5, 2) := D_RF_mix_0 (65, .aload 5, 2) (List.mem_of_getElem? (i := 33) rfl)
theorem d_RF_mix_67 : decode Y_RF_mix.2.1 67 = .ok (.lload 8, 2) := D_RF_mix_0 (67, .lload 8, 2) (List.mem_of_getElem? (i := 34) rfl)
theorem d_RF_mix_69 : decode Y_RF_mix.2.1 69 = .ok (.lload 6, 2) := D_RF_mix_0 (69, .lload 6, 2) (List.mem_of_getElem? (i := 35) rfl)
theorem d_RF_mix_71 : decode Y_RF_mix.2.1 71 = .ok (.invokevirtual 270, 3) := D_RF_mix_0 (71, .invokevirtual 270, 3) (List.mem_of_getElem? (i := 36) rfl)
theorem d_RF_mix_74 : decode Y_RF_mix.2.1 74 = .ok (.ifCond .ne 5, 3) := D_RF_mix_0 (74, .ifCond .ne 5, 3) (List.mem_of_getElem? (i := 37) rfl)
theorem d_RF_mix_77 : decode Y_RF_mix.2.1 77 = .ok (.iconst 0, 1) := D_RF_mix_0 (77, .iconst 0, 1) (List.mem_of_getElem? (i := 38) rfl)
theorem d_RF_mix_78 : decode Y_RF_mix.2.1 78 = .ok (.ireturn, 1) := D_RF_mix_0 (78, .ireturn, 1) (List.mem_of_getElem? (i := 39) rfl)
theorem d_RF_mix_79 : decode Y_RF_mix.2.1 79 = .ok (.aload_n 0, 1) := D_RF_mix_0 (79, .aload_n 0, 1) (List.mem_of_getElem? (i := 40) rfl)
theorem d_RF_mix_80 : decode Y_RF_mix.2.1 80 = .ok (.aload 4, 2) := D_RF_mix_0 (80, .aload 4, 2) (List.mem_of_getElem? (i := 41) rfl)
theorem d_RF_mix_82 : decode Y_RF_mix.2.1 82 = .ok (.lload 8, 2) := D_RF_mix_0 (82, .lload 8, 2) (List.mem_of_getElem? (i := 42) rfl)
theorem d_RF_mix_84 : decode Y_RF_mix.2.1 84 = .ok (.lload 6, 2) := D_RF_mix_0 (84, .lload 6, 2) (List.mem_of_getElem? (i := 43) rfl)
theorem d_RF_mix_86 : decode Y_RF_mix.2.1 86 = .ok (.invokevirtual 242, 3) := D_RF_mix_0 (86, .invokevirtual 242, 3) (List.mem_of_getElem? (i := 44) rfl)
theorem d_RF_mix_89 : decode Y_RF_mix.2.1 89 = .ok (.aload 5, 2) := D_RF_mix_0 (89, .aload 5, 2) (List.mem_of_getElem? (i := 45) rfl)
theorem d_RF_mix_91 : decode Y_RF_mix.2.1 91 = .ok (.lload 8, 2) := D_RF_mix_0 (91, .lload 8, 2) (List.mem_of_getElem? (i := 46) rfl)
theorem d_RF_mix_93 : decode Y_RF_mix.2.1 93 = .ok (.lload 6, 2) := D_RF_mix_0 (93, .lload 6, 2) (List.mem_of_getElem? (i := 47) rfl)
theorem d_RF_mix_95 : decode Y_RF_mix.2.1 95 = .ok (.invokevirtual 274, 3) := D_RF_mix_0 (95, .invokevirtual 274, 3) (List.mem_of_getElem? (i := 48) rfl)
theorem d_RF_mix_98 : decode Y_RF_mix.2.1 98 = .ok (.iconst 1, 1) := D_RF_mix_0 (98, .iconst 1, 1) (List.mem_of_getElem? (i := 49) rfl)
theorem d_RF_mix_99 : decode Y_RF_mix.2.1 99 = .ok (.ireturn, 1) := D_RF_mix_0 (99, .ireturn, 1) (List.mem_of_getElem? (i := 50) rfl)
end
section
theorem D_Sh_init_0 : ∀ q ∈ ([(0, .aload_n 0, 1), (1, .invokespecial 1, 3), (4, .aload_n 0, 1), (5, .iload_n 1, 1), (6, .putfield 7, 3), (9, .aload_n 0, 1), (10, .iload_n 2, 1), (11, .putfield 13, 3), (14, .return_, 1)] : List (Nat × Instr × Nat)), decode prog_6_method_1_code q.1 = .ok (q.2.1, q.2.2) := by decide +kernel
theorem d_Sh_init_0 : decode Y_Sh_init.2.1 0 = .ok (.aload_n 0, 1) := D_Sh_init_0 (0, .aload_n 0, 1) (List.mem_of_getElem? (i := 0) rfl)
theorem d_Sh_init_1 : decode Y_Sh_init.2.1 1 = .ok (.invokespecial 1, 3) := D_Sh_init_0 (1, .invokespecial 1, 3) (List.mem_of_getElem? (i := 1) rfl)
theorem d_Sh_init_4 : decode Y_Sh_init.2.1 4 = .ok (.aload_n 0, 1) := D_Sh_init_0 (4, .aload_n 0, 1) (List.mem_of_getElem? (i := 2) rfl)
theorem d_Sh_init_5 : decode Y_Sh_init.2.1 5 = .ok (.iload_n 1, 1) := D_Sh_init_0 (5, .iload_n 1, 1) (List.mem_of_getElem? (i := 3) rfl)
theorem d_Sh_init_6 : decode Y_Sh_init.2.1 6 = .ok (.putfield 7, 3) := D_Sh_init_0 (6, .putfield 7, 3) (List.mem_of_getElem? (i := 4) rfl)
theorem d_Sh_init_9 : decode Y_Sh_init.2.1 9 = .ok (.aload_n 0, 1) := D_Sh_init_0 (9, .aload_n 0, 1) (List.mem_of_getElem? (i := 5) rfl)
theorem d_Sh_init_10 : decode Y_Sh_init.2.1 10 = .ok (.iload_n 2, 1) := D_Sh_init_0 (10, .iload_n 2, 1) (List.mem_of_getElem? (i := 6) rfl)
theorem d_Sh_init_11 : decode Y_Sh_init.2.1 11 = .ok (.putfield 13, 3) := D_Sh_init_0 (11, .putfield 13, 3) (List.mem_of_getElem? (i := 7) rfl)
theorem d_Sh_init_14 : decode Y_Sh_init.2.1 14 = .ok (.return_, 1) := D_Sh_init_0 (14, .return_, 1) (List.mem_of_getElem? (i := 8) rfl)
theorem D_Pa_init_0 : ∀ q ∈ ([(0, .aload_n 0, 1), (1, .invokespecial 3, 3), (4, .return_, 1)] : List (Nat × Instr × Nat)), decode prog_4_method_1_code q.1 = .ok (q.2.1, q.2.2) := by decide +kernel
theorem d_Pa_init_0 : decode Y_Pa_init.2.1 0 = .ok (.aload_n 0, 1) := D_Pa_init_0 (0, .aload_n 0, 1) (List.mem_of_getElem? (i := 0) rfl)
theorem d_Pa_init_1 : decode Y_Pa_init.2.1 1 = .ok (.invokespecial 3, 3) := D_Pa_init_0 (1, .invokespecial 3, 3) (List.mem_of_getElem? (i := 1) rfl)
theorem d_Pa_init_4 : decode Y_Pa_init.2.1 4 = .ok (.return_, 1) := D_Pa_init_0 (4, .return_, 1) (List.mem_of_getElem? (i := 2) rfl)
theorem D_Bi_init_0 : ∀ q ∈ ([(0, .aload_n 0, 1), (1, .invokespecial 3, 3), (4, .aload_n 0, 1), (5, .ldc2_w 9, 3), (8, .putfield 11, 3), (11, .aload_n 0, 1), (12, .sipush 1000, 3), (15, .putfield 17, 3), (18, .return_, 1)] : List (Nat × Instr × Nat)), decode prog_2_method_1_code q.1 = .ok (q.2.1, q.2.2) := by decide +kernel
theorem d_Bi_init_0 : decode Y_Bi_init.2.1 0 = .ok (.aload_n 0, 1) := D_Bi_init_0 (0, .aload_n 0, 1) (List.mem_of_getElem? (i := 0) rfl)
theorem d_Bi_init_1 : decode Y_Bi_init.2.1 1 = .ok (.invokespecial 3, 3) := D_Bi_init_0 (1, .invokespecial 3, 3) (List.mem_of_getElem? (i := 1) rfl)
theorem d_Bi_init_4 : decode Y_Bi_init.2.1 4 = .ok (.aload_n 0, 1) := D_Bi_init_0 (4, .aload_n 0, 1) (List.mem_of_getElem? (i := 2) rfl)
theorem d_Bi_init_5 : decode Y_Bi_init.2.1 5 = .ok (.ldc2_w 9, 3) := D_Bi_init_0 (5, .ldc2_w 9, 3) (List.mem_of_getElem? (i := 3) rfl)
theorem d_Bi_init_8 : decode Y_Bi_init.2.1 8 = .ok (.putfield 11, 3) := D_Bi_init_0 (8, .putfield 11, 3) (List.mem_of_getElem? (i := 4) rfl)
theorem d_Bi_init_11 : decode Y_Bi_init.2.1 11 = .ok (.aload_n 0, 1) := D_Bi_init_0 (11, .aload_n 0, 1) (List.mem_of_getElem? (i := 5) rfl)
theorem d_Bi_init_12 : decode Y_Bi_init.2.1 12 = .ok (.sipush 1000, 3) := D_Bi_init_0 (12, .sipush 1000, 3) (List.mem_of_getElem? (i := 6) rfl)
theorem d_Bi_init_15 : decode Y_Bi_init.2.1 15 = .ok (.putfield 17, 3) := D_Bi_init_0 (15, .putfield 17, 3) (List.mem_of_getElem? (i := 7) rfl)
theorem d_Bi_init_18 : decode Y_Bi_init.2.1 18 = .ok (.return_, 1) := D_Bi_init_0 (18, .return_, 1) (List.mem_of_getElem? (i := 8) rfl)
theorem D_Sc_init_0 : ∀ q ∈ ([(0, .aload_n 0, 1), (1, .invokespecial 1, 3), (4, .return_, 1)] : List (Nat × Instr × Nat)), decode prog_5_method_1_code q.1 = .ok (q.2.1, q.2.2) := by decide +kernel
theorem d_Sc_init_0 : decode Y_Sc_init.2.1 0 = .ok (.aload_n 0, 1) := D_Sc_init_0 (0, .aload_n 0, 1) (List.mem_of_getElem? (i := 0) rfl)
theorem d_Sc_init_1 : decode Y_Sc_init.2.1 1 = .ok (.invokespecial 1, 3) := D_Sc_init_0 (1, .invokespecial 1, 3) (List.mem_of_getElem? (i := 1) rfl)
theorem d_Sc_init_4 : decode Y_Sc_init.2.1 4 = .ok (.return_, 1) := D_Sc_init_0 (4, .return_, 1) (List.mem_of_getElem? (i := 2) rfl)
theorem D_Bo_init_0 : ∀ q ∈ ([(0, .aload_n 0, 1), (1, .invokespecial 3, 3), (4, .aload_n 0, 1), (5, .bipush 8, 2), (7, .newarray .int, 2), (9, .putfield 9, 3), (12, .aload_n 0, 1), (13, .bipush 8, 2), (15, .newarray .int, 2), (17, .putfield 15, 3), (20, .return_, 1)] : List (Nat × Instr × Nat)), decode prog_3_method_1_code q.1 = .ok (q.2.1, q.2.2) := by decide +kernel
theorem d_Bo_init_0 : decode Y_Bo_init.2.1 0 = .ok (.aload_n 0, 1) := D_Bo_init_0 (0, .aload_n 0, 1) (List.mem_of_getElem? (i := 0) rfl)
theorem d_Bo_init_1 : decode Y_Bo_init.2.1 1 = .ok (.invokespecial 3, 3) := D_Bo_init_0 (1, .invokespecial 3, 3) (List.mem_of_getElem? (i := 1) rfl)
theorem d_Bo_init_4 : decode Y_Bo_init.2.1 4 = .ok (.aload_n 0, 1) := D_Bo_init_0 (4, .aload_n 0, 1) (List.mem_of_getElem? (i := 2) rfl)
theorem d_Bo_init_5 : decode Y_Bo_init.2.1 5 = .ok (.bipush 8, 2) := D_Bo_init_0 (5, .bipush 8, 2) (List.mem_of_getElem? (i := 3) rfl)
theorem d_Bo_init_7 : decode Y_Bo_init.2.1 7 = .ok (.newarray .int, 2) := D_Bo_init_0 (7, .newarray .int, 2) (List.mem_of_getElem? (i := 4) rfl)
theorem d_Bo_init_9 : decode Y_Bo_init.2.1 9 = .ok (.putfield 9, 3) := D_Bo_init_0 (9, .putfield 9, 3) (List.mem_of_getElem? (i := 5) rfl)
theorem d_Bo_init_12 : decode Y_Bo_init.2.1 12 = .ok (.aload_n 0, 1) := D_Bo_init_0 (12, .aload_n 0, 1) (List.mem_of_getElem? (i := 6) rfl)
theorem d_Bo_init_13 : decode Y_Bo_init.2.1 13 = .ok (.bipush 8, 2) := D_Bo_init_0 (13, .bipush 8, 2) (List.mem_of_getElem? (i := 7) rfl)
theorem d_Bo_init_15 : decode Y_Bo_init.2.1 15 = .ok (.newarray .int, 2) := D_Bo_init_0 (15, .newarray .int, 2) (List.mem_of_getElem? (i := 8) rfl)
theorem d_Bo_init_17 : decode Y_Bo_init.2.1 17 = .ok (.putfield 15, 3) := D_Bo_init_0 (17, .putfield 15, 3) (List.mem_of_getElem? (i := 9) rfl)
theorem d_Bo_init_20 : decode Y_Bo_init.2.1 20 = .ok (.return_, 1) := D_Bo_init_0 (20, .return_, 1) (List.mem_of_getElem? (i := 10) rfl)
theorem D_Sh_of_0 : ∀ q ∈ ([(0, .lload_n 1, 1), (1, .aload_n 0, 1), (2, .getfield 7, 3), (5, .i2l, 1), (6, .aload_n 0, 1), (7, .getfield 13, 3), (10, .i2l, 1), (11, .invokestatic 16, 3), (14, .lreturn, 1)] : List (Nat × Instr × Nat)), decode prog_6_method_2_code q.1 = .ok (q.2.1, q.2.2) := by decide +kernel
theorem d_Sh_of_0 : decode Y_Sh_of.2.1 0 = .ok (.lload_n 1, 1) := D_Sh_of_0 (0, .lload_n 1, 1) (List.mem_of_getElem? (i := 0) rfl)
theorem d_Sh_of_1 : decode Y_Sh_of.2.1 1 = .ok (.aload_n 0, 1) := D_Sh_of_0 (1, .aload_n 0, 1) (List.mem_of_getElem? (i := 1) rfl)
theorem d_Sh_of_2 : decode Y_Sh_of.2.1 2 = .ok (.getfield 7, 3) := D_Sh_of_0 (2, .getfield 7, 3) (List.mem_of_getElem? (i := 2) rfl)
theorem d_Sh_of_5 : decode Y_Sh_of.2.1 5 = .ok (.i2l, 1) := D_Sh_of_0 (5, .i2l, 1) (List.mem_of_getElem? (i := 3) rfl)
theorem d_Sh_of_6 : decode Y_Sh_of.2.1 6 = .ok (.aload_n 0, 1) := D_Sh_of_0 (6, .aload_n 0, 1) (List.mem_of_getElem? (i := 4) rfl)
theorem d_Sh_of_7 : decode Y_Sh_of.2.1 7 = .ok (.getfield 13, 3) := D_Sh_of_0 (7, .getfield 13, 3) (List.mem_of_getElem? (i := 5) rfl)
theorem d_Sh_of_10 : decode Y_Sh_of.2.1 10 = .ok (.i2l, 1) := D_Sh_of_0 (10, .i2l, 1) (List.mem_of_getElem? (i := 6) rfl)
theorem d_Sh_of_11 : decode Y_Sh_of.2.1 11 = .ok (.invokestatic 16, 3) := D_Sh_of_0 (11, .invokestatic 16, 3) (List.mem_of_getElem? (i := 7) rfl)
theorem d_Sh_of_14 : decode Y_Sh_of.2.1 14 = .ok (.lreturn, 1) := D_Sh_of_0 (14, .lreturn, 1) (List.mem_of_getElem? (i := 8) rfl)
theorem D_Pa_tell_0 : ∀ q ∈ ([(0, .aload_n 0, 1), (1, .lload_n 1, 1), (2, .putfield 9, 3), (5, .aload_n 0, 1), (6, .lload 5, 2), (8, .lload 7, 2), (10, .lsub, 1), (11, .putfield 15, 3), (14, .aload_n 0, 1), (15, .lload_n 3, 1), (16, .putfield 18, 3), (19, .aload_n 0, 1), (20, .lload 7, 2), (22, .putfield 21, 3), (25, .aload_n 0, 1), (26, .lload 9, 2), (28, .putfield 24, 3), (31, .return_, 1)] : List (Nat × Instr × Nat)), decode prog_4_method_2_code q.1 = .ok (q.2.1, q.2.2) := by decide +kernel
theorem d_Pa_tell_0 : decode Y_Pa_tell.2.1 0 = .ok (.aload_n 0, 1) := D_Pa_tell_0 (0, .aload_n 0, 1) (List.mem_of_getElem? (i := 0) rfl)
theorem d_Pa_tell_1 : decode Y_Pa_tell.2.1 1 = .ok (.lload_n 1, 1) := D_Pa_tell_0 (1, .lload_n 1, 1) (List.mem_of_getElem? (i := 1) rfl)
theorem d_Pa_tell_2 : decode Y_Pa_tell.2.1 2 = .ok (.putfield 9, 3) := D_Pa_tell_0 (2, .putfield 9, 3) (List.mem_of_getElem? (i := 2) rfl)
theorem d_Pa_tell_5 : decode Y_Pa_tell.2.1 5 = .ok (.aload_n 0, 1) := D_Pa_tell_0 (5, .aload_n 0, 1) (List.mem_of_getElem? (i := 3) rfl)
theorem d_Pa_tell_6 : decode Y_Pa_tell.2.1 6 = .ok (.lload 5, 2) := D_Pa_tell_0 (6, .lload 5, 2) (List.mem_of_getElem? (i := 4) rfl)
theorem d_Pa_tell_8 : decode Y_Pa_tell.2.1 8 = .ok (.lload 7, 2) := D_Pa_tell_0 (8, .lload 7, 2) (List.mem_of_getElem? (i := 5) rfl)
theorem d_Pa_tell_10 : decode Y_Pa_tell.2.1 10 = .ok (.lsub, 1) := D_Pa_tell_0 (10, .lsub, 1) (List.mem_of_getElem? (i := 6) rfl)
theorem d_Pa_tell_11 : decode Y_Pa_tell.2.1 11 = .ok (.putfield 15, 3) := D_Pa_tell_0 (11, .putfield 15, 3) (List.mem_of_getElem? (i := 7) rfl)
theorem d_Pa_tell_14 : decode Y_Pa_tell.2.1 14 = .ok (.aload_n 0, 1) := D_Pa_tell_0 (14, .aload_n 0, 1) (List.mem_of_getElem? (i := 8) rfl)
theorem d_Pa_tell_15 : decode Y_Pa_tell.2.1 15 = .ok (.lload_n 3, 1) := D_Pa_tell_0 (15, .lload_n 3, 1) (List.mem_of_getElem? (i := 9) rfl)
theorem d_Pa_tell_16 : decode Y_Pa_tell.2.1 16 = .ok (.putfield 18, 3) := D_Pa_tell_0 (16, .putfield 18, 3) (List.mem_of_getElem? (i := 10) rfl)
theorem d_Pa_tell_19 : decode Y_Pa_tell.2.1 19 = .ok (.aload_n 0, 1) := D_Pa_tell_0 (19, .aload_n 0, 1) (List.mem_of_getElem? (i := 11) rfl)
theorem d_Pa_tell_20 : decode Y_Pa_tell.2.1 20 = .ok (.lload 7, 2) := D_Pa_tell_0 (20, .lload 7, 2) (List.mem_of_getElem? (i := 12) rfl)
theorem d_Pa_tell_22 : decode Y_Pa_tell.2.1 22 = .ok (.putfield 21, 3) := D_Pa_tell_0 (22, .putfield 21, 3) (List.mem_of_getElem? (i := 13) rfl)
theorem d_Pa_tell_25 : decode Y_Pa_tell.2.1 25 = .ok (.aload_n 0, 1) := D_Pa_tell_0 (25, .aload_n 0, 1) (List.mem_of_getElem? (i := 14) rfl)
theorem d_Pa_tell_26 : decode Y_Pa_tell.2.1 26 = .ok (.lload 9, 2) := D_Pa_tell_0 (26, .lload 9, 2) (List.mem_of_getElem? (i := 15) rfl)
theorem d_Pa_tell_28 : decode Y_Pa_tell.2.1 28 = .ok (.putfield 24, 3) := D_Pa_tell_0 (28, .putfield 24, 3) (List.mem_of_getElem? (i := 16) rfl)
theorem d_Pa_tell_31 : decode Y_Pa_tell.2.1 31 = .ok (.return_, 1) := D_Pa_tell_0 (31, .return_, 1) (List.mem_of_getElem? (i := 17) rfl)
theorem D_Pa_add_0 : ∀ q ∈ ([(0, .aload_n 0, 1), (1, .dup, 1), (2, .getfield 9, 3), (5, .aload_n 1, 1), (6, .getfield 9, 3), (9, .ladd, 1), (10, .putfield 9, 3), (13, .aload_n 0, 1), (14, .dup, 1), (15, .getfield 15, 3), (18, .aload_n 1, 1), (19, .getfield 15, 3), (22, .ladd, 1), (23, .putfield 15, 3), (26, .aload_n 0, 1), (27, .dup, 1), (28, .getfield 18, 3), (31, .aload_n 1, 1), (32, .getfield 18, 3), (35, .ladd, 1), (36, .putfield 18, 3), (39, .aload_n 0, 1), (40, .dup, 1), (41, .getfield 21, 3), (44, .aload_n 1, 1), (45, .getfield 21, 3), (48, .ladd, 1), (49, .putfield 21, 3), (52, .aload_n 0, 1), (53, .dup, 1), (54, .getfield 24, 3), (57, .aload_n 1, 1), (58, .getfield 24, 3), (61, .ladd, 1), (62, .putfield 24, 3), (65, .return_, 1)] : List (Nat × Instr × Nat)), decode prog_4_method_3_code q.1 = .ok (q.2.1, q.2.2) := by decide +kernel
theorem d_Pa_add_0 : decode Y_Pa_add.2.1 0 = .ok (.aload_n 0, 1) := D_Pa_add_0 (0, .aload_n 0, 1) (List.mem_of_getElem? (i := 0) rfl)
theorem d_Pa_add_1 : decode Y_Pa_add.2.1 1 = .ok (.dup, 1) := D_Pa_add_0 (1, .dup, 1) (List.mem_of_getElem? (i := 1) rfl)
theorem d_Pa_add_2 : decode Y_Pa_add.2.1 2 = .ok (.getfield 9, 3) := D_Pa_add_0 (2, .getfield 9, 3) (List.mem_of_getElem? (i := 2) rfl)
theorem d_Pa_add_5 : decode Y_Pa_add.2.1 5 = .ok (.aload_n 1, 1) := D_Pa_add_0 (5, .aload_n 1, 1) (List.mem_of_getElem? (i := 3) rfl)
theorem d_Pa_add_6 : decode Y_Pa_add.2.1 6 = .ok (.getfield 9, 3) := D_Pa_add_0 (6, .getfield 9, 3) (List.mem_of_getElem? (i := 4) rfl)
theorem d_Pa_add_9 : decode Y_Pa_add.2.1 9 = .ok (.ladd, 1) := D_Pa_add_0 (9, .ladd, 1) (List.mem_of_getElem? (i := 5) rfl)
theorem d_Pa_add_10 : decode Y_Pa_add.2.1 10 = .ok (.putfield 9, 3) := D_Pa_add_0 (10, .putfield 9, 3) (List.mem_of_getElem? (i := 6) rfl)
theorem d_Pa_add_13 : decode Y_Pa_add.2.1 13 = .ok (.aload_n 0, 1) := D_Pa_add_0 (13, .aload_n 0, 1) (List.mem_of_getElem? (i := 7) rfl)
theorem d_Pa_add_14 : decode Y_Pa_add.2.1 14 = .ok (.dup, 1) := D_Pa_add_0 (14, .dup, 1) (List.mem_of_getElem? (i := 8) rfl)
theorem d_Pa_add_15 : decode Y_Pa_add.2.1 15 = .ok (.getfield 15, 3) := D_Pa_add_0 (15, .getfield 15, 3) (List.mem_of_getElem? (i := 9) rfl)
theorem d_Pa_add_18 : decode Y_Pa_add.2.1 18 = .ok (.aload_n 1, 1) := D_Pa_add_0 (18, .aload_n 1, 1) (List.mem_of_getElem? (i := 10) rfl)
theorem d_Pa_add_19 : decode Y_Pa_add.2.1 19 = .ok (.getfield 15, 3) := D_Pa_add_0 (19, .getfield 15, 3) (List.mem_of_getElem? (i := 11) rfl)
theorem d_Pa_add_22 : decode Y_Pa_add.2.1 22 = .ok (.ladd, 1) := D_Pa_add_0 (22, .ladd, 1) (List.mem_of_getElem? (i := 12) rfl)
theorem d_Pa_add_23 : decode Y_Pa_add.2.1 23 = .ok (.putfield 15, 3) := D_Pa_add_0 (23, .putfield 15, 3) (List.mem_of_getElem? (i := 13) rfl)
theorem d_Pa_add_26 : decode Y_Pa_add.2.1 26 = .ok (.aload_n 0, 1) := D_Pa_add_0 (26, .aload_n 0, 1) (List.mem_of_getElem? (i := 14) rfl)
theorem d_Pa_add_27 : decode Y_Pa_add.2.1 27 = .ok (.dup, 1) := D_Pa_add_0 (27, .dup, 1) (List.mem_of_getElem? (i := 15) rfl)
theorem d_Pa_add_28 : decode Y_Pa_add.2.1 28 = .ok (.getfield 18, 3) := D_Pa_add_0 (28, .getfield 18, 3) (List.mem_of_getElem? (i := 16) rfl)
theorem d_Pa_add_31 : decode Y_Pa_add.2.1 31 = .ok (.aload_n 1, 1) := D_Pa_add_0 (31, .aload_n 1, 1) (List.mem_of_getElem? (i := 17) rfl)
theorem d_Pa_add_32 : decode Y_Pa_add.2.1 32 = .ok (.getfield 18, 3) := D_Pa_add_0 (32, .getfield 18, 3) (List.mem_of_getElem? (i := 18) rfl)
theorem d_Pa_add_35 : decode Y_Pa_add.2.1 35 = .ok (.ladd, 1) := D_Pa_add_0 (35, .ladd, 1) (List.mem_of_getElem? (i := 19) rfl)
theorem d_Pa_add_36 : decode Y_Pa_add.2.1 36 = .ok (.putfield 18, 3) := D_Pa_add_0 (36, .putfield 18, 3) (List.mem_of_getElem? (i := 20) rfl)
theorem d_Pa_add_39 : decode Y_Pa_add.2.1 39 = .ok (.aload_n 0, 1) := D_Pa_add_0 (39, .aload_n 0, 1) (List.mem_of_getElem? (i := 21) rfl)
theorem d_Pa_add_40 : decode Y_Pa_add.2.1 40 = .ok (.dup, 1) := D_Pa_add_0 (40, .dup, 1) (List.mem_of_getElem? (i := 22) rfl)
theorem d_Pa_add_41 : decode Y_Pa_add.2.1 41 = .ok (.getfield 21, 3) := D_Pa_add_0 (41, .getfield 21, 3) (List.mem_of_getElem? (i := 23) rfl)
theorem d_Pa_add_44 : decode Y_Pa_add.2.1 44 = .ok (.aload_n 1, 1) := D_Pa_add_0 (44, .aload_n 1, 1) (List.mem_of_getElem? (i := 24) rfl)
theorem d_Pa_add_45 : decode Y_Pa_add.2.1 45 = .ok (.getfield 21, 3) := D_Pa_add_0 (45, .getfield 21, 3) (List.mem_of_getElem? (i := 25) rfl)
theorem d_Pa_add_48 : decode Y_Pa_add.2.1 48 = .ok (.ladd, 1) := D_Pa_add_0 (48, .ladd, 1) (List.mem_of_getElem? (i := 26) rfl)
theorem d_Pa_add_49 : decode Y_Pa_add.2.1 49 = .ok (.putfield 21, 3) := D_Pa_add_0 (49, .putfield 21, 3) (List.mem_of_getElem? (i := 27) rfl)
theorem d_Pa_add_52 : decode Y_Pa_add.2.1 52 = .ok (.aload_n 0, 1) := D_Pa_add_0 (52, .aload_n 0, 1) (List.mem_of_getElem? (i := 28) rfl)
theorem d_Pa_add_53 : decode Y_Pa_add.2.1 53 = .ok (.dup, 1) := D_Pa_add_0 (53, .dup, 1) (List.mem_of_getElem? (i := 29) rfl)
theorem d_Pa_add_54 : decode Y_Pa_add.2.1 54 = .ok (.getfield 24, 3) := D_Pa_add_0 (54, .getfield 24, 3) (List.mem_of_getElem? (i := 30) rfl)
theorem d_Pa_add_57 : decode Y_Pa_add.2.1 57 = .ok (.aload_n 1, 1) := D_Pa_add_0 (57, .aload_n 1, 1) (List.mem_of_getElem? (i := 31) rfl)
theorem d_Pa_add_58 : decode Y_Pa_add.2.1 58 = .ok (.getfield 24, 3) := D_Pa_add_0 (58, .getfield 24, 3) (List.mem_of_getElem? (i := 32) rfl)
theorem d_Pa_add_61 : decode Y_Pa_add.2.1 61 = .ok (.ladd, 1) := D_Pa_add_0 (61, .ladd, 1) (List.mem_of_getElem? (i := 33) rfl)
theorem d_Pa_add_62 : decode Y_Pa_add.2.1 62 = .ok (.putfield 24, 3) := D_Pa_add_0 (62, .putfield 24, 3) (List.mem_of_getElem? (i := 34) rfl)
theorem d_Pa_add_65 : decode Y_Pa_add.2.1 65 = .ok (.return_, 1) := D_Pa_add_0 (65, .return_, 1) (List.mem_of_getElem? (i := 35) rfl)
theorem D_Pa_ofKind_0 : ∀ q ∈ ([(0, .iload_n 1, 1), (1, .tableswitch 42 0 2 #[27, 32, 37], 27), (28, .aload_n 0, 1), (29, .getfield 9, 3), (32, .lreturn, 1), (33, .aload_n 0, 1), (34, .getfield 15, 3), (37, .lreturn, 1), (38, .aload_n 0, 1), (39, .getfield 18, 3), (42, .lreturn, 1), (43, .aload_n 0, 1), (44, .getfield 21, 3), (47, .lreturn, 1)] : List (Nat × Instr × Nat)), decode prog_4_method_4_code q.1 = .ok (q.2.1, q.2.2) := by decide +kernel
theorem d_Pa_ofKind_0 : decode Y_Pa_ofKind.2.1 0 = .ok (.iload_n 1, 1) := D_Pa_ofKind_0 (0, .iload_n 1, 1) (List.mem_of_getElem? (i := 0) rfl)
theorem d_Pa_ofKind_1 : decode Y_Pa_ofKind.2.1 1 = .ok (.tableswitch 42 0 2 #[27, 32, 37], 27) := D_Pa_ofKind_0 (1, .tableswitch 42 0 2 #[27, 32, 37], 27) (List.mem_of_getElem? (i := 1) rfl)
theorem d_Pa_ofKind_28 : decode Y_Pa_ofKind.2.1 28 = .ok (.aload_n 0, 1) := D_Pa_ofKind_0 (28, .aload_n 0, 1) (List.mem_of_getElem? (i := 2) rfl)
theorem d_Pa_ofKind_29 : decode Y_Pa_ofKind.2.1 29 = .ok (.getfield 9, 3) := D_Pa_ofKind_0 (29, .getfield 9, 3) (List.mem_of_getElem? (i := 3) rfl)
theorem d_Pa_ofKind_32 : decode Y_Pa_ofKind.2.1 32 = .ok (.lreturn, 1) := D_Pa_ofKind_0 (32, .lreturn, 1) (List.mem_of_getElem? (i := 4) rfl)
theorem d_Pa_ofKind_33 : decode Y_Pa_ofKind.2.1 33 = .ok (.aload_n 0, 1) := D_Pa_ofKind_0 (33, .aload_n 0, 1) (List.mem_of_getElem? (i := 5) rfl)
theorem d_Pa_ofKind_34 : decode Y_Pa_ofKind.2.1 34 = .ok (.getfield 15, 3) := D_Pa_ofKind_0 (34, .getfield 15, 3) (List.mem_of_getElem? (i := 6) rfl)
theorem d_Pa_ofKind_37 : decode Y_Pa_ofKind.2.1 37 = .ok (.lreturn, 1) := D_Pa_ofKind_0 (37, .lreturn, 1) (List.mem_of_getElem? (i := 7) rfl)
theorem d_Pa_ofKind_38 : decode Y_Pa_ofKind.2.1 38 = .ok (.aload_n 0, 1) := D_Pa_ofKind_0 (38, .aload_n 0, 1) (List.mem_of_getElem? (i := 8) rfl)
theorem d_Pa_ofKind_39 : decode Y_Pa_ofKind.2.1 39 = .ok (.getfield 18, 3) := D_Pa_ofKind_0 (39, .getfield 18, 3) (List.mem_of_getElem? (i := 9) rfl)
theorem d_Pa_ofKind_42 : decode Y_Pa_ofKind.2.1 42 = .ok (.lreturn, 1) := D_Pa_ofKind_0 (42, .lreturn, 1) (List.mem_of_getElem? (i := 10) rfl)
theorem d_Pa_ofKind_43 : decode Y_Pa_ofKind.2.1 43 = .ok (.aload_n 0, 1) := D_Pa_ofKind_0 (43, .aload_n 0, 1) (List.mem_of_getElem? (i := 11) rfl)
theorem d_Pa_ofKind_44 : decode Y_Pa_ofKind.2.1 44 = .ok (.getfield 21, 3) := D_Pa_ofKind_0 (44, .getfield 21, 3) (List.mem_of_getElem? (i := 12) rfl)
theorem d_Pa_ofKind_47 : decode Y_Pa_ofKind.2.1 47 = .ok (.lreturn, 1) := D_Pa_ofKind_0 (47, .lreturn, 1) (List.mem_of_getElem? (i := 13) rfl)
theorem D_Bi_hasRoom_0 : ∀ q ∈ ([(0, .aload_n 0, 1), (1, .invokevirtual 27, 3), (4, .iload_n 1, 1), (5, .i2l, 1), (6, .ldc2_w 31, 3), (9, .lmul, 1), (10, .ladd, 1), (11, .aload_n 0, 1), (12, .getfield 33, 3), (15, .i2l, 1), (16, .ldc2_w 31, 3), (19, .lmul, 1), (20, .lcmp, 1), (21, .ifCond .gt 7, 3), (24, .iconst 1, 1), (25, .goto 4, 3), (28, .iconst 0, 1), (29, .ireturn, 1)] : List (Nat × Instr × Nat)), decode prog_2_method_3_code q.1 = .ok (q.2.1, q.2.2) := by decide +kernel
theorem d_Bi_hasRoom_0 : decode Y_Bi_hasRoom.2.1 0 = .ok (.aload_n 0, 1) := D_Bi_hasRoom_0 (0, .aload_n 0, 1) (List.mem_of_getElem? (i := 0) rfl)
theorem d_Bi_hasRoom_1 : decode Y_Bi_hasRoom.2.1 1 = .ok (.invokevirtual 27, 3) := D_Bi_hasRoom_0 (1, .invokevirtual 27, 3) (List.mem_of_getElem? (i := 1) rfl)
theorem d_Bi_hasRoom_4 : decode Y_Bi_hasRoom.2.1 4 = .ok (.iload_n 1, 1) := D_Bi_hasRoom_0 (4, .iload_n 1, 1) (List.mem_of_getElem? (i := 2) rfl)
theorem d_Bi_hasRoom_5 : decode Y_Bi_hasRoom.2.1 5 = .ok (.i2l, 1) := D_Bi_hasRoom_0 (5, .i2l, 1) (List.mem_of_getElem? (i := 3) rfl)
theorem d_Bi_hasRoom_6 : decode Y_Bi_hasRoom.2.1 6 = .ok (.ldc2_w 31, 3) := D_Bi_hasRoom_0 (6, .ldc2_w 31, 3) (List.mem_of_getElem? (i := 4) rfl)
theorem d_Bi_hasRoom_9 : decode Y_Bi_hasRoom.2.1 9 = .ok (.lmul, 1) := D_Bi_hasRoom_0 (9, .lmul, 1) (List.mem_of_getElem? (i := 5) rfl)
theorem d_Bi_hasRoom_10 : decode Y_Bi_hasRoom.2.1 10 = .ok (.ladd, 1) := D_Bi_hasRoom_0 (10, .ladd, 1) (List.mem_of_getElem? (i := 6) rfl)
theorem d_Bi_hasRoom_11 : decode Y_Bi_hasRoom.2.1 11 = .ok (.aload_n 0, 1) := D_Bi_hasRoom_0 (11, .aload_n 0, 1) (List.mem_of_getElem? (i := 7) rfl)
theorem d_Bi_hasRoom_12 : decode Y_Bi_hasRoom.2.1 12 = .ok (.getfield 33, 3) := D_Bi_hasRoom_0 (12, .getfield 33, 3) (List.mem_of_getElem? (i := 8) rfl)
theorem d_Bi_hasRoom_15 : decode Y_Bi_hasRoom.2.1 15 = .ok (.i2l, 1) := D_Bi_hasRoom_0 (15, .i2l, 1) (List.mem_of_getElem? (i := 9) rfl)
theorem d_Bi_hasRoom_16 : decode Y_Bi_hasRoom.2.1 16 = .ok (.ldc2_w 31, 3) := D_Bi_hasRoom_0 (16, .ldc2_w 31, 3) (List.mem_of_getElem? (i := 10) rfl)
theorem d_Bi_hasRoom_19 : decode Y_Bi_hasRoom.2.1 19 = .ok (.lmul, 1) := D_Bi_hasRoom_0 (19, .lmul, 1) (List.mem_of_getElem? (i := 11) rfl)
theorem d_Bi_hasRoom_20 : decode Y_Bi_hasRoom.2.1 20 = .ok (.lcmp, 1) := D_Bi_hasRoom_0 (20, .lcmp, 1) (List.mem_of_getElem? (i := 12) rfl)
theorem d_Bi_hasRoom_21 : decode Y_Bi_hasRoom.2.1 21 = .ok (.ifCond .gt 7, 3) := D_Bi_hasRoom_0 (21, .ifCond .gt 7, 3) (List.mem_of_getElem? (i := 13) rfl)
theorem d_Bi_hasRoom_24 : decode Y_Bi_hasRoom.2.1 24 = .ok (.iconst 1, 1) := D_Bi_hasRoom_0 (24, .iconst 1, 1) (List.mem_of_getElem? (i := 14) rfl)
theorem d_Bi_hasRoom_25 : decode Y_Bi_hasRoom.2.1 25 = .ok (.goto 4, 3) := D_Bi_hasRoom_0 (25, .goto 4, 3) (List.mem_of_getElem? (i := 15) rfl)
theorem d_Bi_hasRoom_28 : decode Y_Bi_hasRoom.2.1 28 = .ok (.iconst 0, 1) := D_Bi_hasRoom_0 (28, .iconst 0, 1) (List.mem_of_getElem? (i := 16) rfl)
theorem d_Bi_hasRoom_29 : decode Y_Bi_hasRoom.2.1 29 = .ok (.ireturn, 1) := D_Bi_hasRoom_0 (29, .ireturn, 1) (List.mem_of_getElem? (i := 17) rfl)
theorem D_Bi_grams_0 : ∀ q ∈ ([(0, .aload_n 0, 1), (1, .getfield 21, 3), (4, .aload_n 0, 1), (5, .getfield 24, 3), (8, .ladd, 1), (9, .lreturn, 1)] : List (Nat × Instr × Nat)), decode prog_2_method_2_code q.1 = .ok (q.2.1, q.2.2) := by decide +kernel
theorem d_Bi_grams_0 : decode Y_Bi_grams.2.1 0 = .ok (.aload_n 0, 1) := D_Bi_grams_0 (0, .aload_n 0, 1) (List.mem_of_getElem? (i := 0) rfl)
theorem d_Bi_grams_1 : decode Y_Bi_grams.2.1 1 = .ok (.getfield 21, 3) := D_Bi_grams_0 (1, .getfield 21, 3) (List.mem_of_getElem? (i := 1) rfl)
theorem d_Bi_grams_4 : decode Y_Bi_grams.2.1 4 = .ok (.aload_n 0, 1) := D_Bi_grams_0 (4, .aload_n 0, 1) (List.mem_of_getElem? (i := 2) rfl)
theorem d_Bi_grams_5 : decode Y_Bi_grams.2.1 5 = .ok (.getfield 24, 3) := D_Bi_grams_0 (5, .getfield 24, 3) (List.mem_of_getElem? (i := 3) rfl)
theorem d_Bi_grams_8 : decode Y_Bi_grams.2.1 8 = .ok (.ladd, 1) := D_Bi_grams_0 (8, .ladd, 1) (List.mem_of_getElem? (i := 4) rfl)
theorem d_Bi_grams_9 : decode Y_Bi_grams.2.1 9 = .ok (.lreturn, 1) := D_Bi_grams_0 (9, .lreturn, 1) (List.mem_of_getElem? (i := 5) rfl)
theorem D_Bi_change_0 : ∀ q ∈ ([(0, .aload_n 0, 1), (1, .dup, 1), (2, .getfield 21, 3), (5, .lload_n 1, 1), (6, .ladd, 1), (7, .putfield 21, 3), (10, .aload_n 0, 1), (11, .dup, 1), (12, .getfield 24, 3), (15, .lload_n 3, 1), (16, .ladd, 1), (17, .putfield 24, 3), (20, .return_, 1)] : List (Nat × Instr × Nat)), decode prog_2_method_7_code q.1 = .ok (q.2.1, q.2.2) := by decide +kernel
theorem d_Bi_change_0 : decode Y_Bi_change.2.1 0 = .ok (.aload_n 0, 1) := D_Bi_change_0 (0, .aload_n 0, 1) (List.mem_of_getElem? (i := 0) rfl)
theorem d_Bi_change_1 : decode Y_Bi_change.2.1 1 = .ok (.dup, 1) := D_Bi_change_0 (1, .dup, 1) (List.mem_of_getElem? (i := 1) rfl)
theorem d_Bi_change_2 : decode Y_Bi_change.2.1 2 = .ok (.getfield 21, 3) := D_Bi_change_0 (2, .getfield 21, 3) (List.mem_of_getElem? (i := 2) rfl)
theorem d_Bi_change_5 : decode Y_Bi_change.2.1 5 = .ok (.lload_n 1, 1) := D_Bi_change_0 (5, .lload_n 1, 1) (List.mem_of_getElem? (i := 3) rfl)
theorem d_Bi_change_6 : decode Y_Bi_change.2.1 6 = .ok (.ladd, 1) := D_Bi_change_0 (6, .ladd, 1) (List.mem_of_getElem? (i := 4) rfl)
theorem d_Bi_change_7 : decode Y_Bi_change.2.1 7 = .ok (.putfield 21, 3) := D_Bi_change_0 (7, .putfield 21, 3) (List.mem_of_getElem? (i := 5) rfl)
theorem d_Bi_change_10 : decode Y_Bi_change.2.1 10 = .ok (.aload_n 0, 1) := D_Bi_change_0 (10, .aload_n 0, 1) (List.mem_of_getElem? (i := 6) rfl)
theorem d_Bi_change_11 : decode Y_Bi_change.2.1 11 = .ok (.dup, 1) := D_Bi_change_0 (11, .dup, 1) (List.mem_of_getElem? (i := 7) rfl)
theorem d_Bi_change_12 : decode Y_Bi_change.2.1 12 = .ok (.getfield 24, 3) := D_Bi_change_0 (12, .getfield 24, 3) (List.mem_of_getElem? (i := 8) rfl)
theorem d_Bi_change_15 : decode Y_Bi_change.2.1 15 = .ok (.lload_n 3, 1) := D_Bi_change_0 (15, .lload_n 3, 1) (List.mem_of_getElem? (i := 9) rfl)
theorem d_Bi_change_16 : decode Y_Bi_change.2.1 16 = .ok (.ladd, 1) := D_Bi_change_0 (16, .ladd, 1) (List.mem_of_getElem? (i := 10) rfl)
theorem d_Bi_change_17 : decode Y_Bi_change.2.1 17 = .ok (.putfield 24, 3) := D_Bi_change_0 (17, .putfield 24, 3) (List.mem_of_getElem? (i := 11) rfl)
theorem d_Bi_change_20 : decode Y_Bi_change.2.1 20 = .ok (.return_, 1) := D_Bi_change_0 (20, .return_, 1) (List.mem_of_getElem? (i := 12) rfl)
theorem D_Sc_tell_0 : ∀ q ∈ ([(0, .aload_n 0, 1), (1, .iconst 1, 1), (2, .putfield 7, 3), (5, .aload_n 0, 1), (6, .iload_n 1, 1), (7, .putfield 13, 3), (10, .aload_n 0, 1), (11, .iload_n 2, 1), (12, .putfield 17, 3), (15, .aload_n 0, 1), (16, .iload_n 3, 1), (17, .putfield 20, 3), (20, .aload_n 0, 1), (21, .iload 4, 2), (23, .putfield 23, 3), (26, .aload_n 0, 1), (27, .iload 5, 2), (29, .putfield 26, 3), (32, .return_, 1)] : List (Nat × Instr × Nat)), decode prog_5_method_2_code q.1 = .ok (q.2.1, q.2.2) := by decide +kernel
theorem d_Sc_tell_0 : decode Y_Sc_tell.2.1 0 = .ok (.aload_n 0, 1) := D_Sc_tell_0 (0, .aload_n 0, 1) (List.mem_of_getElem? (i := 0) rfl)
theorem d_Sc_tell_1 : decode Y_Sc_tell.2.1 1 = .ok (.iconst 1, 1) := D_Sc_tell_0 (1, .iconst 1, 1) (List.mem_of_getElem? (i := 1) rfl)
theorem d_Sc_tell_2 : decode Y_Sc_tell.2.1 2 = .ok (.putfield 7, 3) := D_Sc_tell_0 (2, .putfield 7, 3) (List.mem_of_getElem? (i := 2) rfl)
theorem d_Sc_tell_5 : decode Y_Sc_tell.2.1 5 = .ok (.aload_n 0, 1) := D_Sc_tell_0 (5, .aload_n 0, 1) (List.mem_of_getElem? (i := 3) rfl)
theorem d_Sc_tell_6 : decode Y_Sc_tell.2.1 6 = .ok (.iload_n 1, 1) := D_Sc_tell_0 (6, .iload_n 1, 1) (List.mem_of_getElem? (i := 4) rfl)
theorem d_Sc_tell_7 : decode Y_Sc_tell.2.1 7 = .ok (.putfield 13, 3) := D_Sc_tell_0 (7, .putfield 13, 3) (List.mem_of_getElem? (i := 5) rfl)
theorem d_Sc_tell_10 : decode Y_Sc_tell.2.1 10 = .ok (.aload_n 0, 1) := D_Sc_tell_0 (10, .aload_n 0, 1) (List.mem_of_getElem? (i := 6) rfl)
theorem d_Sc_tell_11 : decode Y_Sc_tell.2.1 11 = .ok (.iload_n 2, 1) := D_Sc_tell_0 (11, .iload_n 2, 1) (List.mem_of_getElem? (i := 7) rfl)
theorem d_Sc_tell_12 : decode Y_Sc_tell.2.1 12 = .ok (.putfield 17, 3) := D_Sc_tell_0 (12, .putfield 17, 3) (List.mem_of_getElem? (i := 8) rfl)
theorem d_Sc_tell_15 : decode Y_Sc_tell.2.1 15 = .ok (.aload_n 0, 1) := D_Sc_tell_0 (15, .aload_n 0, 1) (List.mem_of_getElem? (i := 9) rfl)
theorem d_Sc_tell_16 : decode Y_Sc_tell.2.1 16 = .ok (.iload_n 3, 1) := D_Sc_tell_0 (16, .iload_n 3, 1) (List.mem_of_getElem? (i := 10) rfl)
theorem d_Sc_tell_17 : decode Y_Sc_tell.2.1 17 = .ok (.putfield 20, 3) := D_Sc_tell_0 (17, .putfield 20, 3) (List.mem_of_getElem? (i := 11) rfl)
theorem d_Sc_tell_20 : decode Y_Sc_tell.2.1 20 = .ok (.aload_n 0, 1) := D_Sc_tell_0 (20, .aload_n 0, 1) (List.mem_of_getElem? (i := 12) rfl)
theorem d_Sc_tell_21 : decode Y_Sc_tell.2.1 21 = .ok (.iload 4, 2) := D_Sc_tell_0 (21, .iload 4, 2) (List.mem_of_getElem? (i := 13) rfl)
theorem d_Sc_tell_23 : decode Y_Sc_tell.2.1 23 = .ok (.putfield 23, 3) := D_Sc_tell_0 (23, .putfield 23, 3) (List.mem_of_getElem? (i := 14) rfl)
theorem d_Sc_tell_26 : decode Y_Sc_tell.2.1 26 = .ok (.aload_n 0, 1) := D_Sc_tell_0 (26, .aload_n 0, 1) (List.mem_of_getElem? (i := 15) rfl)
theorem d_Sc_tell_27 : decode Y_Sc_tell.2.1 27 = .ok (.iload 5, 2) := D_Sc_tell_0 (27, .iload 5, 2) (List.mem_of_getElem? (i := 16) rfl)
theorem d_Sc_tell_29 : decode Y_Sc_tell.2.1 29 = .ok (.putfield 26, 3) := D_Sc_tell_0 (29, .putfield 26, 3) (List.mem_of_getElem? (i := 17) rfl)
theorem d_Sc_tell_32 : decode Y_Sc_tell.2.1 32 = .ok (.return_, 1) := D_Sc_tell_0 (32, .return_, 1) (List.mem_of_getElem? (i := 18) rfl)
theorem D_Bo_lastDay_0 : ∀ q ∈ ([(0, .aload_n 0, 1), (1, .getfield 18, 3), (4, .iconst 1, 1), (5, .if_icmp .lt 12, 3), (8, .aload_n 0, 1), (9, .getfield 18, 3), (12, .bipush 8, 2), (14, .if_icmp .le 7, 3), (17, .iconst (-1), 1), (18, .goto 14, 3), (21, .aload_n 0, 1), (22, .getfield 9, 3), (25, .aload_n 0, 1), (26, .getfield 18, 3), (29, .iconst 1, 1), (30, .isub, 1), (31, .iaload, 1), (32, .ireturn, 1)] : List (Nat × Instr × Nat)), decode prog_3_method_2_code q.1 = .ok (q.2.1, q.2.2) := by decide +kernel
theorem d_Bo_lastDay_0 : decode Y_Bo_lastDay.2.1 0 = .ok (.aload_n 0, 1) := D_Bo_lastDay_0 (0, .aload_n 0, 1) (List.mem_of_getElem? (i := 0) rfl)
theorem d_Bo_lastDay_1 : decode Y_Bo_lastDay.2.1 1 = .ok (.getfield 18, 3) := D_Bo_lastDay_0 (1, .getfield 18, 3) (List.mem_of_getElem? (i := 1) rfl)
theorem d_Bo_lastDay_4 : decode Y_Bo_lastDay.2.1 4 = .ok (.iconst 1, 1) := D_Bo_lastDay_0 (4, .iconst 1, 1) (List.mem_of_getElem? (i := 2) rfl)
theorem d_Bo_lastDay_5 : decode Y_Bo_lastDay.2.1 5 = .ok (.if_icmp .lt 12, 3) := D_Bo_lastDay_0 (5, .if_icmp .lt 12, 3) (List.mem_of_getElem? (i := 3) rfl)
theorem d_Bo_lastDay_8 : decode Y_Bo_lastDay.2.1 8 = .ok (.aload_n 0, 1) := D_Bo_lastDay_0 (8, .aload_n 0, 1) (List.mem_of_getElem? (i := 4) rfl)
theorem d_Bo_lastDay_9 : decode Y_Bo_lastDay.2.1 9 = .ok (.getfield 18, 3) := D_Bo_lastDay_0 (9, .getfield 18, 3) (List.mem_of_getElem? (i := 5) rfl)
theorem d_Bo_lastDay_12 : decode Y_Bo_lastDay.2.1 12 = .ok (.bipush 8, 2) := D_Bo_lastDay_0 (12, .bipush 8, 2) (List.mem_of_getElem? (i := 6) rfl)
theorem d_Bo_lastDay_14 : decode Y_Bo_lastDay.2.1 14 = .ok (.if_icmp .le 7, 3) := D_Bo_lastDay_0 (14, .if_icmp .le 7, 3) (List.mem_of_getElem? (i := 7) rfl)
theorem d_Bo_lastDay_17 : decode Y_Bo_lastDay.2.1 17 = .ok (.iconst (-1), 1) := D_Bo_lastDay_0 (17, .iconst (-1), 1) (List.mem_of_getElem? (i := 8) rfl)
theorem d_Bo_lastDay_18 : decode Y_Bo_lastDay.2.1 18 = .ok (.goto 14, 3) := D_Bo_lastDay_0 (18, .goto 14, 3) (List.mem_of_getElem? (i := 9) rfl)
theorem d_Bo_lastDay_21 : decode Y_Bo_lastDay.2.1 21 = .ok (.aload_n 0, 1) := D_Bo_lastDay_0 (21, .aload_n 0, 1) (List.mem_of_getElem? (i := 10) rfl)
theorem d_Bo_lastDay_22 : decode Y_Bo_lastDay.2.1 22 = .ok (.getfield 9, 3) := D_Bo_lastDay_0 (22, .getfield 9, 3) (List.mem_of_getElem? (i := 11) rfl)
theorem d_Bo_lastDay_25 : decode Y_Bo_lastDay.2.1 25 = .ok (.aload_n 0, 1) := D_Bo_lastDay_0 (25, .aload_n 0, 1) (List.mem_of_getElem? (i := 12) rfl)
theorem d_Bo_lastDay_26 : decode Y_Bo_lastDay.2.1 26 = .ok (.getfield 18, 3) := D_Bo_lastDay_0 (26, .getfield 18, 3) (List.mem_of_getElem? (i := 13) rfl)
theorem d_Bo_lastDay_29 : decode Y_Bo_lastDay.2.1 29 = .ok (.iconst 1, 1) := D_Bo_lastDay_0 (29, .iconst 1, 1) (List.mem_of_getElem? (i := 14) rfl)
theorem d_Bo_lastDay_30 : decode Y_Bo_lastDay.2.1 30 = .ok (.isub, 1) := D_Bo_lastDay_0 (30, .isub, 1) (List.mem_of_getElem? (i := 15) rfl)
theorem d_Bo_lastDay_31 : decode Y_Bo_lastDay.2.1 31 = .ok (.iaload, 1) := D_Bo_lastDay_0 (31, .iaload, 1) (List.mem_of_getElem? (i := 16) rfl)
theorem d_Bo_lastDay_32 : decode Y_Bo_lastDay.2.1 32 = .ok (.ireturn, 1) := D_Bo_lastDay_0 (32, .ireturn, 1) (List.mem_of_getElem? (i := 17) rfl)
theorem D_Bo_add_0 : ∀ q ∈ ([(0, .aload_n 0, 1), (1, .getfield 18, 3), (4, .ifCond .lt 12, 3), (7, .aload_n 0, 1), (8, .getfield 18, 3), (11, .bipush 8, 2), (13, .if_icmp .lt 5, 3), (16, .iconst 0, 1), (17, .ireturn, 1), (18, .aload_n 0, 1), (19, .getfield 9, 3), (22, .aload_n 0, 1), (23, .getfield 18, 3), (26, .iload_n 1, 1), (27, .iastore, 1), (28, .aload_n 0, 1), (29, .getfield 15, 3), (32, .aload_n 0, 1), (33, .getfield 18, 3), (36, .iload_n 2, 1), (37, .iastore, 1), (38, .aload_n 0, 1), (39, .dup, 1), (40, .getfield 18, 3), (43, .iconst 1, 1), (44, .iadd, 1), (45, .putfield 18, 3), (48, .iconst 1, 1), (49, .ireturn, 1)] : List (Nat × Instr × Nat)), decode prog_3_method_3_code q.1 = .ok (q.2.1, q.2.2) := by decide +kernel
theorem d_Bo_add_0 : decode Y_Bo_add.2.1 0 = .ok (.aload_n 0, 1) := D_Bo_add_0 (0, .aload_n 0, 1) (List.mem_of_getElem? (i := 0) rfl)
theorem d_Bo_add_1 : decode Y_Bo_add.2.1 1 = .ok (.getfield 18, 3) := D_Bo_add_0 (1, .getfield 18, 3) (List.mem_of_getElem? (i := 1) rfl)
theorem d_Bo_add_4 : decode Y_Bo_add.2.1 4 = .ok (.ifCond .lt 12, 3) := D_Bo_add_0 (4, .ifCond .lt 12, 3) (List.mem_of_getElem? (i := 2) rfl)
theorem d_Bo_add_7 : decode Y_Bo_add.2.1 7 = .ok (.aload_n 0, 1) := D_Bo_add_0 (7, .aload_n 0, 1) (List.mem_of_getElem? (i := 3) rfl)
theorem d_Bo_add_8 : decode Y_Bo_add.2.1 8 = .ok (.getfield 18, 3) := D_Bo_add_0 (8, .getfield 18, 3) (List.mem_of_getElem? (i := 4) rfl)
theorem d_Bo_add_11 : decode Y_Bo_add.2.1 11 = .ok (.bipush 8, 2) := D_Bo_add_0 (11, .bipush 8, 2) (List.mem_of_getElem? (i := 5) rfl)
theorem d_Bo_add_13 : decode Y_Bo_add.2.1 13 = .ok (.if_icmp .lt 5, 3) := D_Bo_add_0 (13, .if_icmp .lt 5, 3) (List.mem_of_getElem? (i := 6) rfl)
theorem d_Bo_add_16 : decode Y_Bo_add.2.1 16 = .ok (.iconst 0, 1) := D_Bo_add_0 (16, .iconst 0, 1) (List.mem_of_getElem? (i := 7) rfl)
theorem d_Bo_add_17 : decode Y_Bo_add.2.1 17 = .ok (.ireturn, 1) := D_Bo_add_0 (17, .ireturn, 1) (List.mem_of_getElem? (i := 8) rfl)
theorem d_Bo_add_18 : decode Y_Bo_add.2.1 18 = .ok (.aload_n 0, 1) := D_Bo_add_0 (18, .aload_n 0, 1) (List.mem_of_getElem? (i := 9) rfl)
theorem d_Bo_add_19 : decode Y_Bo_add.2.1 19 = .ok (.getfield 9, 3) := D_Bo_add_0 (19, .getfield 9, 3) (List.mem_of_getElem? (i := 10) rfl)
theorem d_Bo_add_22 : decode Y_Bo_add.2.1 22 = .ok (.aload_n 0, 1) := D_Bo_add_0 (22, .aload_n 0, 1) (List.mem_of_getElem? (i := 11) rfl)
theorem d_Bo_add_23 : decode Y_Bo_add.2.1 23 = .ok (.getfield 18, 3) := D_Bo_add_0 (23, .getfield 18, 3) (List.mem_of_getElem? (i := 12) rfl)
theorem d_Bo_add_26 : decode Y_Bo_add.2.1 26 = .ok (.iload_n 1, 1) := D_Bo_add_0 (26, .iload_n 1, 1) (List.mem_of_getElem? (i := 13) rfl)
theorem d_Bo_add_27 : decode Y_Bo_add.2.1 27 = .ok (.iastore, 1) := D_Bo_add_0 (27, .iastore, 1) (List.mem_of_getElem? (i := 14) rfl)
theorem d_Bo_add_28 : decode Y_Bo_add.2.1 28 = .ok (.aload_n 0, 1) := D_Bo_add_0 (28, .aload_n 0, 1) (List.mem_of_getElem? (i := 15) rfl)
theorem d_Bo_add_29 : decode Y_Bo_add.2.1 29 = .ok (.getfield 15, 3) := D_Bo_add_0 (29, .getfield 15, 3) (List.mem_of_getElem? (i := 16) rfl)
theorem d_Bo_add_32 : decode Y_Bo_add.2.1 32 = .ok (.aload_n 0, 1) := D_Bo_add_0 (32, .aload_n 0, 1) (List.mem_of_getElem? (i := 17) rfl)
theorem d_Bo_add_33 : decode Y_Bo_add.2.1 33 = .ok (.getfield 18, 3) := D_Bo_add_0 (33, .getfield 18, 3) (List.mem_of_getElem? (i := 18) rfl)
theorem d_Bo_add_36 : decode Y_Bo_add.2.1 36 = .ok (.iload_n 2, 1) := D_Bo_add_0 (36, .iload_n 2, 1) (List.mem_of_getElem? (i := 19) rfl)
theorem d_Bo_add_37 : decode Y_Bo_add.2.1 37 = .ok (.iastore, 1) := D_Bo_add_0 (37, .iastore, 1) (List.mem_of_getElem? (i := 20) rfl)
theorem d_Bo_add_38 : decode Y_Bo_add.2.1 38 = .ok (.aload_n 0, 1) := D_Bo_add_0 (38, .aload_n 0, 1) (List.mem_of_getElem? (i := 21) rfl)
theorem d_Bo_add_39 : decode Y_Bo_add.2.1 39 = .ok (.dup, 1) := D_Bo_add_0 (39, .dup, 1) (List.mem_of_getElem? (i := 22) rfl)
theorem d_Bo_add_40 : decode Y_Bo_add.2.1 40 = .ok (.getfield 18, 3) := D_Bo_add_0 (40, .getfield 18, 3) (List.mem_of_getElem? (i := 23) rfl)
theorem d_Bo_add_43 : decode Y_Bo_add.2.1 43 = .ok (.iconst 1, 1) := D_Bo_add_0 (43, .iconst 1, 1) (List.mem_of_getElem? (i := 24) rfl)
theorem d_Bo_add_44 : decode Y_Bo_add.2.1 44 = .ok (.iadd, 1) := D_Bo_add_0 (44, .iadd, 1) (List.mem_of_getElem? (i := 25) rfl)
theorem d_Bo_add_45 : decode Y_Bo_add.2.1 45 = .ok (.putfield 18, 3) := D_Bo_add_0 (45, .putfield 18, 3) (List.mem_of_getElem? (i := 26) rfl)
theorem d_Bo_add_48 : decode Y_Bo_add.2.1 48 = .ok (.iconst 1, 1) := D_Bo_add_0 (48, .iconst 1, 1) (List.mem_of_getElem? (i := 27) rfl)
theorem d_Bo_add_49 : decode Y_Bo_add.2.1 49 = .ok (.ireturn, 1) := D_Bo_add_0 (49, .ireturn, 1) (List.mem_of_getElem? (i := 28) rfl)
theorem D_Bi_waterIn_0 : ∀ q ∈ ([(0, .aload_n 0, 1), (1, .getfield 24, 3), (4, .iload_n 1, 1), (5, .i2l, 1), (6, .ldc2_w 31, 3), (9, .lmul, 1), (10, .aload_n 0, 1), (11, .invokevirtual 27, 3), (14, .invokestatic 36, 3), (17, .lreturn, 1)] : List (Nat × Instr × Nat)), decode prog_2_method_4_code q.1 = .ok (q.2.1, q.2.2) := by decide +kernel
theorem d_Bi_waterIn_0 : decode Y_Bi_waterIn.2.1 0 = .ok (.aload_n 0, 1) := D_Bi_waterIn_0 (0, .aload_n 0, 1) (List.mem_of_getElem? (i := 0) rfl)
theorem d_Bi_waterIn_1 : decode Y_Bi_waterIn.2.1 1 = .ok (.getfield 24, 3) := D_Bi_waterIn_0 (1, .getfield 24, 3) (List.mem_of_getElem? (i := 1) rfl)
theorem d_Bi_waterIn_4 : decode Y_Bi_waterIn.2.1 4 = .ok (.iload_n 1, 1) := D_Bi_waterIn_0 (4, .iload_n 1, 1) (List.mem_of_getElem? (i := 2) rfl)
theorem d_Bi_waterIn_5 : decode Y_Bi_waterIn.2.1 5 = .ok (.i2l, 1) := D_Bi_waterIn_0 (5, .i2l, 1) (List.mem_of_getElem? (i := 3) rfl)
theorem d_Bi_waterIn_6 : decode Y_Bi_waterIn.2.1 6 = .ok (.ldc2_w 31, 3) := D_Bi_waterIn_0 (6, .ldc2_w 31, 3) (List.mem_of_getElem? (i := 4) rfl)
theorem d_Bi_waterIn_9 : decode Y_Bi_waterIn.2.1 9 = .ok (.lmul, 1) := D_Bi_waterIn_0 (9, .lmul, 1) (List.mem_of_getElem? (i := 5) rfl)
theorem d_Bi_waterIn_10 : decode Y_Bi_waterIn.2.1 10 = .ok (.aload_n 0, 1) := D_Bi_waterIn_0 (10, .aload_n 0, 1) (List.mem_of_getElem? (i := 6) rfl)
theorem d_Bi_waterIn_11 : decode Y_Bi_waterIn.2.1 11 = .ok (.invokevirtual 27, 3) := D_Bi_waterIn_0 (11, .invokevirtual 27, 3) (List.mem_of_getElem? (i := 7) rfl)
theorem d_Bi_waterIn_14 : decode Y_Bi_waterIn.2.1 14 = .ok (.invokestatic 36, 3) := D_Bi_waterIn_0 (14, .invokestatic 36, 3) (List.mem_of_getElem? (i := 8) rfl)
theorem d_Bi_waterIn_17 : decode Y_Bi_waterIn.2.1 17 = .ok (.lreturn, 1) := D_Bi_waterIn_0 (17, .lreturn, 1) (List.mem_of_getElem? (i := 9) rfl)
theorem D_Bi_dryIn_0 : ∀ q ∈ ([(0, .iload_n 1, 1), (1, .i2l, 1), (2, .ldc2_w 31, 3), (5, .lmul, 1), (6, .aload_n 0, 1), (7, .iload_n 1, 1), (8, .invokevirtual 40, 3), (11, .lsub, 1), (12, .lreturn, 1)] : List (Nat × Instr × Nat)), decode prog_2_method_5_code q.1 = .ok (q.2.1, q.2.2) := by decide +kernel
theorem d_Bi_dryIn_0 : decode Y_Bi_dryIn.2.1 0 = .ok (.iload_n 1, 1) := D_Bi_dryIn_0 (0, .iload_n 1, 1) (List.mem_of_getElem? (i := 0) rfl)
theorem d_Bi_dryIn_1 : decode Y_Bi_dryIn.2.1 1 = .ok (.i2l, 1) := D_Bi_dryIn_0 (1, .i2l, 1) (List.mem_of_getElem? (i := 1) rfl)
theorem d_Bi_dryIn_2 : decode Y_Bi_dryIn.2.1 2 = .ok (.ldc2_w 31, 3) := D_Bi_dryIn_0 (2, .ldc2_w 31, 3) (List.mem_of_getElem? (i := 2) rfl)
theorem d_Bi_dryIn_5 : decode Y_Bi_dryIn.2.1 5 = .ok (.lmul, 1) := D_Bi_dryIn_0 (5, .lmul, 1) (List.mem_of_getElem? (i := 3) rfl)
theorem d_Bi_dryIn_6 : decode Y_Bi_dryIn.2.1 6 = .ok (.aload_n 0, 1) := D_Bi_dryIn_0 (6, .aload_n 0, 1) (List.mem_of_getElem? (i := 4) rfl)
theorem d_Bi_dryIn_7 : decode Y_Bi_dryIn.2.1 7 = .ok (.iload_n 1, 1) := D_Bi_dryIn_0 (7, .iload_n 1, 1) (List.mem_of_getElem? (i := 5) rfl)
theorem d_Bi_dryIn_8 : decode Y_Bi_dryIn.2.1 8 = .ok (.invokevirtual 40, 3) := D_Bi_dryIn_0 (8, .invokevirtual 40, 3) (List.mem_of_getElem? (i := 6) rfl)
theorem d_Bi_dryIn_11 : decode Y_Bi_dryIn.2.1 11 = .ok (.lsub, 1) := D_Bi_dryIn_0 (11, .lsub, 1) (List.mem_of_getElem? (i := 7) rfl)
theorem d_Bi_dryIn_12 : decode Y_Bi_dryIn.2.1 12 = .ok (.lreturn, 1) := D_Bi_dryIn_0 (12, .lreturn, 1) (List.mem_of_getElem? (i := 8) rfl)
theorem D_Bo_percentAt_0 : ∀ q ∈ ([(0, .bipush 100, 2), (2, .istore_n 2, 1), (3, .iconst 0, 1), (4, .istore_n 3, 1), (5, .iload_n 3, 1), (6, .aload_n 0, 1), (7, .getfield 18, 3), (10, .if_icmp .ge 32, 3), (13, .iload_n 3, 1), (14, .bipush 8, 2), (16, .if_icmp .ge 26, 3), (19, .aload_n 0, 1), (20, .getfield 9, 3), (23, .iload_n 3, 1), (24, .iaload, 1), (25, .iload_n 1, 1), (26, .if_icmp .gt 10, 3), (29, .aload_n 0, 1), (30, .getfield 15, 3), (33, .iload_n 3, 1), (34, .iaload, 1), (35, .istore_n 2, 1), (36, .iinc 3 1, 3), (39, .goto (-34), 3), (42, .iload_n 2, 1), (43, .ireturn, 1)] : List (Nat × Instr × Nat)), decode prog_3_method_4_code q.1 = .ok (q.2.1, q.2.2) := by decide +kernel
theorem d_Bo_percentAt_0 : decode Y_Bo_percentAt.2.1 0 = .ok (.bipush 100, 2) := D_Bo_percentAt_0 (0, .bipush 100, 2) (List.mem_of_getElem? (i := 0) rfl)
theorem d_Bo_percentAt_2 : decode Y_Bo_percentAt.2.1 2 = .ok (.istore_n 2, 1) := D_Bo_percentAt_0 (2, .istore_n 2, 1) (List.mem_of_getElem? (i := 1) rfl)
theorem d_Bo_percentAt_3 : decode Y_Bo_percentAt.2.1 3 = .ok (.iconst 0, 1) := D_Bo_percentAt_0 (3, .iconst 0, 1) (List.mem_of_getElem? (i := 2) rfl)
theorem d_Bo_percentAt_4 : decode Y_Bo_percentAt.2.1 4 = .ok (.istore_n 3, 1) := D_Bo_percentAt_0 (4, .istore_n 3, 1) (List.mem_of_getElem? (i := 3) rfl)
theorem d_Bo_percentAt_5 : decode Y_Bo_percentAt.2.1 5 = .ok (.iload_n 3, 1) := D_Bo_percentAt_0 (5, .iload_n 3, 1) (List.mem_of_getElem? (i := 4) rfl)
theorem d_Bo_percentAt_6 : decode Y_Bo_percentAt.2.1 6 = .ok (.aload_n 0, 1) := D_Bo_percentAt_0 (6, .aload_n 0, 1) (List.mem_of_getElem? (i := 5) rfl)
theorem d_Bo_percentAt_7 : decode Y_Bo_percentAt.2.1 7 = .ok (.getfield 18, 3) := D_Bo_percentAt_0 (7, .getfield 18, 3) (List.mem_of_getElem? (i := 6) rfl)
theorem d_Bo_percentAt_10 : decode Y_Bo_percentAt.2.1 10 = .ok (.if_icmp .ge 32, 3) := D_Bo_percentAt_0 (10, .if_icmp .ge 32, 3) (List.mem_of_getElem? (i := 7) rfl)
theorem d_Bo_percentAt_13 : decode Y_Bo_percentAt.2.1 13 = .ok (.iload_n 3, 1) := D_Bo_percentAt_0 (13, .iload_n 3, 1) (List.mem_of_getElem? (i := 8) rfl)
theorem d_Bo_percentAt_14 : decode Y_Bo_percentAt.2.1 14 = .ok (.bipush 8, 2) := D_Bo_percentAt_0 (14, .bipush 8, 2) (List.mem_of_getElem? (i := 9) rfl)
theorem d_Bo_percentAt_16 : decode Y_Bo_percentAt.2.1 16 = .ok (.if_icmp .ge 26, 3) := D_Bo_percentAt_0 (16, .if_icmp .ge 26, 3) (List.mem_of_getElem? (i := 10) rfl)
theorem d_Bo_percentAt_19 : decode Y_Bo_percentAt.2.1 19 = .ok (.aload_n 0, 1) := D_Bo_percentAt_0 (19, .aload_n 0, 1) (List.mem_of_getElem? (i := 11) rfl)
theorem d_Bo_percentAt_20 : decode Y_Bo_percentAt.2.1 20 = .ok (.getfield 9, 3) := D_Bo_percentAt_0 (20, .getfield 9, 3) (List.mem_of_getElem? (i := 12) rfl)
theorem d_Bo_percentAt_23 : decode Y_Bo_percentAt.2.1 23 = .ok (.iload_n 3, 1) := D_Bo_percentAt_0 (23, .iload_n 3, 1) (List.mem_of_getElem? (i := 13) rfl)
theorem d_Bo_percentAt_24 : decode Y_Bo_percentAt.2.1 24 = .ok (.iaload, 1) := D_Bo_percentAt_0 (24, .iaload, 1) (List.mem_of_getElem? (i := 14) rfl)
theorem d_Bo_percentAt_25 : decode Y_Bo_percentAt.2.1 25 = .ok (.iload_n 1, 1) := D_Bo_percentAt_0 (25, .iload_n 1, 1) (List.mem_of_getElem? (i := 15) rfl)
theorem d_Bo_percentAt_26 : decode Y_Bo_percentAt.2.1 26 = .ok (.if_icmp .gt 10, 3) := D_Bo_percentAt_0 (26, .if_icmp .gt 10, 3) (List.mem_of_getElem? (i := 16) rfl)
theorem d_Bo_percentAt_29 : decode Y_Bo_percentAt.2.1 29 = .ok (.aload_n 0, 1) := D_Bo_percentAt_0 (29, .aload_n 0, 1) (List.mem_of_getElem? (i := 17) rfl)
theorem d_Bo_percentAt_30 : decode Y_Bo_percentAt.2.1 30 = .ok (.getfield 15, 3) := D_Bo_percentAt_0 (30, .getfield 15, 3) (List.mem_of_getElem? (i := 18) rfl)
theorem d_Bo_percentAt_33 : decode Y_Bo_percentAt.2.1 33 = .ok (.iload_n 3, 1) := D_Bo_percentAt_0 (33, .iload_n 3, 1) (List.mem_of_getElem? (i := 19) rfl)
theorem d_Bo_percentAt_34 : decode Y_Bo_percentAt.2.1 34 = .ok (.iaload, 1) := D_Bo_percentAt_0 (34, .iaload, 1) (List.mem_of_getElem? (i := 20) rfl)
theorem d_Bo_percentAt_35 : decode Y_Bo_percentAt.2.1 35 = .ok (.istore_n 2, 1) := D_Bo_percentAt_0 (35, .istore_n 2, 1) (List.mem_of_getElem? (i := 21) rfl)
theorem d_Bo_percentAt_36 : decode Y_Bo_percentAt.2.1 36 = .ok (.iinc 3 1, 3) := D_Bo_percentAt_0 (36, .iinc 3 1, 3) (List.mem_of_getElem? (i := 22) rfl)
theorem d_Bo_percentAt_39 : decode Y_Bo_percentAt.2.1 39 = .ok (.goto (-34), 3) := D_Bo_percentAt_0 (39, .goto (-34), 3) (List.mem_of_getElem? (i := 23) rfl)
theorem d_Bo_percentAt_42 : decode Y_Bo_percentAt.2.1 42 = .ok (.iload_n 2, 1) := D_Bo_percentAt_0 (42, .iload_n 2, 1) (List.mem_of_getElem? (i := 24) rfl)
theorem d_Bo_percentAt_43 : decode Y_Bo_percentAt.2.1 43 = .ok (.ireturn, 1) := D_Bo_percentAt_0 (43, .ireturn, 1) (List.mem_of_getElem? (i := 25) rfl)
theorem D_Bi_spanAllows_0 : ∀ q ∈ ([(0, .aload_n 0, 1), (1, .getfield 24, 3), (4, .lload_n 3, 1), (5, .ladd, 1), (6, .ldc2_w 31, 3), (9, .aload_n 0, 1), (10, .invokevirtual 27, 3), (13, .lload_n 1, 1), (14, .ladd, 1), (15, .lload_n 3, 1), (16, .ladd, 1), (17, .invokestatic 36, 3), (20, .lstore 5, 2), (22, .lload 5, 2), (24, .aload_n 0, 1), (25, .getfield 44, 3), (28, .i2l, 1), (29, .lcmp, 1), (30, .ifCond .lt 18, 3), (33, .lload 5, 2), (35, .aload_n 0, 1), (36, .getfield 17, 3), (39, .i2l, 1), (40, .lcmp, 1), (41, .ifCond .gt 7, 3), (44, .iconst 1, 1), (45, .goto 4, 3), (48, .iconst 0, 1), (49, .ireturn, 1)] : List (Nat × Instr × Nat)), decode prog_2_method_6_code q.1 = .ok (q.2.1, q.2.2) := by decide +kernel
theorem d_Bi_spanAllows_0 : decode Y_Bi_spanAllows.2.1 0 = .ok (.aload_n 0, 1) := D_Bi_spanAllows_0 (0, .aload_n 0, 1) (List.mem_of_getElem? (i := 0) rfl)
theorem d_Bi_spanAllows_1 : decode Y_Bi_spanAllows.2.1 1 = .ok (.getfield 24, 3) := D_Bi_spanAllows_0 (1, .getfield 24, 3) (List.mem_of_getElem? (i := 1) rfl)
theorem d_Bi_spanAllows_4 : decode Y_Bi_spanAllows.2.1 4 = .ok (.lload_n 3, 1) := D_Bi_spanAllows_0 (4, .lload_n 3, 1) (List.mem_of_getElem? (i := 2) rfl)
theorem d_Bi_spanAllows_5 : decode Y_Bi_spanAllows.2.1 5 = .ok (.ladd, 1) := D_Bi_spanAllows_0 (5, .ladd, 1) (List.mem_of_getElem? (i := 3) rfl)
theorem d_Bi_spanAllows_6 : decode Y_Bi_spanAllows.2.1 6 = .ok (.ldc2_w 31, 3) := D_Bi_spanAllows_0 (6, .ldc2_w 31, 3) (List.mem_of_getElem? (i := 4) rfl)
theorem d_Bi_spanAllows_9 : decode Y_Bi_spanAllows.2.1 9 = .ok (.aload_n 0, 1) := D_Bi_spanAllows_0 (9, .aload_n 0, 1) (List.mem_of_getElem? (i := 5) rfl)
theorem d_Bi_spanAllows_10 : decode Y_Bi_spanAllows.2.1 10 = .ok (.invokevirtual 27, 3) := D_Bi_spanAllows_0 (10, .invokevirtual 27, 3) (List.mem_of_getElem? (i := 6) rfl)
theorem d_Bi_spanAllows_13 : decode Y_Bi_spanAllows.2.1 13 = .ok (.lload_n 1, 1) := D_Bi_spanAllows_0 (13, .lload_n 1, 1) (List.mem_of_getElem? (i := 7) rfl)
theorem d_Bi_spanAllows_14 : decode Y_Bi_spanAllows.2.1 14 = .ok (.ladd, 1) := D_Bi_spanAllows_0 (14, .ladd, 1) (List.mem_of_getElem? (i := 8) rfl)
theorem d_Bi_spanAllows_15 : decode Y_Bi_spanAllows.2.1 15 = .ok (.lload_n 3, 1) := D_Bi_spanAllows_0 (15, .lload_n 3, 1) (List.mem_of_getElem? (i := 9) rfl)
theorem d_Bi_spanAllows_16 : decode Y_Bi_spanAllows.2.1 16 = .ok (.ladd, 1) := D_Bi_spanAllows_0 (16, .ladd, 1) (List.mem_of_getElem? (i := 10) rfl)
theorem d_Bi_spanAllows_17 : decode Y_Bi_spanAllows.2.1 17 = .ok (.invokestatic 36, 3) := D_Bi_spanAllows_0 (17, .invokestatic 36, 3) (List.mem_of_getElem? (i := 11) rfl)
theorem d_Bi_spanAllows_20 : decode Y_Bi_spanAllows.2.1 20 = .ok (.lstore 5, 2) := D_Bi_spanAllows_0 (20, .lstore 5, 2) (List.mem_of_getElem? (i := 12) rfl)
theorem d_Bi_spanAllows_22 : decode Y_Bi_spanAllows.2.1 22 = .ok (.lload 5, 2) := D_Bi_spanAllows_0 (22, .lload 5, 2) (List.mem_of_getElem? (i := 13) rfl)
theorem d_Bi_spanAllows_24 : decode Y_Bi_spanAllows.2.1 24 = .ok (.aload_n 0, 1) := D_Bi_spanAllows_0 (24, .aload_n 0, 1) (List.mem_of_getElem? (i := 14) rfl)
theorem d_Bi_spanAllows_25 : decode Y_Bi_spanAllows.2.1 25 = .ok (.getfield 44, 3) := D_Bi_spanAllows_0 (25, .getfield 44, 3) (List.mem_of_getElem? (i := 15) rfl)
theorem d_Bi_spanAllows_28 : decode Y_Bi_spanAllows.2.1 28 = .ok (.i2l, 1) := D_Bi_spanAllows_0 (28, .i2l, 1) (List.mem_of_getElem? (i := 16) rfl)
theorem d_Bi_spanAllows_29 : decode Y_Bi_spanAllows.2.1 29 = .ok (.lcmp, 1) := D_Bi_spanAllows_0 (29, .lcmp, 1) (List.mem_of_getElem? (i := 17) rfl)
theorem d_Bi_spanAllows_30 : decode Y_Bi_spanAllows.2.1 30 = .ok (.ifCond .lt 18, 3) := D_Bi_spanAllows_0 (30, .ifCond .lt 18, 3) (List.mem_of_getElem? (i := 18) rfl)
theorem d_Bi_spanAllows_33 : decode Y_Bi_spanAllows.2.1 33 = .ok (.lload 5, 2) := D_Bi_spanAllows_0 (33, .lload 5, 2) (List.mem_of_getElem? (i := 19) rfl)
theorem d_Bi_spanAllows_35 : decode Y_Bi_spanAllows.2.1 35 = .ok (.aload_n 0, 1) := D_Bi_spanAllows_0 (35, .aload_n 0, 1) (List.mem_of_getElem? (i := 20) rfl)
theorem d_Bi_spanAllows_36 : decode Y_Bi_spanAllows.2.1 36 = .ok (.getfield 17, 3) := D_Bi_spanAllows_0 (36, .getfield 17, 3) (List.mem_of_getElem? (i := 21) rfl)
theorem d_Bi_spanAllows_39 : decode Y_Bi_spanAllows.2.1 39 = .ok (.i2l, 1) := D_Bi_spanAllows_0 (39, .i2l, 1) (List.mem_of_getElem? (i := 22) rfl)
theorem d_Bi_spanAllows_40 : decode Y_Bi_spanAllows.2.1 40 = .ok (.lcmp, 1) := D_Bi_spanAllows_0 (40, .lcmp, 1) (List.mem_of_getElem? (i := 23) rfl)
theorem d_Bi_spanAllows_41 : decode Y_Bi_spanAllows.2.1 41 = .ok (.ifCond .gt 7, 3) := D_Bi_spanAllows_0 (41, .ifCond .gt 7, 3) (List.mem_of_getElem? (i := 24) rfl)
theorem d_Bi_spanAllows_44 : decode Y_Bi_spanAllows.2.1 44 = .ok (.iconst 1, 1) := D_Bi_spanAllows_0 (44, .iconst 1, 1) (List.mem_of_getElem? (i := 25) rfl)
theorem d_Bi_spanAllows_45 : decode Y_Bi_spanAllows.2.1 45 = .ok (.goto 4, 3) := D_Bi_spanAllows_0 (45, .goto 4, 3) (List.mem_of_getElem? (i := 26) rfl)
theorem d_Bi_spanAllows_48 : decode Y_Bi_spanAllows.2.1 48 = .ok (.iconst 0, 1) := D_Bi_spanAllows_0 (48, .iconst 0, 1) (List.mem_of_getElem? (i := 27) rfl)
theorem d_Bi_spanAllows_49 : decode Y_Bi_spanAllows.2.1 49 = .ok (.ireturn, 1) := D_Bi_spanAllows_0 (49, .ireturn, 1) (List.mem_of_getElem? (i := 28) rfl)
end
section
theorem D_Mo_init_0 : ∀ q ∈ ([(0, .aload_n 0, 1), (1, .invokespecial 1, 3), (4, .aload_n 0, 1), (5, .iconst 2, 1), (6, .newarray .int, 2), (8, .dup, 1), (9, .iconst 0, 1), (10, .iconst 1, 1), (11, .iastore, 1), (12, .dup, 1), (13, .iconst 1, 1), (14, .iconst 1, 1), (15, .iastore, 1), (16, .putfield 7, 3), (19, .aload_n 0, 1), (20, .iconst 2, 1), (21, .newarray .int, 2), (23, .dup, 1), (24, .iconst 0, 1), (25, .bipush 10, 2), (27, .iastore, 1), (28, .dup, 1), (29, .iconst 1, 1), (30, .iconst 4, 1), (31, .iastore, 1), (32, .putfield 13, 3), (35, .aload_n 0, 1), (36, .iconst 5, 1), (37, .newarray .long, 2), (39, .putfield 16, 3), (42, .aload_n 0, 1), (43, .iconst 5, 1), (44, .newarray .long, 2), (46, .putfield 20, 3), (49, .aload_n 0, 1), (50, .bipush 8, 2), (52, .newarray .int, 2), (54, .putfield 23, 3), (57, .aload_n 0, 1), (58, .bipush 8, 2), (60, .newarray .long, 2), (62, .putfield 26, 3), (65, .aload_n 0, 1), (66, .bipush 8, 2), (68, .newarray .long, 2), (70, .putfield 29, 3), (73, .aload_n 0, 1), (74, .bipush 8, 2), (76, .newarray .long, 2), (78, .putfield 32, 3), (81, .aload_n 0, 1), (82, .bipush 8, 2), (84, .newarray .long, 2), (86, .dup, 1), (87, .iconst 0, 1), (88, .ldc2_w 35, 3), (91, .lastore, 1), (92, .dup, 1), (93, .iconst 1, 1), (94, .ldc2_w 35, 3)] : List (Nat × Instr × Nat)), decode prog_8_method_1_code q.1 = .ok (q.2.1, q.2.2) := by decide +kernel
theorem d_Mo_init_0 : decode Y_Mo_init.2.1 0 = .ok (.aload_n 0, 1) := D_Mo_init_0 (0, .aload_n 0, 1) (List.mem_of_getElem? (i := 0) rfl)
theorem d_Mo_init_1 : decode Y_Mo_init.2.1 1 = .ok (.invokespecial 1, 3) := D_Mo_init_0 (1, .invokespecial 1, 3) (List.mem_of_getElem? (i := 1) rfl)
theorem d_Mo_init_4 : decode Y_Mo_init.2.1 4 = .ok (.aload_n 0, 1) := D_Mo_init_0 (4, .aload_n 0, 1) (List.mem_of_getElem? (i := 2) rfl)
theorem d_Mo_init_5 : decode Y_Mo_init.2.1 5 = .ok (.iconst 2, 1) := D_Mo_init_0 (5, .iconst 2, 1) (List.mem_of_getElem? (i := 3) rfl)
theorem d_Mo_init_6 : decode Y_Mo_init.2.1 6 = .ok (.newarray .int, 2) := D_Mo_init_0 (6, .newarray .int, 2) (List.mem_of_getElem? (i := 4) rfl)
theorem d_Mo_init_8 : decode Y_Mo_init.2.1 8 = .ok (.dup, 1) := D_Mo_init_0 (8, .dup, 1) (List.mem_of_getElem? (i := 5) rfl)
theorem d_Mo_init_9 : decode Y_Mo_init.2.1 9 = .ok (.iconst 0, 1) := D_Mo_init_0 (9, .iconst 0, 1) (List.mem_of_getElem? (i := 6) rfl)
theorem d_Mo_init_10 : decode Y_Mo_init.2.1 10 = .ok (.iconst 1, 1) := D_Mo_init_0 (10, .iconst 1, 1) (List.mem_of_getElem? (i := 7) rfl)
theorem d_Mo_init_11 : decode Y_Mo_init.2.1 11 = .ok (.iastore, 1) := D_Mo_init_0 (11, .iastore, 1) (List.mem_of_getElem? (i := 8) rfl)
theorem d_Mo_init_12 : decode Y_Mo_init.2.1 12 = .ok (.dup, 1) := D_Mo_init_0 (12, .dup, 1) (List.mem_of_getElem? (i := 9) rfl)
theorem d_Mo_init_13 : decode Y_Mo_init.2.1 13 = .ok (.iconst 1, 1) := D_Mo_init_0 (13, .iconst 1, 1) (List.mem_of_getElem? (i := 10) rfl)
theorem d_Mo_init_14 : decode Y_Mo_init.2.1 14 = .ok (.iconst 1, 1) := D_Mo_init_0 (14, .iconst 1, 1) (List.mem_of_getElem? (i := 11) rfl)
theorem d_Mo_init_15 : decode Y_Mo_init.2.1 15 = .ok (.iastore, 1) := D_Mo_init_0 (15, .iastore, 1) (List.mem_of_getElem? (i := 12) rfl)
theorem d_Mo_init_16 : decode Y_Mo_init.2.1 16 = .ok (.putfield 7, 3) := D_Mo_init_0 (16, .putfield 7, 3) (List.mem_of_getElem? (i := 13) rfl)
theorem d_Mo_init_19 : decode Y_Mo_init.2.1 19 = .ok (.aload_n 0, 1) := D_Mo_init_0 (19, .aload_n 0, 1) (List.mem_of_getElem? (i := 14) rfl)
theorem d_Mo_init_20 : decode Y_Mo_init.2.1 20 = .ok (.iconst 2, 1) := D_Mo_init_0 (20, .iconst 2, 1) (List.mem_of_getElem? (i := 15) rfl)
theorem d_Mo_init_21 : decode Y_Mo_init.2.1 21 = .ok (.newarray .int, 2) := D_Mo_init_0 (21, .newarray .int, 2) (List.mem_of_getElem? (i := 16) rfl)
theorem d_Mo_init_23 : decode Y_Mo_init.2.1 23 = .ok (.dup, 1) := D_Mo_init_0 (23, .dup, 1) (List.mem_of_getElem? (i := 17) rfl)
theorem d_Mo_init_24 : decode Y_Mo_init.2.1 24 = .ok (.iconst 0, 1) := D_Mo_init_0 (24, .iconst 0, 1) (List.mem_of_getElem? (i := 18) rfl)
theorem d_Mo_init_25 : decode Y_Mo_init.2.1 25 = .ok (.bipush 10, 2) := D_Mo_init_0 (25, .bipush 10, 2) (List.mem_of_getElem? (i := 19) rfl)
theorem d_Mo_init_27 : decode Y_Mo_init.2.1 27 = .ok (.iastore, 1) := D_Mo_init_0 (27, .iastore, 1) (List.mem_of_getElem? (i := 20) rfl)
theorem d_Mo_init_28 : decode Y_Mo_init.2.1 28 = .ok (.dup, 1) := D_Mo_init_0 (28, .dup, 1) (List.mem_of_getElem? (i := 21) rfl)
theorem d_Mo_init_29 : decode Y_Mo_init.2.1 29 = .ok (.iconst 1, 1) := D_Mo_init_0 (29, .iconst 1, 1) (List.mem_of_getElem? (i := 22) rfl)
theorem d_Mo_init_30 : decode Y_Mo_init.2.1 30 = .ok (.iconst 4, 1) := D_Mo_init_0 (30, .iconst 4, 1) (List.mem_of_getElem? (i := 23) rfl)
theorem d_Mo_init_31 : decode Y_Mo_init.2.1 31 = .ok (.iastore, 1) := D_Mo_init_0 (31, .iastore, 1) (List.mem_of_getElem? (i := 24) rfl)
theorem d_Mo_init_32 : decode Y_Mo_init.2.1 32 = .ok (.putfield 13, 3) := D_Mo_init_0 (32, .putfield 13, 3) (List.mem_of_getElem? (i := 25) rfl)
theorem d_Mo_init_35 : decode Y_Mo_init.2.1 35 = .ok (.aload_n 0, 1) := D_Mo_init_0 (35, .aload_n 0, 1) (List.mem_of_getElem? (i := 26) rfl)
theorem d_Mo_init_36 : decode Y_Mo_init.2.1 36 = .ok (.iconst 5, 1) := D_Mo_init_0 (36, .iconst 5, 1) (List.mem_of_getElem? (i := 27) rfl)
theorem d_Mo_init_37 : decode Y_Mo_init.2.1 37 = .ok (.newarray .long, 2) := D_Mo_init_0 (37, .newarray .long, 2) (List.mem_of_getElem? (i := 28) rfl)
theorem d_Mo_init_39 : decode Y_Mo_init.2.1 39 = .ok (.putfield 16, 3) := D_Mo_init_0 (39, .putfield 16, 3) (List.mem_of_getElem? (i := 29) rfl)
theorem d_Mo_init_42 : decode Y_Mo_init.2.1 42 = .ok (.aload_n 0, 1) := D_Mo_init_0 (42, .aload_n 0, 1) (List.mem_of_getElem? (i := 30) rfl)
theorem d_Mo_init_43 : decode Y_Mo_init.2.1 43 = .ok (.iconst 5, 1) := D_Mo_init_0 (43, .iconst 5, 1) (List.mem_of_getElem? (i := 31) rfl)
theorem d_Mo_init_44 : decode Y_Mo_init.2.1 44 = .ok (.newarray .long, 2) := D_Mo_init_0 (44, .newarray .long, 2) (List.mem_of_getElem? (i := 32) rfl)
theorem d_Mo_init_46 : decode Y_Mo_init.2.1 46 = .ok (.putfield 20, 3) := D_Mo_init_0 (46, .putfield 20, 3) (List.mem_of_getElem? (i := 33) rfl)
theorem d_Mo_init_49 : decode Y_Mo_init.2.1 49 = .ok (.aload_n 0, 1) := D_Mo_init_0 (49, .aload_n 0, 1) (List.mem_of_getElem? (i := 34) rfl)
theorem d_Mo_init_50 : decode Y_Mo_init.2.1 50 = .ok (.bipush 8, 2) := D_Mo_init_0 (50, .bipush 8, 2) (List.mem_of_getElem? (i := 35) rfl)
theorem d_Mo_init_52 : decode Y_Mo_init.2.1 52 = .ok (.newarray .int, 2) := D_Mo_init_0 (52, .newarray .int, 2) (List.mem_of_getElem? (i := 36) rfl)
theorem d_Mo_init_54 : decode Y_Mo_init.2.1 54 = .ok (.putfield 23, 3) := D_Mo_init_0 (54, .putfield 23, 3) (List.mem_of_getElem? (i := 37) rfl)
theorem d_Mo_init_57 : decode Y_Mo_init.2.1 57 = .ok (.aload_n 0, 1) := D_Mo_init_0 (57, .aload_n 0, 1) (List.mem_of_getElem? (i := 38) rfl)
theorem d_Mo_init_58 : decode Y_Mo_init.2.1 58 = .ok (.bipush 8, 2) := D_Mo_init_0 (58, .bipush 8, 2) (List.mem_of_getElem? (i := 39) rfl)
theorem d_Mo_init_60 : decode Y_Mo_init.2.1 60 = .ok (.newarray .long, 2) := D_Mo_init_0 (60, .newarray .long, 2) (List.mem_of_getElem? (i := 40) rfl)
theorem d_Mo_init_62 : decode Y_Mo_init.2.1 62 = .ok (.putfield 26, 3) := D_Mo_init_0 (62, .putfield 26, 3) (List.mem_of_getElem? (i := 41) rfl)
theorem d_Mo_init_65 : decode Y_Mo_init.2.1 65 = .ok (.aload_n 0, 1) := D_Mo_init_0 (65, .aload_n 0, 1) (List.mem_of_getElem? (i := 42) rfl)
theorem d_Mo_init_66 : decode Y_Mo_init.2.1 66 = .ok (.bipush 8, 2) := D_Mo_init_0 (66, .bipush 8, 2) (List.mem_of_getElem? (i := 43) rfl)
theorem d_Mo_init_68 : decode Y_Mo_init.2.1 68 = .ok (.newarray .long, 2) := D_Mo_init_0 (68, .newarray .long, 2) (List.mem_of_getElem? (i := 44) rfl)
theorem d_Mo_init_70 : decode Y_Mo_init.2.1 70 = .ok (.putfield 29, 3) := D_Mo_init_0 (70, .putfield 29, 3) (List.mem_of_getElem? (i := 45) rfl)
theorem d_Mo_init_73 : decode Y_Mo_init.2.1 73 = .ok (.aload_n 0, 1) := D_Mo_init_0 (73, .aload_n 0, 1) (List.mem_of_getElem? (i := 46) rfl)
theorem d_Mo_init_74 : decode Y_Mo_init.2.1 74 = .ok (.bipush 8, 2) := D_Mo_init_0 (74, .bipush 8, 2) (List.mem_of_getElem? (i := 47) rfl)
theorem d_Mo_init_76 : decode Y_Mo_init.2.1 76 = .ok (.newarray .long, 2) := D_Mo_init_0 (76, .newarray .long, 2) (List.mem_of_getElem? (i := 48) rfl)
theorem d_Mo_init_78 : decode Y_Mo_init.2.1 78 = .ok (.putfield 32, 3) := D_Mo_init_0 (78, .putfield 32, 3) (List.mem_of_getElem? (i := 49) rfl)
theorem d_Mo_init_81 : decode Y_Mo_init.2.1 81 = .ok (.aload_n 0, 1) := D_Mo_init_0 (81, .aload_n 0, 1) (List.mem_of_getElem? (i := 50) rfl)
theorem d_Mo_init_82 : decode Y_Mo_init.2.1 82 = .ok (.bipush 8, 2) := D_Mo_init_0 (82, .bipush 8, 2) (List.mem_of_getElem? (i := 51) rfl)
theorem d_Mo_init_84 : decode Y_Mo_init.2.1 84 = .ok (.newarray .long, 2) := D_Mo_init_0 (84, .newarray .long, 2) (List.mem_of_getElem? (i := 52) rfl)
theorem d_Mo_init_86 : decode Y_Mo_init.2.1 86 = .ok (.dup, 1) := D_Mo_init_0 (86, .dup, 1) (List.mem_of_getElem? (i := 53) rfl)
theorem d_Mo_init_87 : decode Y_Mo_init.2.1 87 = .ok (.iconst 0, 1) := D_Mo_init_0 (87, .iconst 0, 1) (List.mem_of_getElem? (i := 54) rfl)
theorem d_Mo_init_88 : decode Y_Mo_init.2.1 88 = .ok (.ldc2_w 35, 3) := D_Mo_init_0 (88, .ldc2_w 35, 3) (List.mem_of_getElem? (i := 55) rfl)
theorem d_Mo_init_91 : decode Y_Mo_init.2.1 91 = .ok (.lastore, 1) := D_Mo_init_0 (91, .lastore, 1) (List.mem_of_getElem? (i := 56) rfl)
theorem d_Mo_init_92 : decode Y_Mo_init.2.1 92 = .ok (.dup, 1) := D_Mo_init_0 (92, .dup, 1) (List.mem_of_getElem? (i := 57) rfl)
theorem d_Mo_init_93 : decode Y_Mo_init.2.1 93 = .ok (.iconst 1, 1) := D_Mo_init_0 (93, .iconst 1, 1) (List.mem_of_getElem? (i := 58) rfl)
theorem d_Mo_init_94 : decode Y_Mo_init.2.1 94 = .ok (.ldc2_w 35, 3) := D_Mo_init_0 (94, .ldc2_w 35, 3) (List.mem_of_getElem? (i := 59) rfl)
theorem D_Mo_init_1 : ∀ q ∈ ([(97, .lastore, 1), (98, .dup, 1), (99, .iconst 2, 1), (100, .ldc2_w 35, 3), (103, .lastore, 1), (104, .dup, 1), (105, .iconst 3, 1), (106, .ldc2_w 35, 3), (109, .lastore, 1), (110, .dup, 1), (111, .iconst 4, 1), (112, .ldc2_w 35, 3), (115, .lastore, 1), (116, .dup, 1), (117, .iconst 5, 1), (118, .ldc2_w 35, 3), (121, .lastore, 1), (122, .dup, 1), (123, .bipush 6, 2), (125, .ldc2_w 35, 3), (128, .lastore, 1), (129, .dup, 1), (130, .bipush 7, 2), (132, .ldc2_w 35, 3), (135, .lastore, 1), (136, .putfield 37, 3), (139, .aload_n 0, 1), (140, .bipush 8, 2), (142, .newarray .int, 2), (144, .putfield 40, 3), (147, .aload_n 0, 1), (148, .bipush 8, 2), (150, .newarray .int, 2), (152, .dup, 1), (153, .iconst 0, 1), (154, .sipush 1000, 3), (157, .iastore, 1), (158, .dup, 1), (159, .iconst 1, 1), (160, .sipush 1000, 3), (163, .iastore, 1), (164, .dup, 1), (165, .iconst 2, 1), (166, .sipush 1000, 3), (169, .iastore, 1), (170, .dup, 1), (171, .iconst 3, 1), (172, .sipush 1000, 3), (175, .iastore, 1), (176, .dup, 1), (177, .iconst 4, 1), (178, .sipush 1000, 3), (181, .iastore, 1), (182, .dup, 1), (183, .iconst 5, 1), (184, .sipush 1000, 3), (187, .iastore, 1), (188, .dup, 1), (189, .bipush 6, 2), (191, .sipush 1000, 3)] : List (Nat × Instr × Nat)), decode prog_8_method_1_code q.1 = .ok (q.2.1, q.2.2) := by decide +kernel
theorem d_Mo_init_97 : decode Y_Mo_init.2.1 97 = .ok (.lastore, 1) := D_Mo_init_1 (97, .lastore, 1) (List.mem_of_getElem? (i := 0) rfl)
theorem d_Mo_init_98 : decode Y_Mo_init.2.1 98 = .ok (.dup, 1) := D_Mo_init_1 (98, .dup, 1) (List.mem_of_getElem? (i := 1) rfl)
theorem d_Mo_init_99 : decode Y_Mo_init.2.1 99 = .ok (.iconst 2, 1) := D_Mo_init_1 (99, .iconst 2, 1) (List.mem_of_getElem? (i := 2) rfl)
theorem d_Mo_init_100 : decode Y_Mo_init.2.1 100 = .ok (.ldc2_w 35, 3) := D_Mo_init_1 (100, .ldc2_w 35, 3) (List.mem_of_getElem? (i := 3) rfl)
theorem d_Mo_init_103 : decode Y_Mo_init.2.1 103 = .ok (.lastore, 1) := D_Mo_init_1 (103, .lastore, 1) (List.mem_of_getElem? (i := 4) rfl)
theorem d_Mo_init_104 : decode Y_Mo_init.2.1 104 = .ok (.dup, 1) := D_Mo_init_1 (104, .dup, 1) (List.mem_of_getElem? (i := 5) rfl)
theorem d_Mo_init_105 : decode Y_Mo_init.2.1 105 = .ok (.iconst 3, 1) := D_Mo_init_1 (105, .iconst 3, 1) (List.mem_of_getElem? (i := 6) rfl)
theorem d_Mo_init_106 : decode Y_Mo_init.2.1 106 = .ok (.ldc2_w 35, 3) := D_Mo_init_1 (106, .ldc2_w 35, 3) (List.mem_of_getElem? (i := 7) rfl)
theorem d_Mo_init_109 : decode Y_Mo_init.2.1 109 = .ok (.lastore, 1) := D_Mo_init_1 (109, .lastore, 1) (List.mem_of_getElem? (i := 8) rfl)
theorem d_Mo_init_110 : decode Y_Mo_init.2.1 110 = .ok (.dup, 1) := D_Mo_init_1 (110, .dup, 1) (List.mem_of_getElem? (i := 9) rfl)
theorem d_Mo_init_111 : decode Y_Mo_init.2.1 111 = .ok (.iconst 4, 1) := D_Mo_init_1 (111, .iconst 4, 1) (List.mem_of_getElem? (i := 10) rfl)
theorem d_Mo_init_112 : decode Y_Mo_init.2.1 112 = .ok (.ldc2_w 35, 3) := D_Mo_init_1 (112, .ldc2_w 35, 3) (List.mem_of_getElem? (i := 11) rfl)
theorem d_Mo_init_115 : decode Y_Mo_init.2.1 115 = .ok (.lastore, 1) := D_Mo_init_1 (115, .lastore, 1) (List.mem_of_getElem? (i := 12) rfl)
theorem d_Mo_init_116 : decode Y_Mo_init.2.1 116 = .ok (.dup, 1) := D_Mo_init_1 (116, .dup, 1) (List.mem_of_getElem? (i := 13) rfl)
theorem d_Mo_init_117 : decode Y_Mo_init.2.1 117 = .ok (.iconst 5, 1) := D_Mo_init_1 (117, .iconst 5, 1) (List.mem_of_getElem? (i := 14) rfl)
theorem d_Mo_init_118 : decode Y_Mo_init.2.1 118 = .ok (.ldc2_w 35, 3) := D_Mo_init_1 (118, .ldc2_w 35, 3) (List.mem_of_getElem? (i := 15) rfl)
theorem d_Mo_init_121 : decode Y_Mo_init.2.1 121 = .ok (.lastore, 1) := D_Mo_init_1 (121, .lastore, 1) (List.mem_of_getElem? (i := 16) rfl)
theorem d_Mo_init_122 : decode Y_Mo_init.2.1 122 = .ok (.dup, 1) := D_Mo_init_1 (122, .dup, 1) (List.mem_of_getElem? (i := 17) rfl)
theorem d_Mo_init_123 : decode Y_Mo_init.2.1 123 = .ok (.bipush 6, 2) := D_Mo_init_1 (123, .bipush 6, 2) (List.mem_of_getElem? (i := 18) rfl)
theorem d_Mo_init_125 : decode Y_Mo_init.2.1 125 = .ok (.ldc2_w 35, 3) := D_Mo_init_1 (125, .ldc2_w 35, 3) (List.mem_of_getElem? (i := 19) rfl)
theorem d_Mo_init_128 : decode Y_Mo_init.2.1 128 = .ok (.lastore, 1) := D_Mo_init_1 (128, .lastore, 1) (List.mem_of_getElem? (i := 20) rfl)
theorem d_Mo_init_129 : decode Y_Mo_init.2.1 129 = .ok (.dup, 1) := D_Mo_init_1 (129, .dup, 1) (List.mem_of_getElem? (i := 21) rfl)
theorem d_Mo_init_130 : decode Y_Mo_init.2.1 130 = .ok (.bipush 7, 2) := D_Mo_init_1 (130, .bipush 7, 2) (List.mem_of_getElem? (i := 22) rfl)
theorem d_Mo_init_132 : decode Y_Mo_init.2.1 132 = .ok (.ldc2_w 35, 3) := D_Mo_init_1 (132, .ldc2_w 35, 3) (List.mem_of_getElem? (i := 23) rfl)
theorem d_Mo_init_135 : decode Y_Mo_init.2.1 135 = .ok (.lastore, 1) := D_Mo_init_1 (135, .lastore, 1) (List.mem_of_getElem? (i := 24) rfl)
theorem d_Mo_init_136 : decode Y_Mo_init.2.1 136 = .ok (.putfield 37, 3) := D_Mo_init_1 (136, .putfield 37, 3) (List.mem_of_getElem? (i := 25) rfl)
theorem d_Mo_init_139 : decode Y_Mo_init.2.1 139 = .ok (.aload_n 0, 1) := D_Mo_init_1 (139, .aload_n 0, 1) (List.mem_of_getElem? (i := 26) rfl)
theorem d_Mo_init_140 : decode Y_Mo_init.2.1 140 = .ok (.bipush 8, 2) := D_Mo_init_1 (140, .bipush 8, 2) (List.mem_of_getElem? (i := 27) rfl)
theorem d_Mo_init_142 : decode Y_Mo_init.2.1 142 = .ok (.newarray .int, 2) := D_Mo_init_1 (142, .newarray .int, 2) (List.mem_of_getElem? (i := 28) rfl)
theorem d_Mo_init_144 : decode Y_Mo_init.2.1 144 = .ok (.putfield 40, 3) := D_Mo_init_1 (144, .putfield 40, 3) (List.mem_of_getElem? (i := 29) rfl)
theorem d_Mo_init_147 : decode Y_Mo_init.2.1 147 = .ok (.aload_n 0, 1) := D_Mo_init_1 (147, .aload_n 0, 1) (List.mem_of_getElem? (i := 30) rfl)
theorem d_Mo_init_148 : decode Y_Mo_init.2.1 148 = .ok (.bipush 8, 2) := D_Mo_init_1 (148, .bipush 8, 2) (List.mem_of_getElem? (i := 31) rfl)
theorem d_Mo_init_150 : decode Y_Mo_init.2.1 150 = .ok (.newarray .int, 2) := D_Mo_init_1 (150, .newarray .int, 2) (List.mem_of_getElem? (i := 32) rfl)
theorem d_Mo_init_152 : decode Y_Mo_init.2.1 152 = .ok (.dup, 1) := D_Mo_init_1 (152, .dup, 1) (List.mem_of_getElem? (i := 33) rfl)
theorem d_Mo_init_153 : decode Y_Mo_init.2.1 153 = .ok (.iconst 0, 1) := D_Mo_init_1 (153, .iconst 0, 1) (List.mem_of_getElem? (i := 34) rfl)
theorem d_Mo_init_154 : decode Y_Mo_init.2.1 154 = .ok (.sipush 1000, 3) := D_Mo_init_1 (154, .sipush 1000, 3) (List.mem_of_getElem? (i := 35) rfl)
theorem d_Mo_init_157 : decode Y_Mo_init.2.1 157 = .ok (.iastore, 1) := D_Mo_init_1 (157, .iastore, 1) (List.mem_of_getElem? (i := 36) rfl)
theorem d_Mo_init_158 : decode Y_Mo_init.2.1 158 = .ok (.dup, 1) := D_Mo_init_1 (158, .dup, 1) (List.mem_of_getElem? (i := 37) rfl)
theorem d_Mo_init_159 : decode Y_Mo_init.2.1 159 = .ok (.iconst 1, 1) := D_Mo_init_1 (159, .iconst 1, 1) (List.mem_of_getElem? (i := 38) rfl)
theorem d_Mo_init_160 : decode Y_Mo_init.2.1 160 = .ok (.sipush 1000, 3) := D_Mo_init_1 (160, .sipush 1000, 3) (List.mem_of_getElem? (i := 39) rfl)
theorem d_Mo_init_163 : decode Y_Mo_init.2.1 163 = .ok (.iastore, 1) := D_Mo_init_1 (163, .iastore, 1) (List.mem_of_getElem? (i := 40) rfl)
theorem d_Mo_init_164 : decode Y_Mo_init.2.1 164 = .ok (.dup, 1) := D_Mo_init_1 (164, .dup, 1) (List.mem_of_getElem? (i := 41) rfl)
theorem d_Mo_init_165 : decode Y_Mo_init.2.1 165 = .ok (.iconst 2, 1) := D_Mo_init_1 (165, .iconst 2, 1) (List.mem_of_getElem? (i := 42) rfl)
theorem d_Mo_init_166 : decode Y_Mo_init.2.1 166 = .ok (.sipush 1000, 3) := D_Mo_init_1 (166, .sipush 1000, 3) (List.mem_of_getElem? (i := 43) rfl)
theorem d_Mo_init_169 : decode Y_Mo_init.2.1 169 = .ok (.iastore, 1) := D_Mo_init_1 (169, .iastore, 1) (List.mem_of_getElem? (i := 44) rfl)
theorem d_Mo_init_170 : decode Y_Mo_init.2.1 170 = .ok (.dup, 1) := D_Mo_init_1 (170, .dup, 1) (List.mem_of_getElem? (i := 45) rfl)
theorem d_Mo_init_171 : decode Y_Mo_init.2.1 171 = .ok (.iconst 3, 1) := D_Mo_init_1 (171, .iconst 3, 1) (List.mem_of_getElem? (i := 46) rfl)
theorem d_Mo_init_172 : decode Y_Mo_init.2.1 172 = .ok (.sipush 1000, 3) := D_Mo_init_1 (172, .sipush 1000, 3) (List.mem_of_getElem? (i := 47) rfl)
theorem d_Mo_init_175 : decode Y_Mo_init.2.1 175 = .ok (.iastore, 1) := D_Mo_init_1 (175, .iastore, 1) (List.mem_of_getElem? (i := 48) rfl)
theorem d_Mo_init_176 : decode Y_Mo_init.2.1 176 = .ok (.dup, 1) := D_Mo_init_1 (176, .dup, 1) (List.mem_of_getElem? (i := 49) rfl)
theorem d_Mo_init_177 : decode Y_Mo_init.2.1 177 = .ok (.iconst 4, 1) := D_Mo_init_1 (177, .iconst 4, 1) (List.mem_of_getElem? (i := 50) rfl)
theorem d_Mo_init_178 : decode Y_Mo_init.2.1 178 = .ok (.sipush 1000, 3) := D_Mo_init_1 (178, .sipush 1000, 3) (List.mem_of_getElem? (i := 51) rfl)
theorem d_Mo_init_181 : decode Y_Mo_init.2.1 181 = .ok (.iastore, 1) := D_Mo_init_1 (181, .iastore, 1) (List.mem_of_getElem? (i := 52) rfl)
theorem d_Mo_init_182 : decode Y_Mo_init.2.1 182 = .ok (.dup, 1) := D_Mo_init_1 (182, .dup, 1) (List.mem_of_getElem? (i := 53) rfl)
theorem d_Mo_init_183 : decode Y_Mo_init.2.1 183 = .ok (.iconst 5, 1) := D_Mo_init_1 (183, .iconst 5, 1) (List.mem_of_getElem? (i := 54) rfl)
theorem d_Mo_init_184 : decode Y_Mo_init.2.1 184 = .ok (.sipush 1000, 3) := D_Mo_init_1 (184, .sipush 1000, 3) (List.mem_of_getElem? (i := 55) rfl)
theorem d_Mo_init_187 : decode Y_Mo_init.2.1 187 = .ok (.iastore, 1) := D_Mo_init_1 (187, .iastore, 1) (List.mem_of_getElem? (i := 56) rfl)
theorem d_Mo_init_188 : decode Y_Mo_init.2.1 188 = .ok (.dup, 1) := D_Mo_init_1 (188, .dup, 1) (List.mem_of_getElem? (i := 57) rfl)
theorem d_Mo_init_189 : decode Y_Mo_init.2.1 189 = .ok (.bipush 6, 2) := D_Mo_init_1 (189, .bipush 6, 2) (List.mem_of_getElem? (i := 58) rfl)
theorem d_Mo_init_191 : decode Y_Mo_init.2.1 191 = .ok (.sipush 1000, 3) := D_Mo_init_1 (191, .sipush 1000, 3) (List.mem_of_getElem? (i := 59) rfl)
theorem D_Mo_init_2 : ∀ q ∈ ([(194, .iastore, 1), (195, .dup, 1), (196, .bipush 7, 2), (198, .sipush 1000, 3), (201, .iastore, 1), (202, .putfield 43, 3), (205, .aload_n 0, 1), (206, .iconst 4, 1), (207, .newarray .boolean, 2), (209, .putfield 46, 3), (212, .aload_n 0, 1), (213, .bipush 12, 2), (215, .newarray .int, 2), (217, .putfield 50, 3), (220, .aload_n 0, 1), (221, .bipush 12, 2), (223, .newarray .int, 2), (225, .putfield 53, 3), (228, .aload_n 0, 1), (229, .bipush 8, 2), (231, .newarray .int, 2), (233, .putfield 56, 3), (236, .aload_n 0, 1), (237, .bipush 8, 2), (239, .newarray .int, 2), (241, .putfield 59, 3), (244, .return_, 1)] : List (Nat × Instr × Nat)), decode prog_8_method_1_code q.1 = .ok (q.2.1, q.2.2) := by decide +kernel
theorem d_Mo_init_194 : decode Y_Mo_init.2.1 194 = .ok (.iastore, 1) := D_Mo_init_2 (194, .iastore, 1) (List.mem_of_getElem? (i := 0) rfl)
theorem d_Mo_init_195 : decode Y_Mo_init.2.1 195 = .ok (.dup, 1) := D_Mo_init_2 (195, .dup, 1) (List.mem_of_getElem? (i := 1) rfl)
theorem d_Mo_init_196 : decode Y_Mo_init.2.1 196 = .ok (.bipush 7, 2) := D_Mo_init_2 (196, .bipush 7, 2) (List.mem_of_getElem? (i := 2) rfl)
theorem d_Mo_init_198 : decode Y_Mo_init.2.1 198 = .ok (.sipush 1000, 3) := D_Mo_init_2 (198, .sipush 1000, 3) (List.mem_of_getElem? (i := 3) rfl)
theorem d_Mo_init_201 : decode Y_Mo_init.2.1 201 = .ok (.iastore, 1) := D_Mo_init_2 (201, .iastore, 1) (List.mem_of_getElem? (i := 4) rfl)
theorem d_Mo_init_202 : decode Y_Mo_init.2.1 202 = .ok (.putfield 43, 3) := D_Mo_init_2 (202, .putfield 43, 3) (List.mem_of_getElem? (i := 5) rfl)
theorem d_Mo_init_205 : decode Y_Mo_init.2.1 205 = .ok (.aload_n 0, 1) := D_Mo_init_2 (205, .aload_n 0, 1) (List.mem_of_getElem? (i := 6) rfl)
theorem d_Mo_init_206 : decode Y_Mo_init.2.1 206 = .ok (.iconst 4, 1) := D_Mo_init_2 (206, .iconst 4, 1) (List.mem_of_getElem? (i := 7) rfl)
theorem d_Mo_init_207 : decode Y_Mo_init.2.1 207 = .ok (.newarray .boolean, 2) := D_Mo_init_2 (207, .newarray .boolean, 2) (List.mem_of_getElem? (i := 8) rfl)
theorem d_Mo_init_209 : decode Y_Mo_init.2.1 209 = .ok (.putfield 46, 3) := D_Mo_init_2 (209, .putfield 46, 3) (List.mem_of_getElem? (i := 9) rfl)
theorem d_Mo_init_212 : decode Y_Mo_init.2.1 212 = .ok (.aload_n 0, 1) := D_Mo_init_2 (212, .aload_n 0, 1) (List.mem_of_getElem? (i := 10) rfl)
theorem d_Mo_init_213 : decode Y_Mo_init.2.1 213 = .ok (.bipush 12, 2) := D_Mo_init_2 (213, .bipush 12, 2) (List.mem_of_getElem? (i := 11) rfl)
theorem d_Mo_init_215 : decode Y_Mo_init.2.1 215 = .ok (.newarray .int, 2) := D_Mo_init_2 (215, .newarray .int, 2) (List.mem_of_getElem? (i := 12) rfl)
theorem d_Mo_init_217 : decode Y_Mo_init.2.1 217 = .ok (.putfield 50, 3) := D_Mo_init_2 (217, .putfield 50, 3) (List.mem_of_getElem? (i := 13) rfl)
theorem d_Mo_init_220 : decode Y_Mo_init.2.1 220 = .ok (.aload_n 0, 1) := D_Mo_init_2 (220, .aload_n 0, 1) (List.mem_of_getElem? (i := 14) rfl)
theorem d_Mo_init_221 : decode Y_Mo_init.2.1 221 = .ok (.bipush 12, 2) := D_Mo_init_2 (221, .bipush 12, 2) (List.mem_of_getElem? (i := 15) rfl)
theorem d_Mo_init_223 : decode Y_Mo_init.2.1 223 = .ok (.newarray .int, 2) := D_Mo_init_2 (223, .newarray .int, 2) (List.mem_of_getElem? (i := 16) rfl)
theorem d_Mo_init_225 : decode Y_Mo_init.2.1 225 = .ok (.putfield 53, 3) := D_Mo_init_2 (225, .putfield 53, 3) (List.mem_of_getElem? (i := 17) rfl)
theorem d_Mo_init_228 : decode Y_Mo_init.2.1 228 = .ok (.aload_n 0, 1) := D_Mo_init_2 (228, .aload_n 0, 1) (List.mem_of_getElem? (i := 18) rfl)
theorem d_Mo_init_229 : decode Y_Mo_init.2.1 229 = .ok (.bipush 8, 2) := D_Mo_init_2 (229, .bipush 8, 2) (List.mem_of_getElem? (i := 19) rfl)
theorem d_Mo_init_231 : decode Y_Mo_init.2.1 231 = .ok (.newarray .int, 2) := D_Mo_init_2 (231, .newarray .int, 2) (List.mem_of_getElem? (i := 20) rfl)
theorem d_Mo_init_233 : decode Y_Mo_init.2.1 233 = .ok (.putfield 56, 3) := D_Mo_init_2 (233, .putfield 56, 3) (List.mem_of_getElem? (i := 21) rfl)
theorem d_Mo_init_236 : decode Y_Mo_init.2.1 236 = .ok (.aload_n 0, 1) := D_Mo_init_2 (236, .aload_n 0, 1) (List.mem_of_getElem? (i := 22) rfl)
theorem d_Mo_init_237 : decode Y_Mo_init.2.1 237 = .ok (.bipush 8, 2) := D_Mo_init_2 (237, .bipush 8, 2) (List.mem_of_getElem? (i := 23) rfl)
theorem d_Mo_init_239 : decode Y_Mo_init.2.1 239 = .ok (.newarray .int, 2) := D_Mo_init_2 (239, .newarray .int, 2) (List.mem_of_getElem? (i := 24) rfl)
theorem d_Mo_init_241 : decode Y_Mo_init.2.1 241 = .ok (.putfield 59, 3) := D_Mo_init_2 (241, .putfield 59, 3) (List.mem_of_getElem? (i := 25) rfl)
theorem d_Mo_init_244 : decode Y_Mo_init.2.1 244 = .ok (.return_, 1) := D_Mo_init_2 (244, .return_, 1) (List.mem_of_getElem? (i := 26) rfl)
theorem D_Mo_thrown_0 : ∀ q ∈ ([(0, .aload_n 0, 1), (1, .getfield 62, 3), (4, .ireturn, 1)] : List (Nat × Instr × Nat)), decode prog_8_method_2_code q.1 = .ok (q.2.1, q.2.2) := by decide +kernel
theorem d_Mo_thrown_0 : decode Y_Mo_thrown.2.1 0 = .ok (.aload_n 0, 1) := D_Mo_thrown_0 (0, .aload_n 0, 1) (List.mem_of_getElem? (i := 0) rfl)
theorem d_Mo_thrown_1 : decode Y_Mo_thrown.2.1 1 = .ok (.getfield 62, 3) := D_Mo_thrown_0 (1, .getfield 62, 3) (List.mem_of_getElem? (i := 1) rfl)
theorem d_Mo_thrown_4 : decode Y_Mo_thrown.2.1 4 = .ok (.ireturn, 1) := D_Mo_thrown_0 (4, .ireturn, 1) (List.mem_of_getElem? (i := 2) rfl)
theorem D_Mo_share_0 : ∀ q ∈ ([(0, .aload_n 0, 1), (1, .iload_n 1, 1), (2, .ifCond .lt 8, 3), (5, .iload_n 1, 1), (6, .iconst 1, 1), (7, .if_icmp .le 7, 3), (10, .iconst 1, 1), (11, .goto 31, 3), (14, .iload_n 3, 1), (15, .i2l, 1), (16, .lconst 1, 1), (17, .ldc2_w 69, 3), (20, .invokestatic 71, 3), (23, .ifCond .eq 18, 3), (26, .iload_n 2, 1), (27, .i2l, 1), (28, .lconst 0, 1), (29, .iload_n 3, 1), (30, .i2l, 1), (31, .invokestatic 71, 3), (34, .ifCond .eq 7, 3), (37, .iconst 0, 1), (38, .goto 4, 3), (41, .iconst 2, 1), (42, .putfield 62, 3), (45, .aload_n 0, 1), (46, .getfield 62, 3), (49, .ifCond .ne 17, 3), (52, .aload_n 0, 1), (53, .getfield 7, 3), (56, .iload_n 1, 1), (57, .iload_n 2, 1), (58, .iastore, 1), (59, .aload_n 0, 1), (60, .getfield 13, 3), (63, .iload_n 1, 1), (64, .iload_n 3, 1), (65, .iastore, 1), (66, .return_, 1)] : List (Nat × Instr × Nat)), decode prog_8_method_5_code q.1 = .ok (q.2.1, q.2.2) := by decide +kernel
theorem d_Mo_share_0 : decode Y_Mo_share.2.1 0 = .ok (.aload_n 0, 1) := D_Mo_share_0 (0, .aload_n 0, 1) (List.mem_of_getElem? (i := 0) rfl)
theorem d_Mo_share_1 : decode Y_Mo_share.2.1 1 = .ok (.iload_n 1, 1) := D_Mo_share_0 (1, .iload_n 1, 1) (List.mem_of_getElem? (i := 1) rfl)
theorem d_Mo_share_2 : decode Y_Mo_share.2.1 2 = .ok (.ifCond .lt 8, 3) := D_Mo_share_0 (2, .ifCond .lt 8, 3) (List.mem_of_getElem? (i := 2) rfl)
theorem d_Mo_share_5 : decode Y_Mo_share.2.1 5 = .ok (.iload_n 1, 1) := D_Mo_share_0 (5, .iload_n 1, 1) (List.mem_of_getElem? (i := 3) rfl)
theorem d_Mo_share_6 : decode Y_Mo_share.2.1 6 = .ok (.iconst 1, 1) := D_Mo_share_0 (6, .iconst 1, 1) (List.mem_of_getElem? (i := 4) rfl)
theorem d_Mo_share_7 : decode Y_Mo_share.2.1 7 = .ok (.if_icmp .le 7, 3) := D_Mo_share_0 (7, .if_icmp .le 7, 3) (List.mem_of_getElem? (i := 5) rfl)
theorem d_Mo_share_10 : decode Y_Mo_share.2.1 10 = .ok (.iconst 1, 1) := D_Mo_share_0 (10, .iconst 1, 1) (List.mem_of_getElem? (i := 6) rfl)
theorem d_Mo_share_11 : decode Y_Mo_share.2.1 11 = .ok (.goto 31, 3) := D_Mo_share_0 (11, .goto 31, 3) (List.mem_of_getElem? (i := 7) rfl)
theorem d_Mo_share_14 : decode Y_Mo_share.2.1 14 = .ok (.iload_n 3, 1) := D_Mo_share_0 (14, .iload_n 3, 1) (List.mem_of_getElem? (i := 8) rfl)
theorem d_Mo_share_15 : decode Y_Mo_share.2.1 15 = .ok (.i2l, 1) := D_Mo_share_0 (15, .i2l, 1) (List.mem_of_getElem? (i := 9) rfl)
theorem d_Mo_share_16 : decode Y_Mo_share.2.1 16 = .ok (.lconst 1, 1) := D_Mo_share_0 (16, .lconst 1, 1) (List.mem_of_getElem? (i := 10) rfl)
theorem d_Mo_share_17 : decode Y_Mo_share.2.1 17 = .ok (.ldc2_w 69, 3) := D_Mo_share_0 (17, .ldc2_w 69, 3) (List.mem_of_getElem? (i := 11) rfl)
theorem d_Mo_share_20 : decode Y_Mo_share.2.1 20 = .ok (.invokestatic 71, 3) := D_Mo_share_0 (20, .invokestatic 71, 3) (List.mem_of_getElem? (i := 12) rfl)
theorem d_Mo_share_23 : decode Y_Mo_share.2.1 23 = .ok (.ifCond .eq 18, 3) := D_Mo_share_0 (23, .ifCond .eq 18, 3) (List.mem_of_getElem? (i := 13) rfl)
theorem d_Mo_share_26 : decode Y_Mo_share.2.1 26 = .ok (.iload_n 2, 1) := D_Mo_share_0 (26, .iload_n 2, 1) (List.mem_of_getElem? (i := 14) rfl)
theorem d_Mo_share_27 : decode Y_Mo_share.2.1 27 = .ok (.i2l, 1) := D_Mo_share_0 (27, .i2l, 1) (List.mem_of_getElem? (i := 15) rfl)
theorem d_Mo_share_28 : decode Y_Mo_share.2.1 28 = .ok (.lconst 0, 1) := D_Mo_share_0 (28, .lconst 0, 1) (List.mem_of_getElem? (i := 16) rfl)
theorem d_Mo_share_29 : decode Y_Mo_share.2.1 29 = .ok (.iload_n 3, 1) := D_Mo_share_0 (29, .iload_n 3, 1) (List.mem_of_getElem? (i := 17) rfl)
theorem d_Mo_share_30 : decode Y_Mo_share.2.1 30 = .ok (.i2l, 1) := D_Mo_share_0 (30, .i2l, 1) (List.mem_of_getElem? (i := 18) rfl)
theorem d_Mo_share_31 : decode Y_Mo_share.2.1 31 = .ok (.invokestatic 71, 3) := D_Mo_share_0 (31, .invokestatic 71, 3) (List.mem_of_getElem? (i := 19) rfl)
theorem d_Mo_share_34 : decode Y_Mo_share.2.1 34 = .ok (.ifCond .eq 7, 3) := D_Mo_share_0 (34, .ifCond .eq 7, 3) (List.mem_of_getElem? (i := 20) rfl)
theorem d_Mo_share_37 : decode Y_Mo_share.2.1 37 = .ok (.iconst 0, 1) := D_Mo_share_0 (37, .iconst 0, 1) (List.mem_of_getElem? (i := 21) rfl)
theorem d_Mo_share_38 : decode Y_Mo_share.2.1 38 = .ok (.goto 4, 3) := D_Mo_share_0 (38, .goto 4, 3) (List.mem_of_getElem? (i := 22) rfl)
theorem d_Mo_share_41 : decode Y_Mo_share.2.1 41 = .ok (.iconst 2, 1) := D_Mo_share_0 (41, .iconst 2, 1) (List.mem_of_getElem? (i := 23) rfl)
theorem d_Mo_share_42 : decode Y_Mo_share.2.1 42 = .ok (.putfield 62, 3) := D_Mo_share_0 (42, .putfield 62, 3) (List.mem_of_getElem? (i := 24) rfl)
theorem d_Mo_share_45 : decode Y_Mo_share.2.1 45 = .ok (.aload_n 0, 1) := D_Mo_share_0 (45, .aload_n 0, 1) (List.mem_of_getElem? (i := 25) rfl)
theorem d_Mo_share_46 : decode Y_Mo_share.2.1 46 = .ok (.getfield 62, 3) := D_Mo_share_0 (46, .getfield 62, 3) (List.mem_of_getElem? (i := 26) rfl)
theorem d_Mo_share_49 : decode Y_Mo_share.2.1 49 = .ok (.ifCond .ne 17, 3) := D_Mo_share_0 (49, .ifCond .ne 17, 3) (List.mem_of_getElem? (i := 27) rfl)
theorem d_Mo_share_52 : decode Y_Mo_share.2.1 52 = .ok (.aload_n 0, 1) := D_Mo_share_0 (52, .aload_n 0, 1) (List.mem_of_getElem? (i := 28) rfl)
theorem d_Mo_share_53 : decode Y_Mo_share.2.1 53 = .ok (.getfield 7, 3) := D_Mo_share_0 (53, .getfield 7, 3) (List.mem_of_getElem? (i := 29) rfl)
theorem d_Mo_share_56 : decode Y_Mo_share.2.1 56 = .ok (.iload_n 1, 1) := D_Mo_share_0 (56, .iload_n 1, 1) (List.mem_of_getElem? (i := 30) rfl)
theorem d_Mo_share_57 : decode Y_Mo_share.2.1 57 = .ok (.iload_n 2, 1) := D_Mo_share_0 (57, .iload_n 2, 1) (List.mem_of_getElem? (i := 31) rfl)
theorem d_Mo_share_58 : decode Y_Mo_share.2.1 58 = .ok (.iastore, 1) := D_Mo_share_0 (58, .iastore, 1) (List.mem_of_getElem? (i := 32) rfl)
theorem d_Mo_share_59 : decode Y_Mo_share.2.1 59 = .ok (.aload_n 0, 1) := D_Mo_share_0 (59, .aload_n 0, 1) (List.mem_of_getElem? (i := 33) rfl)
theorem d_Mo_share_60 : decode Y_Mo_share.2.1 60 = .ok (.getfield 13, 3) := D_Mo_share_0 (60, .getfield 13, 3) (List.mem_of_getElem? (i := 34) rfl)
theorem d_Mo_share_63 : decode Y_Mo_share.2.1 63 = .ok (.iload_n 1, 1) := D_Mo_share_0 (63, .iload_n 1, 1) (List.mem_of_getElem? (i := 35) rfl)
theorem d_Mo_share_64 : decode Y_Mo_share.2.1 64 = .ok (.iload_n 3, 1) := D_Mo_share_0 (64, .iload_n 3, 1) (List.mem_of_getElem? (i := 36) rfl)
theorem d_Mo_share_65 : decode Y_Mo_share.2.1 65 = .ok (.iastore, 1) := D_Mo_share_0 (65, .iastore, 1) (List.mem_of_getElem? (i := 37) rfl)
theorem d_Mo_share_66 : decode Y_Mo_share.2.1 66 = .ok (.return_, 1) := D_Mo_share_0 (66, .return_, 1) (List.mem_of_getElem? (i := 38) rfl)
theorem D_Mo_isIn_0 : ∀ q ∈ ([(0, .lload_n 0, 1), (1, .lload_n 2, 1), (2, .lcmp, 1), (3, .ifCond .lt 14, 3), (6, .lload_n 0, 1), (7, .lload 4, 2), (9, .lcmp, 1), (10, .ifCond .gt 7, 3), (13, .iconst 1, 1), (14, .goto 4, 3), (17, .iconst 0, 1), (18, .ireturn, 1)] : List (Nat × Instr × Nat)), decode prog_8_method_3_code q.1 = .ok (q.2.1, q.2.2) := by decide +kernel
theorem d_Mo_isIn_0 : decode Y_Mo_isIn.2.1 0 = .ok (.lload_n 0, 1) := D_Mo_isIn_0 (0, .lload_n 0, 1) (List.mem_of_getElem? (i := 0) rfl)
theorem d_Mo_isIn_1 : decode Y_Mo_isIn.2.1 1 = .ok (.lload_n 2, 1) := D_Mo_isIn_0 (1, .lload_n 2, 1) (List.mem_of_getElem? (i := 1) rfl)
theorem d_Mo_isIn_2 : decode Y_Mo_isIn.2.1 2 = .ok (.lcmp, 1) := D_Mo_isIn_0 (2, .lcmp, 1) (List.mem_of_getElem? (i := 2) rfl)
theorem d_Mo_isIn_3 : decode Y_Mo_isIn.2.1 3 = .ok (.ifCond .lt 14, 3) := D_Mo_isIn_0 (3, .ifCond .lt 14, 3) (List.mem_of_getElem? (i := 3) rfl)
theorem d_Mo_isIn_6 : decode Y_Mo_isIn.2.1 6 = .ok (.lload_n 0, 1) := D_Mo_isIn_0 (6, .lload_n 0, 1) (List.mem_of_getElem? (i := 4) rfl)
theorem d_Mo_isIn_7 : decode Y_Mo_isIn.2.1 7 = .ok (.lload 4, 2) := D_Mo_isIn_0 (7, .lload 4, 2) (List.mem_of_getElem? (i := 5) rfl)
theorem d_Mo_isIn_9 : decode Y_Mo_isIn.2.1 9 = .ok (.lcmp, 1) := D_Mo_isIn_0 (9, .lcmp, 1) (List.mem_of_getElem? (i := 6) rfl)
theorem d_Mo_isIn_10 : decode Y_Mo_isIn.2.1 10 = .ok (.ifCond .gt 7, 3) := D_Mo_isIn_0 (10, .ifCond .gt 7, 3) (List.mem_of_getElem? (i := 7) rfl)
theorem d_Mo_isIn_13 : decode Y_Mo_isIn.2.1 13 = .ok (.iconst 1, 1) := D_Mo_isIn_0 (13, .iconst 1, 1) (List.mem_of_getElem? (i := 8) rfl)
theorem d_Mo_isIn_14 : decode Y_Mo_isIn.2.1 14 = .ok (.goto 4, 3) := D_Mo_isIn_0 (14, .goto 4, 3) (List.mem_of_getElem? (i := 9) rfl)
theorem d_Mo_isIn_17 : decode Y_Mo_isIn.2.1 17 = .ok (.iconst 0, 1) := D_Mo_isIn_0 (17, .iconst 0, 1) (List.mem_of_getElem? (i := 10) rfl)
theorem d_Mo_isIn_18 : decode Y_Mo_isIn.2.1 18 = .ok (.ireturn, 1) := D_Mo_isIn_0 (18, .ireturn, 1) (List.mem_of_getElem? (i := 11) rfl)
theorem D_Mo_log_0 : ∀ q ∈ ([(0, .aload_n 0, 1), (1, .iload_n 1, 1), (2, .i2l, 1), (3, .lconst 1, 1), (4, .ldc2_w 75, 3), (7, .invokestatic 71, 3), (10, .ifCond .eq 15, 3), (13, .iload_n 2, 1), (14, .ifCond .lt 11, 3), (17, .iload_n 3, 1), (18, .ifCond .lt 7, 3), (21, .iconst 0, 1), (22, .goto 4, 3), (25, .iconst 1, 1), (26, .putfield 62, 3), (29, .aload_n 0, 1), (30, .getfield 62, 3), (33, .ifCond .le 5, 3), (36, .iconst 0, 1), (37, .ireturn, 1), (38, .ldc2_w 77, 3), (41, .iload_n 1, 1), (42, .i2l, 1), (43, .lmul, 1), (44, .lstore 4, 2), (46, .lload 4, 2), (48, .aload_n 0, 1), (49, .getfield 13, 3), (52, .iconst 0, 1), (53, .iaload, 1), (54, .i2l, 1), (55, .ldiv, 1), (56, .aload_n 0, 1), (57, .getfield 7, 3), (60, .iconst 0, 1), (61, .iaload, 1), (62, .i2l, 1), (63, .lmul, 1), (64, .lstore 6, 2), (66, .lload 4, 2), (68, .lload 6, 2), (70, .lsub, 1), (71, .ldc2_w 79, 3), (74, .iload_n 2, 1), (75, .i2l, 1), (76, .iload_n 3, 1), (77, .i2l, 1), (78, .ladd, 1), (79, .lmul, 1), (80, .lsub, 1), (81, .lstore 8, 2), (83, .lload 8, 2), (85, .lconst 0, 1), (86, .lcmp, 1), (87, .ifCond .ge 10, 3), (90, .aload_n 0, 1), (91, .iconst 1, 1), (92, .putfield 62, 3), (95, .iconst 0, 1), (96, .ireturn, 1)] : List (Nat × Instr × Nat)), decode prog_8_method_6_code q.1 = .ok (q.2.1, q.2.2) := by decide +kernel
theorem d_Mo_log_0 : decode Y_Mo_log.2.1 0 = .ok (.aload_n 0, 1) := D_Mo_log_0 (0, .aload_n 0, 1) (List.mem_of_getElem? (i := 0) rfl)
theorem d_Mo_log_1 : decode Y_Mo_log.2.1 1 = .ok (.iload_n 1, 1) := D_Mo_log_0 (1, .iload_n 1, 1) (List.mem_of_getElem? (i := 1) rfl)
theorem d_Mo_log_2 : decode Y_Mo_log.2.1 2 = .ok (.i2l, 1) := D_Mo_log_0 (2, .i2l, 1) (List.mem_of_getElem? (i := 2) rfl)
theorem d_Mo_log_3 : decode Y_Mo_log.2.1 3 = .ok (.lconst 1, 1) := D_Mo_log_0 (3, .lconst 1, 1) (List.mem_of_getElem? (i := 3) rfl)
theorem d_Mo_log_4 : decode Y_Mo_log.2.1 4 = .ok (.ldc2_w 75, 3) := D_Mo_log_0 (4, .ldc2_w 75, 3) (List.mem_of_getElem? (i := 4) rfl)
theorem d_Mo_log_7 : decode Y_Mo_log.2.1 7 = .ok (.invokestatic 71, 3) := D_Mo_log_0 (7, .invokestatic 71, 3) (List.mem_of_getElem? (i := 5) rfl)
theorem d_Mo_log_10 : decode Y_Mo_log.2.1 10 = .ok (.ifCond .eq 15, 3) := D_Mo_log_0 (10, .ifCond .eq 15, 3) (List.mem_of_getElem? (i := 6) rfl)
theorem d_Mo_log_13 : decode Y_Mo_log.2.1 13 = .ok (.iload_n 2, 1) := D_Mo_log_0 (13, .iload_n 2, 1) (List.mem_of_getElem? (i := 7) rfl)
theorem d_Mo_log_14 : decode Y_Mo_log.2.1 14 = .ok (.ifCond .lt 11, 3) := D_Mo_log_0 (14, .ifCond .lt 11, 3) (List.mem_of_getElem? (i := 8) rfl)
theorem d_Mo_log_17 : decode Y_Mo_log.2.1 17 = .ok (.iload_n 3, 1) := D_Mo_log_0 (17, .iload_n 3, 1) (List.mem_of_getElem? (i := 9) rfl)
theorem d_Mo_log_18 : decode Y_Mo_log.2.1 18 = .ok (.ifCond .lt 7, 3) := D_Mo_log_0 (18, .ifCond .lt 7, 3) (List.mem_of_getElem? (i := 10) rfl)
theorem d_Mo_log_21 : decode Y_Mo_log.2.1 21 = .ok (.iconst 0, 1) := D_Mo_log_0 (21, .iconst 0, 1) (List.mem_of_getElem? (i := 11) rfl)
theorem d_Mo_log_22 : decode Y_Mo_log.2.1 22 = .ok (.goto 4, 3) := D_Mo_log_0 (22, .goto 4, 3) (List.mem_of_getElem? (i := 12) rfl)
theorem d_Mo_log_25 : decode Y_Mo_log.2.1 25 = .ok (.iconst 1, 1) := D_Mo_log_0 (25, .iconst 1, 1) (List.mem_of_getElem? (i := 13) rfl)
theorem d_Mo_log_26 : decode Y_Mo_log.2.1 26 = .ok (.putfield 62, 3) := D_Mo_log_0 (26, .putfield 62, 3) (List.mem_of_getElem? (i := 14) rfl)
theorem d_Mo_log_29 : decode Y_Mo_log.2.1 29 = .ok (.aload_n 0, 1) := D_Mo_log_0 (29, .aload_n 0, 1) (List.mem_of_getElem? (i := 15) rfl)
theorem d_Mo_log_30 : decode Y_Mo_log.2.1 30 = .ok (.getfield 62, 3) := D_Mo_log_0 (30, .getfield 62, 3) (List.mem_of_getElem? (i := 16) rfl)
theorem d_Mo_log_33 : decode Y_Mo_log.2.1 33 = .ok (.ifCond .le 5, 3) := D_Mo_log_0 (33, .ifCond .le 5, 3) (List.mem_of_getElem? (i := 17) rfl)
theorem d_Mo_log_36 : decode Y_Mo_log.2.1 36 = .ok (.iconst 0, 1) := D_Mo_log_0 (36, .iconst 0, 1) (List.mem_of_getElem? (i := 18) rfl)
theorem d_Mo_log_37 : decode Y_Mo_log.2.1 37 = .ok (.ireturn, 1) := D_Mo_log_0 (37, .ireturn, 1) (List.mem_of_getElem? (i := 19) rfl)
theorem d_Mo_log_38 : decode Y_Mo_log.2.1 38 = .ok (.ldc2_w 77, 3) := D_Mo_log_0 (38, .ldc2_w 77, 3) (List.mem_of_getElem? (i := 20) rfl)
theorem d_Mo_log_41 : decode Y_Mo_log.2.1 41 = .ok (.iload_n 1, 1) := D_Mo_log_0 (41, .iload_n 1, 1) (List.mem_of_getElem? (i := 21) rfl)
theorem d_Mo_log_42 : decode Y_Mo_log.2.1 42 = .ok (.i2l, 1) := D_Mo_log_0 (42, .i2l, 1) (List.mem_of_getElem? (i := 22) rfl)
theorem d_Mo_log_43 : decode Y_Mo_log.2.1 43 = .ok (.lmul, 1) := D_Mo_log_0 (43, .lmul, 1) (List.mem_of_getElem? (i := 23) rfl)
theorem d_Mo_log_44 : decode Y_Mo_log.2.1 44 = .ok (.lstore 4, 2) := D_Mo_log_0 (44, .lstore 4, 2) (List.mem_of_getElem? (i := 24) rfl)
theorem d_Mo_log_46 : decode Y_Mo_log.2.1 46 = .ok (.lload 4, 2) := D_Mo_log_0 (46, .lload 4, 2) (List.mem_of_getElem? (i := 25) rfl)
theorem d_Mo_log_48 : decode Y_Mo_log.2.1 48 = .ok (.aload_n 0, 1) := D_Mo_log_0 (48, .aload_n 0, 1) (List.mem_of_getElem? (i := 26) rfl)
theorem d_Mo_log_49 : decode Y_Mo_log.2.1 49 = .ok (.getfield 13, 3) := D_Mo_log_0 (49, .getfield 13, 3) (List.mem_of_getElem? (i := 27) rfl)
theorem d_Mo_log_52 : decode Y_Mo_log.2.1 52 = .ok (.iconst 0, 1) := D_Mo_log_0 (52, .iconst 0, 1) (List.mem_of_getElem? (i := 28) rfl)
theorem d_Mo_log_53 : decode Y_Mo_log.2.1 53 = .ok (.iaload, 1) := D_Mo_log_0 (53, .iaload, 1) (List.mem_of_getElem? (i := 29) rfl)
theorem d_Mo_log_54 : decode Y_Mo_log.2.1 54 = .ok (.i2l, 1) := D_Mo_log_0 (54, .i2l, 1) (List.mem_of_getElem? (i := 30) rfl)
theorem d_Mo_log_55 : decode Y_Mo_log.2.1 55 = .ok (.ldiv, 1) := D_Mo_log_0 (55, .ldiv, 1) (List.mem_of_getElem? (i := 31) rfl)
theorem d_Mo_log_56 : decode Y_Mo_log.2.1 56 = .ok (.aload_n 0, 1) := D_Mo_log_0 (56, .aload_n 0, 1) (List.mem_of_getElem? (i := 32) rfl)
theorem d_Mo_log_57 : decode Y_Mo_log.2.1 57 = .ok (.getfield 7, 3) := D_Mo_log_0 (57, .getfield 7, 3) (List.mem_of_getElem? (i := 33) rfl)
theorem d_Mo_log_60 : decode Y_Mo_log.2.1 60 = .ok (.iconst 0, 1) := D_Mo_log_0 (60, .iconst 0, 1) (List.mem_of_getElem? (i := 34) rfl)
theorem d_Mo_log_61 : decode Y_Mo_log.2.1 61 = .ok (.iaload, 1) := D_Mo_log_0 (61, .iaload, 1) (List.mem_of_getElem? (i := 35) rfl)
theorem d_Mo_log_62 : decode Y_Mo_log.2.1 62 = .ok (.i2l, 1) := D_Mo_log_0 (62, .i2l, 1) (List.mem_of_getElem? (i := 36) rfl)
theorem d_Mo_log_63 : decode Y_Mo_log.2.1 63 = .ok (.lmul, 1) := D_Mo_log_0 (63, .lmul, 1) (List.mem_of_getElem? (i := 37) rfl)
theorem d_Mo_log_64 : decode Y_Mo_log.2.1 64 = .ok (.lstore 6, 2) := D_Mo_log_0 (64, .lstore 6, 2) (List.mem_of_getElem? (i := 38) rfl)
theorem d_Mo_log_66 : decode Y_Mo_log.2.1 66 = .ok (.lload 4, 2) := D_Mo_log_0 (66, .lload 4, 2) (List.mem_of_getElem? (i := 39) rfl)
theorem d_Mo_log_68 : decode Y_Mo_log.2.1 68 = .ok (.lload 6, 2) := D_Mo_log_0 (68, .lload 6, 2) (List.mem_of_getElem? (i := 40) rfl)
theorem d_Mo_log_70 : decode Y_Mo_log.2.1 70 = .ok (.lsub, 1) := D_Mo_log_0 (70, .lsub, 1) (List.mem_of_getElem? (i := 41) rfl)
theorem d_Mo_log_71 : decode Y_Mo_log.2.1 71 = .ok (.ldc2_w 79, 3) := D_Mo_log_0 (71, .ldc2_w 79, 3) (List.mem_of_getElem? (i := 42) rfl)
theorem d_Mo_log_74 : decode Y_Mo_log.2.1 74 = .ok (.iload_n 2, 1) := D_Mo_log_0 (74, .iload_n 2, 1) (List.mem_of_getElem? (i := 43) rfl)
theorem d_Mo_log_75 : decode Y_Mo_log.2.1 75 = .ok (.i2l, 1) := D_Mo_log_0 (75, .i2l, 1) (List.mem_of_getElem? (i := 44) rfl)
theorem d_Mo_log_76 : decode Y_Mo_log.2.1 76 = .ok (.iload_n 3, 1) := D_Mo_log_0 (76, .iload_n 3, 1) (List.mem_of_getElem? (i := 45) rfl)
theorem d_Mo_log_77 : decode Y_Mo_log.2.1 77 = .ok (.i2l, 1) := D_Mo_log_0 (77, .i2l, 1) (List.mem_of_getElem? (i := 46) rfl)
theorem d_Mo_log_78 : decode Y_Mo_log.2.1 78 = .ok (.ladd, 1) := D_Mo_log_0 (78, .ladd, 1) (List.mem_of_getElem? (i := 47) rfl)
theorem d_Mo_log_79 : decode Y_Mo_log.2.1 79 = .ok (.lmul, 1) := D_Mo_log_0 (79, .lmul, 1) (List.mem_of_getElem? (i := 48) rfl)
theorem d_Mo_log_80 : decode Y_Mo_log.2.1 80 = .ok (.lsub, 1) := D_Mo_log_0 (80, .lsub, 1) (List.mem_of_getElem? (i := 49) rfl)
theorem d_Mo_log_81 : decode Y_Mo_log.2.1 81 = .ok (.lstore 8, 2) := D_Mo_log_0 (81, .lstore 8, 2) (List.mem_of_getElem? (i := 50) rfl)
theorem d_Mo_log_83 : decode Y_Mo_log.2.1 83 = .ok (.lload 8, 2) := D_Mo_log_0 (83, .lload 8, 2) (List.mem_of_getElem? (i := 51) rfl)
theorem d_Mo_log_85 : decode Y_Mo_log.2.1 85 = .ok (.lconst 0, 1) := D_Mo_log_0 (85, .lconst 0, 1) (List.mem_of_getElem? (i := 52) rfl)
theorem d_Mo_log_86 : decode Y_Mo_log.2.1 86 = .ok (.lcmp, 1) := D_Mo_log_0 (86, .lcmp, 1) (List.mem_of_getElem? (i := 53) rfl)
theorem d_Mo_log_87 : decode Y_Mo_log.2.1 87 = .ok (.ifCond .ge 10, 3) := D_Mo_log_0 (87, .ifCond .ge 10, 3) (List.mem_of_getElem? (i := 54) rfl)
theorem d_Mo_log_90 : decode Y_Mo_log.2.1 90 = .ok (.aload_n 0, 1) := D_Mo_log_0 (90, .aload_n 0, 1) (List.mem_of_getElem? (i := 55) rfl)
theorem d_Mo_log_91 : decode Y_Mo_log.2.1 91 = .ok (.iconst 1, 1) := D_Mo_log_0 (91, .iconst 1, 1) (List.mem_of_getElem? (i := 56) rfl)
theorem d_Mo_log_92 : decode Y_Mo_log.2.1 92 = .ok (.putfield 62, 3) := D_Mo_log_0 (92, .putfield 62, 3) (List.mem_of_getElem? (i := 57) rfl)
theorem d_Mo_log_95 : decode Y_Mo_log.2.1 95 = .ok (.iconst 0, 1) := D_Mo_log_0 (95, .iconst 0, 1) (List.mem_of_getElem? (i := 58) rfl)
theorem d_Mo_log_96 : decode Y_Mo_log.2.1 96 = .ok (.ireturn, 1) := D_Mo_log_0 (96, .ireturn, 1) (List.mem_of_getElem? (i := 59) rfl)
theorem D_Mo_log_1 : ∀ q ∈ ([(97, .aload_n 0, 1), (98, .getfield 16, 3), (101, .iconst 0, 1), (102, .lload 6, 2), (104, .lastore, 1), (105, .aload_n 0, 1), (106, .getfield 16, 3), (109, .iconst 2, 1), (110, .ldc2_w 79, 3), (113, .iload_n 3, 1), (114, .i2l, 1), (115, .lmul, 1), (116, .lastore, 1), (117, .aload_n 0, 1), (118, .getfield 16, 3), (121, .iconst 3, 1), (122, .lload 8, 2), (124, .aload_n 0, 1), (125, .getfield 13, 3), (128, .iconst 1, 1), (129, .iaload, 1), (130, .i2l, 1), (131, .ldiv, 1), (132, .aload_n 0, 1), (133, .getfield 7, 3), (136, .iconst 1, 1), (137, .iaload, 1), (138, .i2l, 1), (139, .lmul, 1), (140, .lastore, 1), (141, .aload_n 0, 1), (142, .getfield 16, 3), (145, .iconst 1, 1), (146, .lload 8, 2), (148, .aload_n 0, 1), (149, .getfield 16, 3), (152, .iconst 3, 1), (153, .laload, 1), (154, .lsub, 1), (155, .lastore, 1), (156, .aload_n 0, 1), (157, .getfield 16, 3), (160, .iconst 4, 1), (161, .ldc2_w 79, 3), (164, .iload_n 2, 1), (165, .i2l, 1), (166, .lmul, 1), (167, .lastore, 1), (168, .iconst 0, 1), (169, .istore 10, 2), (171, .iload 10, 2), (173, .iconst 5, 1), (174, .if_icmp .ge 31, 3), (177, .aload_n 0, 1), (178, .getfield 20, 3), (181, .iload 10, 2), (183, .aload_n 0, 1), (184, .getfield 20, 3), (187, .iload 10, 2), (189, .laload, 1)] : List (Nat × Instr × Nat)), decode prog_8_method_6_code q.1 = .ok (q.2.1, q.2.2) := by decide +kernel
theorem d_Mo_log_97 : decode Y_Mo_log.2.1 97 = .ok (.aload_n 0, 1) := D_Mo_log_1 (97, .aload_n 0, 1) (List.mem_of_getElem? (i := 0) rfl)
theorem d_Mo_log_98 : decode Y_Mo_log.2.1 98 = .ok (.getfield 16, 3) := D_Mo_log_1 (98, .getfield 16, 3) (List.mem_of_getElem? (i := 1) rfl)
theorem d_Mo_log_101 : decode Y_Mo_log.2.1 101 = .ok (.iconst 0, 1) := D_Mo_log_1 (101, .iconst 0, 1) (List.mem_of_getElem? (i := 2) rfl)
theorem d_Mo_log_102 : decode Y_Mo_log.2.1 102 = .ok (.lload 6, 2) := D_Mo_log_1 (102, .lload 6, 2) (List.mem_of_getElem? (i := 3) rfl)
theorem d_Mo_log_104 : decode Y_Mo_log.2.1 104 = .ok (.lastore, 1) := D_Mo_log_1 (104, .lastore, 1) (List.mem_of_getElem? (i := 4) rfl)
theorem d_Mo_log_105 : decode Y_Mo_log.2.1 105 = .ok (.aload_n 0, 1) := D_Mo_log_1 (105, .aload_n 0, 1) (List.mem_of_getElem? (i := 5) rfl)
theorem d_Mo_log_106 : decode Y_Mo_log.2.1 106 = .ok (.getfield 16, 3) := D_Mo_log_1 (106, .getfield 16, 3) (List.mem_of_getElem? (i := 6) rfl)
theorem d_Mo_log_109 : decode Y_Mo_log.2.1 109 = .ok (.iconst 2, 1) := D_Mo_log_1 (109, .iconst 2, 1) (List.mem_of_getElem? (i := 7) rfl)
theorem d_Mo_log_110 : decode Y_Mo_log.2.1 110 = .ok (.ldc2_w 79, 3) := D_Mo_log_1 (110, .ldc2_w 79, 3) (List.mem_of_getElem? (i := 8) rfl)
theorem d_Mo_log_113 : decode Y_Mo_log.2.1 113 = .ok (.iload_n 3, 1) := D_Mo_log_1 (113, .iload_n 3, 1) (List.mem_of_getElem? (i := 9) rfl)
theorem d_Mo_log_114 : decode Y_Mo_log.2.1 114 = .ok (.i2l, 1) := D_Mo_log_1 (114, .i2l, 1) (List.mem_of_getElem? (i := 10) rfl)
theorem d_Mo_log_115 : decode Y_Mo_log.2.1 115 = .ok (.lmul, 1) := D_Mo_log_1 (115, .lmul, 1) (List.mem_of_getElem? (i := 11) rfl)
theorem d_Mo_log_116 : decode Y_Mo_log.2.1 116 = .ok (.lastore, 1) := D_Mo_log_1 (116, .lastore, 1) (List.mem_of_getElem? (i := 12) rfl)
theorem d_Mo_log_117 : decode Y_Mo_log.2.1 117 = .ok (.aload_n 0, 1) := D_Mo_log_1 (117, .aload_n 0, 1) (List.mem_of_getElem? (i := 13) rfl)
theorem d_Mo_log_118 : decode Y_Mo_log.2.1 118 = .ok (.getfield 16, 3) := D_Mo_log_1 (118, .getfield 16, 3) (List.mem_of_getElem? (i := 14) rfl)
theorem d_Mo_log_121 : decode Y_Mo_log.2.1 121 = .ok (.iconst 3, 1) := D_Mo_log_1 (121, .iconst 3, 1) (List.mem_of_getElem? (i := 15) rfl)
theorem d_Mo_log_122 : decode Y_Mo_log.2.1 122 = .ok (.lload 8, 2) := D_Mo_log_1 (122, .lload 8, 2) (List.mem_of_getElem? (i := 16) rfl)
theorem d_Mo_log_124 : decode Y_Mo_log.2.1 124 = .ok (.aload_n 0, 1) := D_Mo_log_1 (124, .aload_n 0, 1) (List.mem_of_getElem? (i := 17) rfl)
theorem d_Mo_log_125 : decode Y_Mo_log.2.1 125 = .ok (.getfield 13, 3) := D_Mo_log_1 (125, .getfield 13, 3) (List.mem_of_getElem? (i := 18) rfl)
theorem d_Mo_log_128 : decode Y_Mo_log.2.1 128 = .ok (.iconst 1, 1) := D_Mo_log_1 (128, .iconst 1, 1) (List.mem_of_getElem? (i := 19) rfl)
theorem d_Mo_log_129 : decode Y_Mo_log.2.1 129 = .ok (.iaload, 1) := D_Mo_log_1 (129, .iaload, 1) (List.mem_of_getElem? (i := 20) rfl)
theorem d_Mo_log_130 : decode Y_Mo_log.2.1 130 = .ok (.i2l, 1) := D_Mo_log_1 (130, .i2l, 1) (List.mem_of_getElem? (i := 21) rfl)
theorem d_Mo_log_131 : decode Y_Mo_log.2.1 131 = .ok (.ldiv, 1) := D_Mo_log_1 (131, .ldiv, 1) (List.mem_of_getElem? (i := 22) rfl)
theorem d_Mo_log_132 : decode Y_Mo_log.2.1 132 = .ok (.aload_n 0, 1) := D_Mo_log_1 (132, .aload_n 0, 1) (List.mem_of_getElem? (i := 23) rfl)
theorem d_Mo_log_133 : decode Y_Mo_log.2.1 133 = .ok (.getfield 7, 3) := D_Mo_log_1 (133, .getfield 7, 3) (List.mem_of_getElem? (i := 24) rfl)
theorem d_Mo_log_136 : decode Y_Mo_log.2.1 136 = .ok (.iconst 1, 1) := D_Mo_log_1 (136, .iconst 1, 1) (List.mem_of_getElem? (i := 25) rfl)
theorem d_Mo_log_137 : decode Y_Mo_log.2.1 137 = .ok (.iaload, 1) := D_Mo_log_1 (137, .iaload, 1) (List.mem_of_getElem? (i := 26) rfl)
theorem d_Mo_log_138 : decode Y_Mo_log.2.1 138 = .ok (.i2l, 1) := D_Mo_log_1 (138, .i2l, 1) (List.mem_of_getElem? (i := 27) rfl)
theorem d_Mo_log_139 : decode Y_Mo_log.2.1 139 = .ok (.lmul, 1) := D_Mo_log_1 (139, .lmul, 1) (List.mem_of_getElem? (i := 28) rfl)
theorem d_Mo_log_140 : decode Y_Mo_log.2.1 140 = .ok (.lastore, 1) := D_Mo_log_1 (140, .lastore, 1) (List.mem_of_getElem? (i := 29) rfl)
theorem d_Mo_log_141 : decode Y_Mo_log.2.1 141 = .ok (.aload_n 0, 1) := D_Mo_log_1 (141, .aload_n 0, 1) (List.mem_of_getElem? (i := 30) rfl)
theorem d_Mo_log_142 : decode Y_Mo_log.2.1 142 = .ok (.getfield 16, 3) := D_Mo_log_1 (142, .getfield 16, 3) (List.mem_of_getElem? (i := 31) rfl)
theorem d_Mo_log_145 : decode Y_Mo_log.2.1 145 = .ok (.iconst 1, 1) := D_Mo_log_1 (145, .iconst 1, 1) (List.mem_of_getElem? (i := 32) rfl)
theorem d_Mo_log_146 : decode Y_Mo_log.2.1 146 = .ok (.lload 8, 2) := D_Mo_log_1 (146, .lload 8, 2) (List.mem_of_getElem? (i := 33) rfl)
theorem d_Mo_log_148 : decode Y_Mo_log.2.1 148 = .ok (.aload_n 0, 1) := D_Mo_log_1 (148, .aload_n 0, 1) (List.mem_of_getElem? (i := 34) rfl)
theorem d_Mo_log_149 : decode Y_Mo_log.2.1 149 = .ok (.getfield 16, 3) := D_Mo_log_1 (149, .getfield 16, 3) (List.mem_of_getElem? (i := 35) rfl)
theorem d_Mo_log_152 : decode Y_Mo_log.2.1 152 = .ok (.iconst 3, 1) := D_Mo_log_1 (152, .iconst 3, 1) (List.mem_of_getElem? (i := 36) rfl)
theorem d_Mo_log_153 : decode Y_Mo_log.2.1 153 = .ok (.laload, 1) := D_Mo_log_1 (153, .laload, 1) (List.mem_of_getElem? (i := 37) rfl)
theorem d_Mo_log_154 : decode Y_Mo_log.2.1 154 = .ok (.lsub, 1) := D_Mo_log_1 (154, .lsub, 1) (List.mem_of_getElem? (i := 38) rfl)
theorem d_Mo_log_155 : decode Y_Mo_log.2.1 155 = .ok (.lastore, 1) := D_Mo_log_1 (155, .lastore, 1) (List.mem_of_getElem? (i := 39) rfl)
theorem d_Mo_log_156 : decode Y_Mo_log.2.1 156 = .ok (.aload_n 0, 1) := D_Mo_log_1 (156, .aload_n 0, 1) (List.mem_of_getElem? (i := 40) rfl)
theorem d_Mo_log_157 : decode Y_Mo_log.2.1 157 = .ok (.getfield 16, 3) := D_Mo_log_1 (157, .getfield 16, 3) (List.mem_of_getElem? (i := 41) rfl)
theorem d_Mo_log_160 : decode Y_Mo_log.2.1 160 = .ok (.iconst 4, 1) := D_Mo_log_1 (160, .iconst 4, 1) (List.mem_of_getElem? (i := 42) rfl)
theorem d_Mo_log_161 : decode Y_Mo_log.2.1 161 = .ok (.ldc2_w 79, 3) := D_Mo_log_1 (161, .ldc2_w 79, 3) (List.mem_of_getElem? (i := 43) rfl)
theorem d_Mo_log_164 : decode Y_Mo_log.2.1 164 = .ok (.iload_n 2, 1) := D_Mo_log_1 (164, .iload_n 2, 1) (List.mem_of_getElem? (i := 44) rfl)
theorem d_Mo_log_165 : decode Y_Mo_log.2.1 165 = .ok (.i2l, 1) := D_Mo_log_1 (165, .i2l, 1) (List.mem_of_getElem? (i := 45) rfl)
theorem d_Mo_log_166 : decode Y_Mo_log.2.1 166 = .ok (.lmul, 1) := D_Mo_log_1 (166, .lmul, 1) (List.mem_of_getElem? (i := 46) rfl)
theorem d_Mo_log_167 : decode Y_Mo_log.2.1 167 = .ok (.lastore, 1) := D_Mo_log_1 (167, .lastore, 1) (List.mem_of_getElem? (i := 47) rfl)
theorem d_Mo_log_168 : decode Y_Mo_log.2.1 168 = .ok (.iconst 0, 1) := D_Mo_log_1 (168, .iconst 0, 1) (List.mem_of_getElem? (i := 48) rfl)
theorem d_Mo_log_169 : decode Y_Mo_log.2.1 169 = .ok (.istore 10, 2) := D_Mo_log_1 (169, .istore 10, 2) (List.mem_of_getElem? (i := 49) rfl)
theorem d_Mo_log_171 : decode Y_Mo_log.2.1 171 = .ok (.iload 10, 2) := D_Mo_log_1 (171, .iload 10, 2) (List.mem_of_getElem? (i := 50) rfl)
theorem d_Mo_log_173 : decode Y_Mo_log.2.1 173 = .ok (.iconst 5, 1) := D_Mo_log_1 (173, .iconst 5, 1) (List.mem_of_getElem? (i := 51) rfl)
theorem d_Mo_log_174 : decode Y_Mo_log.2.1 174 = .ok (.if_icmp .ge 31, 3) := D_Mo_log_1 (174, .if_icmp .ge 31, 3) (List.mem_of_getElem? (i := 52) rfl)
theorem d_Mo_log_177 : decode Y_Mo_log.2.1 177 = .ok (.aload_n 0, 1) := D_Mo_log_1 (177, .aload_n 0, 1) (List.mem_of_getElem? (i := 53) rfl)
theorem d_Mo_log_178 : decode Y_Mo_log.2.1 178 = .ok (.getfield 20, 3) := D_Mo_log_1 (178, .getfield 20, 3) (List.mem_of_getElem? (i := 54) rfl)
theorem d_Mo_log_181 : decode Y_Mo_log.2.1 181 = .ok (.iload 10, 2) := D_Mo_log_1 (181, .iload 10, 2) (List.mem_of_getElem? (i := 55) rfl)
theorem d_Mo_log_183 : decode Y_Mo_log.2.1 183 = .ok (.aload_n 0, 1) := D_Mo_log_1 (183, .aload_n 0, 1) (List.mem_of_getElem? (i := 56) rfl)
theorem d_Mo_log_184 : decode Y_Mo_log.2.1 184 = .ok (.getfield 20, 3) := D_Mo_log_1 (184, .getfield 20, 3) (List.mem_of_getElem? (i := 57) rfl)
theorem d_Mo_log_187 : decode Y_Mo_log.2.1 187 = .ok (.iload 10, 2) := D_Mo_log_1 (187, .iload 10, 2) (List.mem_of_getElem? (i := 58) rfl)
theorem d_Mo_log_189 : decode Y_Mo_log.2.1 189 = .ok (.laload, 1) := D_Mo_log_1 (189, .laload, 1) (List.mem_of_getElem? (i := 59) rfl)
theorem D_Mo_log_2 : ∀ q ∈ ([(190, .aload_n 0, 1), (191, .getfield 16, 3), (194, .iload 10, 2), (196, .laload, 1), (197, .ladd, 1), (198, .lastore, 1), (199, .iinc 10 1, 3), (202, .goto (-31), 3), (205, .aload_n 0, 1), (206, .dup, 1), (207, .getfield 81, 3), (210, .iconst 1, 1), (211, .iadd, 1), (212, .putfield 81, 3), (215, .aload_n 0, 1), (216, .getfield 81, 3), (219, .iconst 1, 1), (220, .isub, 1), (221, .ireturn, 1)] : List (Nat × Instr × Nat)), decode prog_8_method_6_code q.1 = .ok (q.2.1, q.2.2) := by decide +kernel
theorem d_Mo_log_190 : decode Y_Mo_log.2.1 190 = .ok (.aload_n 0, 1) := D_Mo_log_2 (190, .aload_n 0, 1) (List.mem_of_getElem? (i := 0) rfl)
theorem d_Mo_log_191 : decode Y_Mo_log.2.1 191 = .ok (.getfield 16, 3) := D_Mo_log_2 (191, .getfield 16, 3) (List.mem_of_getElem? (i := 1) rfl)
theorem d_Mo_log_194 : decode Y_Mo_log.2.1 194 = .ok (.iload 10, 2) := D_Mo_log_2 (194, .iload 10, 2) (List.mem_of_getElem? (i := 2) rfl)
theorem d_Mo_log_196 : decode Y_Mo_log.2.1 196 = .ok (.laload, 1) := D_Mo_log_2 (196, .laload, 1) (List.mem_of_getElem? (i := 3) rfl)
theorem d_Mo_log_197 : decode Y_Mo_log.2.1 197 = .ok (.ladd, 1) := D_Mo_log_2 (197, .ladd, 1) (List.mem_of_getElem? (i := 4) rfl)
theorem d_Mo_log_198 : decode Y_Mo_log.2.1 198 = .ok (.lastore, 1) := D_Mo_log_2 (198, .lastore, 1) (List.mem_of_getElem? (i := 5) rfl)
theorem d_Mo_log_199 : decode Y_Mo_log.2.1 199 = .ok (.iinc 10 1, 3) := D_Mo_log_2 (199, .iinc 10 1, 3) (List.mem_of_getElem? (i := 6) rfl)
theorem d_Mo_log_202 : decode Y_Mo_log.2.1 202 = .ok (.goto (-31), 3) := D_Mo_log_2 (202, .goto (-31), 3) (List.mem_of_getElem? (i := 7) rfl)
theorem d_Mo_log_205 : decode Y_Mo_log.2.1 205 = .ok (.aload_n 0, 1) := D_Mo_log_2 (205, .aload_n 0, 1) (List.mem_of_getElem? (i := 8) rfl)
theorem d_Mo_log_206 : decode Y_Mo_log.2.1 206 = .ok (.dup, 1) := D_Mo_log_2 (206, .dup, 1) (List.mem_of_getElem? (i := 9) rfl)
theorem d_Mo_log_207 : decode Y_Mo_log.2.1 207 = .ok (.getfield 81, 3) := D_Mo_log_2 (207, .getfield 81, 3) (List.mem_of_getElem? (i := 10) rfl)
theorem d_Mo_log_210 : decode Y_Mo_log.2.1 210 = .ok (.iconst 1, 1) := D_Mo_log_2 (210, .iconst 1, 1) (List.mem_of_getElem? (i := 11) rfl)
theorem d_Mo_log_211 : decode Y_Mo_log.2.1 211 = .ok (.iadd, 1) := D_Mo_log_2 (211, .iadd, 1) (List.mem_of_getElem? (i := 12) rfl)
theorem d_Mo_log_212 : decode Y_Mo_log.2.1 212 = .ok (.putfield 81, 3) := D_Mo_log_2 (212, .putfield 81, 3) (List.mem_of_getElem? (i := 13) rfl)
theorem d_Mo_log_215 : decode Y_Mo_log.2.1 215 = .ok (.aload_n 0, 1) := D_Mo_log_2 (215, .aload_n 0, 1) (List.mem_of_getElem? (i := 14) rfl)
theorem d_Mo_log_216 : decode Y_Mo_log.2.1 216 = .ok (.getfield 81, 3) := D_Mo_log_2 (216, .getfield 81, 3) (List.mem_of_getElem? (i := 15) rfl)
theorem d_Mo_log_219 : decode Y_Mo_log.2.1 219 = .ok (.iconst 1, 1) := D_Mo_log_2 (219, .iconst 1, 1) (List.mem_of_getElem? (i := 16) rfl)
theorem d_Mo_log_220 : decode Y_Mo_log.2.1 220 = .ok (.isub, 1) := D_Mo_log_2 (220, .isub, 1) (List.mem_of_getElem? (i := 17) rfl)
theorem d_Mo_log_221 : decode Y_Mo_log.2.1 221 = .ok (.ireturn, 1) := D_Mo_log_2 (221, .ireturn, 1) (List.mem_of_getElem? (i := 18) rfl)
theorem D_Mo_volume_0 : ∀ q ∈ ([(0, .aload_n 0, 1), (1, .iload_n 1, 1), (2, .ifCond .lt 8, 3), (5, .iload_n 1, 1), (6, .iconst 3, 1), (7, .if_icmp .le 7, 3), (10, .iconst 1, 1), (11, .goto 15, 3), (14, .aload_n 0, 1), (15, .getfield 81, 3), (18, .ifCond .ne 7, 3), (21, .iconst 2, 1), (22, .goto 4, 3), (25, .iconst 0, 1), (26, .putfield 62, 3), (29, .aload_n 0, 1), (30, .getfield 62, 3), (33, .ifCond .le 7, 3), (36, .lconst 0, 1), (37, .goto 22, 3), (40, .iload_n 2, 1), (41, .ifCond .eq 12, 3), (44, .aload_n 0, 1), (45, .getfield 20, 3), (48, .iload_n 1, 1), (49, .laload, 1), (50, .goto 9, 3), (53, .aload_n 0, 1), (54, .getfield 16, 3), (57, .iload_n 1, 1), (58, .laload, 1), (59, .lreturn, 1)] : List (Nat × Instr × Nat)), decode prog_8_method_7_code q.1 = .ok (q.2.1, q.2.2) := by decide +kernel
theorem d_Mo_volume_0 : decode Y_Mo_volume.2.1 0 = .ok (.aload_n 0, 1) := D_Mo_volume_0 (0, .aload_n 0, 1) (List.mem_of_getElem? (i := 0) rfl)
theorem d_Mo_volume_1 : decode Y_Mo_volume.2.1 1 = .ok (.iload_n 1, 1) := D_Mo_volume_0 (1, .iload_n 1, 1) (List.mem_of_getElem? (i := 1) rfl)
theorem d_Mo_volume_2 : decode Y_Mo_volume.2.1 2 = .ok (.ifCond .lt 8, 3) := D_Mo_volume_0 (2, .ifCond .lt 8, 3) (List.mem_of_getElem? (i := 2) rfl)
theorem d_Mo_volume_5 : decode Y_Mo_volume.2.1 5 = .ok (.iload_n 1, 1) := D_Mo_volume_0 (5, .iload_n 1, 1) (List.mem_of_getElem? (i := 3) rfl)
theorem d_Mo_volume_6 : decode Y_Mo_volume.2.1 6 = .ok (.iconst 3, 1) := D_Mo_volume_0 (6, .iconst 3, 1) (List.mem_of_getElem? (i := 4) rfl)
theorem d_Mo_volume_7 : decode Y_Mo_volume.2.1 7 = .ok (.if_icmp .le 7, 3) := D_Mo_volume_0 (7, .if_icmp .le 7, 3) (List.mem_of_getElem? (i := 5) rfl)
theorem d_Mo_volume_10 : decode Y_Mo_volume.2.1 10 = .ok (.iconst 1, 1) := D_Mo_volume_0 (10, .iconst 1, 1) (List.mem_of_getElem? (i := 6) rfl)
theorem d_Mo_volume_11 : decode Y_Mo_volume.2.1 11 = .ok (.goto 15, 3) := D_Mo_volume_0 (11, .goto 15, 3) (List.mem_of_getElem? (i := 7) rfl)
theorem d_Mo_volume_14 : decode Y_Mo_volume.2.1 14 = .ok (.aload_n 0, 1) := D_Mo_volume_0 (14, .aload_n 0, 1) (List.mem_of_getElem? (i := 8) rfl)
theorem d_Mo_volume_15 : decode Y_Mo_volume.2.1 15 = .ok (.getfield 81, 3) := D_Mo_volume_0 (15, .getfield 81, 3) (List.mem_of_getElem? (i := 9) rfl)
theorem d_Mo_volume_18 : decode Y_Mo_volume.2.1 18 = .ok (.ifCond .ne 7, 3) := D_Mo_volume_0 (18, .ifCond .ne 7, 3) (List.mem_of_getElem? (i := 10) rfl)
theorem d_Mo_volume_21 : decode Y_Mo_volume.2.1 21 = .ok (.iconst 2, 1) := D_Mo_volume_0 (21, .iconst 2, 1) (List.mem_of_getElem? (i := 11) rfl)
theorem d_Mo_volume_22 : decode Y_Mo_volume.2.1 22 = .ok (.goto 4, 3) := D_Mo_volume_0 (22, .goto 4, 3) (List.mem_of_getElem? (i := 12) rfl)
theorem d_Mo_volume_25 : decode Y_Mo_volume.2.1 25 = .ok (.iconst 0, 1) := D_Mo_volume_0 (25, .iconst 0, 1) (List.mem_of_getElem? (i := 13) rfl)
theorem d_Mo_volume_26 : decode Y_Mo_volume.2.1 26 = .ok (.putfield 62, 3) := D_Mo_volume_0 (26, .putfield 62, 3) (List.mem_of_getElem? (i := 14) rfl)
theorem d_Mo_volume_29 : decode Y_Mo_volume.2.1 29 = .ok (.aload_n 0, 1) := D_Mo_volume_0 (29, .aload_n 0, 1) (List.mem_of_getElem? (i := 15) rfl)
theorem d_Mo_volume_30 : decode Y_Mo_volume.2.1 30 = .ok (.getfield 62, 3) := D_Mo_volume_0 (30, .getfield 62, 3) (List.mem_of_getElem? (i := 16) rfl)
theorem d_Mo_volume_33 : decode Y_Mo_volume.2.1 33 = .ok (.ifCond .le 7, 3) := D_Mo_volume_0 (33, .ifCond .le 7, 3) (List.mem_of_getElem? (i := 17) rfl)
theorem d_Mo_volume_36 : decode Y_Mo_volume.2.1 36 = .ok (.lconst 0, 1) := D_Mo_volume_0 (36, .lconst 0, 1) (List.mem_of_getElem? (i := 18) rfl)
theorem d_Mo_volume_37 : decode Y_Mo_volume.2.1 37 = .ok (.goto 22, 3) := D_Mo_volume_0 (37, .goto 22, 3) (List.mem_of_getElem? (i := 19) rfl)
theorem d_Mo_volume_40 : decode Y_Mo_volume.2.1 40 = .ok (.iload_n 2, 1) := D_Mo_volume_0 (40, .iload_n 2, 1) (List.mem_of_getElem? (i := 20) rfl)
theorem d_Mo_volume_41 : decode Y_Mo_volume.2.1 41 = .ok (.ifCond .eq 12, 3) := D_Mo_volume_0 (41, .ifCond .eq 12, 3) (List.mem_of_getElem? (i := 21) rfl)
theorem d_Mo_volume_44 : decode Y_Mo_volume.2.1 44 = .ok (.aload_n 0, 1) := D_Mo_volume_0 (44, .aload_n 0, 1) (List.mem_of_getElem? (i := 22) rfl)
theorem d_Mo_volume_45 : decode Y_Mo_volume.2.1 45 = .ok (.getfield 20, 3) := D_Mo_volume_0 (45, .getfield 20, 3) (List.mem_of_getElem? (i := 23) rfl)
theorem d_Mo_volume_48 : decode Y_Mo_volume.2.1 48 = .ok (.iload_n 1, 1) := D_Mo_volume_0 (48, .iload_n 1, 1) (List.mem_of_getElem? (i := 24) rfl)
theorem d_Mo_volume_49 : decode Y_Mo_volume.2.1 49 = .ok (.laload, 1) := D_Mo_volume_0 (49, .laload, 1) (List.mem_of_getElem? (i := 25) rfl)
theorem d_Mo_volume_50 : decode Y_Mo_volume.2.1 50 = .ok (.goto 9, 3) := D_Mo_volume_0 (50, .goto 9, 3) (List.mem_of_getElem? (i := 26) rfl)
theorem d_Mo_volume_53 : decode Y_Mo_volume.2.1 53 = .ok (.aload_n 0, 1) := D_Mo_volume_0 (53, .aload_n 0, 1) (List.mem_of_getElem? (i := 27) rfl)
theorem d_Mo_volume_54 : decode Y_Mo_volume.2.1 54 = .ok (.getfield 16, 3) := D_Mo_volume_0 (54, .getfield 16, 3) (List.mem_of_getElem? (i := 28) rfl)
theorem d_Mo_volume_57 : decode Y_Mo_volume.2.1 57 = .ok (.iload_n 1, 1) := D_Mo_volume_0 (57, .iload_n 1, 1) (List.mem_of_getElem? (i := 29) rfl)
theorem d_Mo_volume_58 : decode Y_Mo_volume.2.1 58 = .ok (.laload, 1) := D_Mo_volume_0 (58, .laload, 1) (List.mem_of_getElem? (i := 30) rfl)
theorem d_Mo_volume_59 : decode Y_Mo_volume.2.1 59 = .ok (.lreturn, 1) := D_Mo_volume_0 (59, .lreturn, 1) (List.mem_of_getElem? (i := 31) rfl)
theorem D_Mo_boards_0 : ∀ q ∈ ([(0, .aload_n 0, 1), (1, .aload_n 0, 1), (2, .getfield 81, 3), (5, .ifCond .ne 7, 3), (8, .iconst 1, 1), (9, .goto 4, 3), (12, .iconst 0, 1), (13, .putfield 62, 3), (16, .aload_n 0, 1), (17, .getfield 62, 3), (20, .ifCond .le 7, 3), (23, .lconst 0, 1), (24, .goto 22, 3), (27, .iload_n 1, 1), (28, .ifCond .eq 12, 3), (31, .aload_n 0, 1), (32, .getfield 20, 3), (35, .iconst 4, 1), (36, .laload, 1), (37, .goto 9, 3), (40, .aload_n 0, 1), (41, .getfield 16, 3), (44, .iconst 4, 1), (45, .laload, 1), (46, .lreturn, 1)] : List (Nat × Instr × Nat)), decode prog_8_method_8_code q.1 = .ok (q.2.1, q.2.2) := by decide +kernel
theorem d_Mo_boards_0 : decode Y_Mo_boards.2.1 0 = .ok (.aload_n 0, 1) := D_Mo_boards_0 (0, .aload_n 0, 1) (List.mem_of_getElem? (i := 0) rfl)
theorem d_Mo_boards_1 : decode Y_Mo_boards.2.1 1 = .ok (.aload_n 0, 1) := D_Mo_boards_0 (1, .aload_n 0, 1) (List.mem_of_getElem? (i := 1) rfl)
theorem d_Mo_boards_2 : decode Y_Mo_boards.2.1 2 = .ok (.getfield 81, 3) := D_Mo_boards_0 (2, .getfield 81, 3) (List.mem_of_getElem? (i := 2) rfl)
theorem d_Mo_boards_5 : decode Y_Mo_boards.2.1 5 = .ok (.ifCond .ne 7, 3) := D_Mo_boards_0 (5, .ifCond .ne 7, 3) (List.mem_of_getElem? (i := 3) rfl)
theorem d_Mo_boards_8 : decode Y_Mo_boards.2.1 8 = .ok (.iconst 1, 1) := D_Mo_boards_0 (8, .iconst 1, 1) (List.mem_of_getElem? (i := 4) rfl)
theorem d_Mo_boards_9 : decode Y_Mo_boards.2.1 9 = .ok (.goto 4, 3) := D_Mo_boards_0 (9, .goto 4, 3) (List.mem_of_getElem? (i := 5) rfl)
theorem d_Mo_boards_12 : decode Y_Mo_boards.2.1 12 = .ok (.iconst 0, 1) := D_Mo_boards_0 (12, .iconst 0, 1) (List.mem_of_getElem? (i := 6) rfl)
theorem d_Mo_boards_13 : decode Y_Mo_boards.2.1 13 = .ok (.putfield 62, 3) := D_Mo_boards_0 (13, .putfield 62, 3) (List.mem_of_getElem? (i := 7) rfl)
theorem d_Mo_boards_16 : decode Y_Mo_boards.2.1 16 = .ok (.aload_n 0, 1) := D_Mo_boards_0 (16, .aload_n 0, 1) (List.mem_of_getElem? (i := 8) rfl)
theorem d_Mo_boards_17 : decode Y_Mo_boards.2.1 17 = .ok (.getfield 62, 3) := D_Mo_boards_0 (17, .getfield 62, 3) (List.mem_of_getElem? (i := 9) rfl)
theorem d_Mo_boards_20 : decode Y_Mo_boards.2.1 20 = .ok (.ifCond .le 7, 3) := D_Mo_boards_0 (20, .ifCond .le 7, 3) (List.mem_of_getElem? (i := 10) rfl)
theorem d_Mo_boards_23 : decode Y_Mo_boards.2.1 23 = .ok (.lconst 0, 1) := D_Mo_boards_0 (23, .lconst 0, 1) (List.mem_of_getElem? (i := 11) rfl)
theorem d_Mo_boards_24 : decode Y_Mo_boards.2.1 24 = .ok (.goto 22, 3) := D_Mo_boards_0 (24, .goto 22, 3) (List.mem_of_getElem? (i := 12) rfl)
theorem d_Mo_boards_27 : decode Y_Mo_boards.2.1 27 = .ok (.iload_n 1, 1) := D_Mo_boards_0 (27, .iload_n 1, 1) (List.mem_of_getElem? (i := 13) rfl)
theorem d_Mo_boards_28 : decode Y_Mo_boards.2.1 28 = .ok (.ifCond .eq 12, 3) := D_Mo_boards_0 (28, .ifCond .eq 12, 3) (List.mem_of_getElem? (i := 14) rfl)
theorem d_Mo_boards_31 : decode Y_Mo_boards.2.1 31 = .ok (.aload_n 0, 1) := D_Mo_boards_0 (31, .aload_n 0, 1) (List.mem_of_getElem? (i := 15) rfl)
theorem d_Mo_boards_32 : decode Y_Mo_boards.2.1 32 = .ok (.getfield 20, 3) := D_Mo_boards_0 (32, .getfield 20, 3) (List.mem_of_getElem? (i := 16) rfl)
theorem d_Mo_boards_35 : decode Y_Mo_boards.2.1 35 = .ok (.iconst 4, 1) := D_Mo_boards_0 (35, .iconst 4, 1) (List.mem_of_getElem? (i := 17) rfl)
theorem d_Mo_boards_36 : decode Y_Mo_boards.2.1 36 = .ok (.laload, 1) := D_Mo_boards_0 (36, .laload, 1) (List.mem_of_getElem? (i := 18) rfl)
theorem d_Mo_boards_37 : decode Y_Mo_boards.2.1 37 = .ok (.goto 9, 3) := D_Mo_boards_0 (37, .goto 9, 3) (List.mem_of_getElem? (i := 19) rfl)
theorem d_Mo_boards_40 : decode Y_Mo_boards.2.1 40 = .ok (.aload_n 0, 1) := D_Mo_boards_0 (40, .aload_n 0, 1) (List.mem_of_getElem? (i := 20) rfl)
theorem d_Mo_boards_41 : decode Y_Mo_boards.2.1 41 = .ok (.getfield 16, 3) := D_Mo_boards_0 (41, .getfield 16, 3) (List.mem_of_getElem? (i := 21) rfl)
theorem d_Mo_boards_44 : decode Y_Mo_boards.2.1 44 = .ok (.iconst 4, 1) := D_Mo_boards_0 (44, .iconst 4, 1) (List.mem_of_getElem? (i := 22) rfl)
theorem d_Mo_boards_45 : decode Y_Mo_boards.2.1 45 = .ok (.laload, 1) := D_Mo_boards_0 (45, .laload, 1) (List.mem_of_getElem? (i := 23) rfl)
theorem d_Mo_boards_46 : decode Y_Mo_boards.2.1 46 = .ok (.lreturn, 1) := D_Mo_boards_0 (46, .lreturn, 1) (List.mem_of_getElem? (i := 24) rfl)
theorem D_Mo_bin_0 : ∀ q ∈ ([(0, .aload_n 0, 1), (1, .iload_n 1, 1), (2, .ifCond .lt 8, 3), (5, .iload_n 1, 1), (6, .iconst 3, 1), (7, .if_icmp .le 7, 3), (10, .iconst 1, 1), (11, .goto 33, 3), (14, .iload_n 2, 1), (15, .i2l, 1), (16, .lconst 1, 1), (17, .ldc2_w 84, 3), (20, .invokestatic 71, 3), (23, .ifCond .ne 7, 3), (26, .iconst 2, 1), (27, .goto 17, 3), (30, .aload_n 0, 1), (31, .getfield 66, 3), (34, .bipush 8, 2), (36, .if_icmp .ne 7, 3), (39, .iconst 3, 1), (40, .goto 4, 3), (43, .iconst 0, 1), (44, .putfield 62, 3), (47, .aload_n 0, 1), (48, .getfield 62, 3), (51, .ifCond .le 5, 3), (54, .iconst 0, 1), (55, .ireturn, 1), (56, .aload_n 0, 1), (57, .getfield 23, 3), (60, .aload_n 0, 1), (61, .getfield 66, 3), (64, .iload_n 1, 1), (65, .iastore, 1), (66, .aload_n 0, 1), (67, .getfield 26, 3), (70, .aload_n 0, 1), (71, .getfield 66, 3), (74, .iload_n 2, 1), (75, .i2l, 1), (76, .lastore, 1), (77, .aload_n 0, 1), (78, .dup, 1), (79, .getfield 66, 3), (82, .iconst 1, 1), (83, .iadd, 1), (84, .putfield 66, 3), (87, .aload_n 0, 1), (88, .getfield 66, 3), (91, .iconst 1, 1), (92, .isub, 1), (93, .ireturn, 1)] : List (Nat × Instr × Nat)), decode prog_8_method_9_code q.1 = .ok (q.2.1, q.2.2) := by decide +kernel
theorem d_Mo_bin_0 : decode Y_Mo_bin.2.1 0 = .ok (.aload_n 0, 1) := D_Mo_bin_0 (0, .aload_n 0, 1) (List.mem_of_getElem? (i := 0) rfl)
theorem d_Mo_bin_1 : decode Y_Mo_bin.2.1 1 = .ok (.iload_n 1, 1) := D_Mo_bin_0 (1, .iload_n 1, 1) (List.mem_of_getElem? (i := 1) rfl)
theorem d_Mo_bin_2 : decode Y_Mo_bin.2.1 2 = .ok (.ifCond .lt 8, 3) := D_Mo_bin_0 (2, .ifCond .lt 8, 3) (List.mem_of_getElem? (i := 2) rfl)
theorem d_Mo_bin_5 : decode Y_Mo_bin.2.1 5 = .ok (.iload_n 1, 1) := D_Mo_bin_0 (5, .iload_n 1, 1) (List.mem_of_getElem? (i := 3) rfl)
theorem d_Mo_bin_6 : decode Y_Mo_bin.2.1 6 = .ok (.iconst 3, 1) := D_Mo_bin_0 (6, .iconst 3, 1) (List.mem_of_getElem? (i := 4) rfl)
theorem d_Mo_bin_7 : decode Y_Mo_bin.2.1 7 = .ok (.if_icmp .le 7, 3) := D_Mo_bin_0 (7, .if_icmp .le 7, 3) (List.mem_of_getElem? (i := 5) rfl)
theorem d_Mo_bin_10 : decode Y_Mo_bin.2.1 10 = .ok (.iconst 1, 1) := D_Mo_bin_0 (10, .iconst 1, 1) (List.mem_of_getElem? (i := 6) rfl)
theorem d_Mo_bin_11 : decode Y_Mo_bin.2.1 11 = .ok (.goto 33, 3) := D_Mo_bin_0 (11, .goto 33, 3) (List.mem_of_getElem? (i := 7) rfl)
theorem d_Mo_bin_14 : decode Y_Mo_bin.2.1 14 = .ok (.iload_n 2, 1) := D_Mo_bin_0 (14, .iload_n 2, 1) (List.mem_of_getElem? (i := 8) rfl)
theorem d_Mo_bin_15 : decode Y_Mo_bin.2.1 15 = .ok (.i2l, 1) := D_Mo_bin_0 (15, .i2l, 1) (List.mem_of_getElem? (i := 9) rfl)
theorem d_Mo_bin_16 : decode Y_Mo_bin.2.1 16 = .ok (.lconst 1, 1) := D_Mo_bin_0 (16, .lconst 1, 1) (List.mem_of_getElem? (i := 10) rfl)
theorem d_Mo_bin_17 : decode Y_Mo_bin.2.1 17 = .ok (.ldc2_w 84, 3) := D_Mo_bin_0 (17, .ldc2_w 84, 3) (List.mem_of_getElem? (i := 11) rfl)
theorem d_Mo_bin_20 : decode Y_Mo_bin.2.1 20 = .ok (.invokestatic 71, 3) := D_Mo_bin_0 (20, .invokestatic 71, 3) (List.mem_of_getElem? (i := 12) rfl)
theorem d_Mo_bin_23 : decode Y_Mo_bin.2.1 23 = .ok (.ifCond .ne 7, 3) := D_Mo_bin_0 (23, .ifCond .ne 7, 3) (List.mem_of_getElem? (i := 13) rfl)
theorem d_Mo_bin_26 : decode Y_Mo_bin.2.1 26 = .ok (.iconst 2, 1) := D_Mo_bin_0 (26, .iconst 2, 1) (List.mem_of_getElem? (i := 14) rfl)
theorem d_Mo_bin_27 : decode Y_Mo_bin.2.1 27 = .ok (.goto 17, 3) := D_Mo_bin_0 (27, .goto 17, 3) (List.mem_of_getElem? (i := 15) rfl)
theorem d_Mo_bin_30 : decode Y_Mo_bin.2.1 30 = .ok (.aload_n 0, 1) := D_Mo_bin_0 (30, .aload_n 0, 1) (List.mem_of_getElem? (i := 16) rfl)
theorem d_Mo_bin_31 : decode Y_Mo_bin.2.1 31 = .ok (.getfield 66, 3) := D_Mo_bin_0 (31, .getfield 66, 3) (List.mem_of_getElem? (i := 17) rfl)
theorem d_Mo_bin_34 : decode Y_Mo_bin.2.1 34 = .ok (.bipush 8, 2) := D_Mo_bin_0 (34, .bipush 8, 2) (List.mem_of_getElem? (i := 18) rfl)
theorem d_Mo_bin_36 : decode Y_Mo_bin.2.1 36 = .ok (.if_icmp .ne 7, 3) := D_Mo_bin_0 (36, .if_icmp .ne 7, 3) (List.mem_of_getElem? (i := 19) rfl)
theorem d_Mo_bin_39 : decode Y_Mo_bin.2.1 39 = .ok (.iconst 3, 1) := D_Mo_bin_0 (39, .iconst 3, 1) (List.mem_of_getElem? (i := 20) rfl)
theorem d_Mo_bin_40 : decode Y_Mo_bin.2.1 40 = .ok (.goto 4, 3) := D_Mo_bin_0 (40, .goto 4, 3) (List.mem_of_getElem? (i := 21) rfl)
theorem d_Mo_bin_43 : decode Y_Mo_bin.2.1 43 = .ok (.iconst 0, 1) := D_Mo_bin_0 (43, .iconst 0, 1) (List.mem_of_getElem? (i := 22) rfl)
theorem d_Mo_bin_44 : decode Y_Mo_bin.2.1 44 = .ok (.putfield 62, 3) := D_Mo_bin_0 (44, .putfield 62, 3) (List.mem_of_getElem? (i := 23) rfl)
theorem d_Mo_bin_47 : decode Y_Mo_bin.2.1 47 = .ok (.aload_n 0, 1) := D_Mo_bin_0 (47, .aload_n 0, 1) (List.mem_of_getElem? (i := 24) rfl)
theorem d_Mo_bin_48 : decode Y_Mo_bin.2.1 48 = .ok (.getfield 62, 3) := D_Mo_bin_0 (48, .getfield 62, 3) (List.mem_of_getElem? (i := 25) rfl)
theorem d_Mo_bin_51 : decode Y_Mo_bin.2.1 51 = .ok (.ifCond .le 5, 3) := D_Mo_bin_0 (51, .ifCond .le 5, 3) (List.mem_of_getElem? (i := 26) rfl)
theorem d_Mo_bin_54 : decode Y_Mo_bin.2.1 54 = .ok (.iconst 0, 1) := D_Mo_bin_0 (54, .iconst 0, 1) (List.mem_of_getElem? (i := 27) rfl)
theorem d_Mo_bin_55 : decode Y_Mo_bin.2.1 55 = .ok (.ireturn, 1) := D_Mo_bin_0 (55, .ireturn, 1) (List.mem_of_getElem? (i := 28) rfl)
theorem d_Mo_bin_56 : decode Y_Mo_bin.2.1 56 = .ok (.aload_n 0, 1) := D_Mo_bin_0 (56, .aload_n 0, 1) (List.mem_of_getElem? (i := 29) rfl)
theorem d_Mo_bin_57 : decode Y_Mo_bin.2.1 57 = .ok (.getfield 23, 3) := D_Mo_bin_0 (57, .getfield 23, 3) (List.mem_of_getElem? (i := 30) rfl)
theorem d_Mo_bin_60 : decode Y_Mo_bin.2.1 60 = .ok (.aload_n 0, 1) := D_Mo_bin_0 (60, .aload_n 0, 1) (List.mem_of_getElem? (i := 31) rfl)
theorem d_Mo_bin_61 : decode Y_Mo_bin.2.1 61 = .ok (.getfield 66, 3) := D_Mo_bin_0 (61, .getfield 66, 3) (List.mem_of_getElem? (i := 32) rfl)
theorem d_Mo_bin_64 : decode Y_Mo_bin.2.1 64 = .ok (.iload_n 1, 1) := D_Mo_bin_0 (64, .iload_n 1, 1) (List.mem_of_getElem? (i := 33) rfl)
theorem d_Mo_bin_65 : decode Y_Mo_bin.2.1 65 = .ok (.iastore, 1) := D_Mo_bin_0 (65, .iastore, 1) (List.mem_of_getElem? (i := 34) rfl)
theorem d_Mo_bin_66 : decode Y_Mo_bin.2.1 66 = .ok (.aload_n 0, 1) := D_Mo_bin_0 (66, .aload_n 0, 1) (List.mem_of_getElem? (i := 35) rfl)
theorem d_Mo_bin_67 : decode Y_Mo_bin.2.1 67 = .ok (.getfield 26, 3) := D_Mo_bin_0 (67, .getfield 26, 3) (List.mem_of_getElem? (i := 36) rfl)
theorem d_Mo_bin_70 : decode Y_Mo_bin.2.1 70 = .ok (.aload_n 0, 1) := D_Mo_bin_0 (70, .aload_n 0, 1) (List.mem_of_getElem? (i := 37) rfl)
theorem d_Mo_bin_71 : decode Y_Mo_bin.2.1 71 = .ok (.getfield 66, 3) := D_Mo_bin_0 (71, .getfield 66, 3) (List.mem_of_getElem? (i := 38) rfl)
theorem d_Mo_bin_74 : decode Y_Mo_bin.2.1 74 = .ok (.iload_n 2, 1) := D_Mo_bin_0 (74, .iload_n 2, 1) (List.mem_of_getElem? (i := 39) rfl)
theorem d_Mo_bin_75 : decode Y_Mo_bin.2.1 75 = .ok (.i2l, 1) := D_Mo_bin_0 (75, .i2l, 1) (List.mem_of_getElem? (i := 40) rfl)
theorem d_Mo_bin_76 : decode Y_Mo_bin.2.1 76 = .ok (.lastore, 1) := D_Mo_bin_0 (76, .lastore, 1) (List.mem_of_getElem? (i := 41) rfl)
theorem d_Mo_bin_77 : decode Y_Mo_bin.2.1 77 = .ok (.aload_n 0, 1) := D_Mo_bin_0 (77, .aload_n 0, 1) (List.mem_of_getElem? (i := 42) rfl)
theorem d_Mo_bin_78 : decode Y_Mo_bin.2.1 78 = .ok (.dup, 1) := D_Mo_bin_0 (78, .dup, 1) (List.mem_of_getElem? (i := 43) rfl)
theorem d_Mo_bin_79 : decode Y_Mo_bin.2.1 79 = .ok (.getfield 66, 3) := D_Mo_bin_0 (79, .getfield 66, 3) (List.mem_of_getElem? (i := 44) rfl)
theorem d_Mo_bin_82 : decode Y_Mo_bin.2.1 82 = .ok (.iconst 1, 1) := D_Mo_bin_0 (82, .iconst 1, 1) (List.mem_of_getElem? (i := 45) rfl)
theorem d_Mo_bin_83 : decode Y_Mo_bin.2.1 83 = .ok (.iadd, 1) := D_Mo_bin_0 (83, .iadd, 1) (List.mem_of_getElem? (i := 46) rfl)
theorem d_Mo_bin_84 : decode Y_Mo_bin.2.1 84 = .ok (.putfield 66, 3) := D_Mo_bin_0 (84, .putfield 66, 3) (List.mem_of_getElem? (i := 47) rfl)
theorem d_Mo_bin_87 : decode Y_Mo_bin.2.1 87 = .ok (.aload_n 0, 1) := D_Mo_bin_0 (87, .aload_n 0, 1) (List.mem_of_getElem? (i := 48) rfl)
theorem d_Mo_bin_88 : decode Y_Mo_bin.2.1 88 = .ok (.getfield 66, 3) := D_Mo_bin_0 (88, .getfield 66, 3) (List.mem_of_getElem? (i := 49) rfl)
theorem d_Mo_bin_91 : decode Y_Mo_bin.2.1 91 = .ok (.iconst 1, 1) := D_Mo_bin_0 (91, .iconst 1, 1) (List.mem_of_getElem? (i := 50) rfl)
theorem d_Mo_bin_92 : decode Y_Mo_bin.2.1 92 = .ok (.isub, 1) := D_Mo_bin_0 (92, .isub, 1) (List.mem_of_getElem? (i := 51) rfl)
theorem d_Mo_bin_93 : decode Y_Mo_bin.2.1 93 = .ok (.ireturn, 1) := D_Mo_bin_0 (93, .ireturn, 1) (List.mem_of_getElem? (i := 52) rfl)
theorem D_Mo_pour_0 : ∀ q ∈ ([(0, .aload_n 0, 1), (1, .aload_n 0, 1), (2, .iload_n 1, 1), (3, .invokevirtual 94, 3), (6, .ifCond .eq 7, 3), (9, .iconst 1, 1), (10, .goto 16, 3), (13, .iload_n 2, 1), (14, .iload_n 3, 1), (15, .invokestatic 98, 3), (18, .ifCond .eq 7, 3), (21, .iconst 0, 1), (22, .goto 4, 3), (25, .iconst 2, 1), (26, .putfield 62, 3), (29, .aload_n 0, 1), (30, .getfield 62, 3), (33, .ifCond .gt 13, 3), (36, .aload_n 0, 1), (37, .iload_n 1, 1), (38, .iload_n 2, 1), (39, .i2l, 1), (40, .invokevirtual 102, 3), (43, .ifCond .ne 5, 3), (46, .iconst 0, 1), (47, .ireturn, 1), (48, .aload_n 0, 1), (49, .iload_n 1, 1), (50, .iload_n 2, 1), (51, .i2l, 1), (52, .iload_n 3, 1), (53, .invokevirtual 106, 3), (56, .iconst 1, 1), (57, .ireturn, 1)] : List (Nat × Instr × Nat)), decode prog_8_method_14_code q.1 = .ok (q.2.1, q.2.2) := by decide +kernel
theorem d_Mo_pour_0 : decode Y_Mo_pour.2.1 0 = .ok (.aload_n 0, 1) := D_Mo_pour_0 (0, .aload_n 0, 1) (List.mem_of_getElem? (i := 0) rfl)
theorem d_Mo_pour_1 : decode Y_Mo_pour.2.1 1 = .ok (.aload_n 0, 1) := D_Mo_pour_0 (1, .aload_n 0, 1) (List.mem_of_getElem? (i := 1) rfl)
theorem d_Mo_pour_2 : decode Y_Mo_pour.2.1 2 = .ok (.iload_n 1, 1) := D_Mo_pour_0 (2, .iload_n 1, 1) (List.mem_of_getElem? (i := 2) rfl)
theorem d_Mo_pour_3 : decode Y_Mo_pour.2.1 3 = .ok (.invokevirtual 94, 3) := D_Mo_pour_0 (3, .invokevirtual 94, 3) (List.mem_of_getElem? (i := 3) rfl)
theorem d_Mo_pour_6 : decode Y_Mo_pour.2.1 6 = .ok (.ifCond .eq 7, 3) := D_Mo_pour_0 (6, .ifCond .eq 7, 3) (List.mem_of_getElem? (i := 4) rfl)
theorem d_Mo_pour_9 : decode Y_Mo_pour.2.1 9 = .ok (.iconst 1, 1) := D_Mo_pour_0 (9, .iconst 1, 1) (List.mem_of_getElem? (i := 5) rfl)
theorem d_Mo_pour_10 : decode Y_Mo_pour.2.1 10 = .ok (.goto 16, 3) := D_Mo_pour_0 (10, .goto 16, 3) (List.mem_of_getElem? (i := 6) rfl)
theorem d_Mo_pour_13 : decode Y_Mo_pour.2.1 13 = .ok (.iload_n 2, 1) := D_Mo_pour_0 (13, .iload_n 2, 1) (List.mem_of_getElem? (i := 7) rfl)
theorem d_Mo_pour_14 : decode Y_Mo_pour.2.1 14 = .ok (.iload_n 3, 1) := D_Mo_pour_0 (14, .iload_n 3, 1) (List.mem_of_getElem? (i := 8) rfl)
theorem d_Mo_pour_15 : decode Y_Mo_pour.2.1 15 = .ok (.invokestatic 98, 3) := D_Mo_pour_0 (15, .invokestatic 98, 3) (List.mem_of_getElem? (i := 9) rfl)
theorem d_Mo_pour_18 : decode Y_Mo_pour.2.1 18 = .ok (.ifCond .eq 7, 3) := D_Mo_pour_0 (18, .ifCond .eq 7, 3) (List.mem_of_getElem? (i := 10) rfl)
theorem d_Mo_pour_21 : decode Y_Mo_pour.2.1 21 = .ok (.iconst 0, 1) := D_Mo_pour_0 (21, .iconst 0, 1) (List.mem_of_getElem? (i := 11) rfl)
theorem d_Mo_pour_22 : decode Y_Mo_pour.2.1 22 = .ok (.goto 4, 3) := D_Mo_pour_0 (22, .goto 4, 3) (List.mem_of_getElem? (i := 12) rfl)
theorem d_Mo_pour_25 : decode Y_Mo_pour.2.1 25 = .ok (.iconst 2, 1) := D_Mo_pour_0 (25, .iconst 2, 1) (List.mem_of_getElem? (i := 13) rfl)
theorem d_Mo_pour_26 : decode Y_Mo_pour.2.1 26 = .ok (.putfield 62, 3) := D_Mo_pour_0 (26, .putfield 62, 3) (List.mem_of_getElem? (i := 14) rfl)
theorem d_Mo_pour_29 : decode Y_Mo_pour.2.1 29 = .ok (.aload_n 0, 1) := D_Mo_pour_0 (29, .aload_n 0, 1) (List.mem_of_getElem? (i := 15) rfl)
theorem d_Mo_pour_30 : decode Y_Mo_pour.2.1 30 = .ok (.getfield 62, 3) := D_Mo_pour_0 (30, .getfield 62, 3) (List.mem_of_getElem? (i := 16) rfl)
theorem d_Mo_pour_33 : decode Y_Mo_pour.2.1 33 = .ok (.ifCond .gt 13, 3) := D_Mo_pour_0 (33, .ifCond .gt 13, 3) (List.mem_of_getElem? (i := 17) rfl)
theorem d_Mo_pour_36 : decode Y_Mo_pour.2.1 36 = .ok (.aload_n 0, 1) := D_Mo_pour_0 (36, .aload_n 0, 1) (List.mem_of_getElem? (i := 18) rfl)
theorem d_Mo_pour_37 : decode Y_Mo_pour.2.1 37 = .ok (.iload_n 1, 1) := D_Mo_pour_0 (37, .iload_n 1, 1) (List.mem_of_getElem? (i := 19) rfl)
theorem d_Mo_pour_38 : decode Y_Mo_pour.2.1 38 = .ok (.iload_n 2, 1) := D_Mo_pour_0 (38, .iload_n 2, 1) (List.mem_of_getElem? (i := 20) rfl)
theorem d_Mo_pour_39 : decode Y_Mo_pour.2.1 39 = .ok (.i2l, 1) := D_Mo_pour_0 (39, .i2l, 1) (List.mem_of_getElem? (i := 21) rfl)
theorem d_Mo_pour_40 : decode Y_Mo_pour.2.1 40 = .ok (.invokevirtual 102, 3) := D_Mo_pour_0 (40, .invokevirtual 102, 3) (List.mem_of_getElem? (i := 22) rfl)
theorem d_Mo_pour_43 : decode Y_Mo_pour.2.1 43 = .ok (.ifCond .ne 5, 3) := D_Mo_pour_0 (43, .ifCond .ne 5, 3) (List.mem_of_getElem? (i := 23) rfl)
theorem d_Mo_pour_46 : decode Y_Mo_pour.2.1 46 = .ok (.iconst 0, 1) := D_Mo_pour_0 (46, .iconst 0, 1) (List.mem_of_getElem? (i := 24) rfl)
theorem d_Mo_pour_47 : decode Y_Mo_pour.2.1 47 = .ok (.ireturn, 1) := D_Mo_pour_0 (47, .ireturn, 1) (List.mem_of_getElem? (i := 25) rfl)
theorem d_Mo_pour_48 : decode Y_Mo_pour.2.1 48 = .ok (.aload_n 0, 1) := D_Mo_pour_0 (48, .aload_n 0, 1) (List.mem_of_getElem? (i := 26) rfl)
theorem d_Mo_pour_49 : decode Y_Mo_pour.2.1 49 = .ok (.iload_n 1, 1) := D_Mo_pour_0 (49, .iload_n 1, 1) (List.mem_of_getElem? (i := 27) rfl)
theorem d_Mo_pour_50 : decode Y_Mo_pour.2.1 50 = .ok (.iload_n 2, 1) := D_Mo_pour_0 (50, .iload_n 2, 1) (List.mem_of_getElem? (i := 28) rfl)
theorem d_Mo_pour_51 : decode Y_Mo_pour.2.1 51 = .ok (.i2l, 1) := D_Mo_pour_0 (51, .i2l, 1) (List.mem_of_getElem? (i := 29) rfl)
theorem d_Mo_pour_52 : decode Y_Mo_pour.2.1 52 = .ok (.iload_n 3, 1) := D_Mo_pour_0 (52, .iload_n 3, 1) (List.mem_of_getElem? (i := 30) rfl)
theorem d_Mo_pour_53 : decode Y_Mo_pour.2.1 53 = .ok (.invokevirtual 106, 3) := D_Mo_pour_0 (53, .invokevirtual 106, 3) (List.mem_of_getElem? (i := 31) rfl)
theorem d_Mo_pour_56 : decode Y_Mo_pour.2.1 56 = .ok (.iconst 1, 1) := D_Mo_pour_0 (56, .iconst 1, 1) (List.mem_of_getElem? (i := 32) rfl)
theorem d_Mo_pour_57 : decode Y_Mo_pour.2.1 57 = .ok (.ireturn, 1) := D_Mo_pour_0 (57, .ireturn, 1) (List.mem_of_getElem? (i := 33) rfl)
theorem D_Mo_noBin_0 : ∀ q ∈ ([(0, .iload_n 1, 1), (1, .ifCond .lt 11, 3), (4, .iload_n 1, 1), (5, .aload_n 0, 1), (6, .getfield 66, 3), (9, .if_icmp .lt 7, 3), (12, .iconst 1, 1), (13, .goto 4, 3), (16, .iconst 0, 1), (17, .ireturn, 1)] : List (Nat × Instr × Nat)), decode prog_8_method_4_code q.1 = .ok (q.2.1, q.2.2) := by decide +kernel
theorem d_Mo_noBin_0 : decode Y_Mo_noBin.2.1 0 = .ok (.iload_n 1, 1) := D_Mo_noBin_0 (0, .iload_n 1, 1) (List.mem_of_getElem? (i := 0) rfl)
theorem d_Mo_noBin_1 : decode Y_Mo_noBin.2.1 1 = .ok (.ifCond .lt 11, 3) := D_Mo_noBin_0 (1, .ifCond .lt 11, 3) (List.mem_of_getElem? (i := 1) rfl)
theorem d_Mo_noBin_4 : decode Y_Mo_noBin.2.1 4 = .ok (.iload_n 1, 1) := D_Mo_noBin_0 (4, .iload_n 1, 1) (List.mem_of_getElem? (i := 2) rfl)
theorem d_Mo_noBin_5 : decode Y_Mo_noBin.2.1 5 = .ok (.aload_n 0, 1) := D_Mo_noBin_0 (5, .aload_n 0, 1) (List.mem_of_getElem? (i := 3) rfl)
theorem d_Mo_noBin_6 : decode Y_Mo_noBin.2.1 6 = .ok (.getfield 66, 3) := D_Mo_noBin_0 (6, .getfield 66, 3) (List.mem_of_getElem? (i := 4) rfl)
theorem d_Mo_noBin_9 : decode Y_Mo_noBin.2.1 9 = .ok (.if_icmp .lt 7, 3) := D_Mo_noBin_0 (9, .if_icmp .lt 7, 3) (List.mem_of_getElem? (i := 5) rfl)
theorem d_Mo_noBin_12 : decode Y_Mo_noBin.2.1 12 = .ok (.iconst 1, 1) := D_Mo_noBin_0 (12, .iconst 1, 1) (List.mem_of_getElem? (i := 6) rfl)
theorem d_Mo_noBin_13 : decode Y_Mo_noBin.2.1 13 = .ok (.goto 4, 3) := D_Mo_noBin_0 (13, .goto 4, 3) (List.mem_of_getElem? (i := 7) rfl)
theorem d_Mo_noBin_16 : decode Y_Mo_noBin.2.1 16 = .ok (.iconst 0, 1) := D_Mo_noBin_0 (16, .iconst 0, 1) (List.mem_of_getElem? (i := 8) rfl)
theorem d_Mo_noBin_17 : decode Y_Mo_noBin.2.1 17 = .ok (.ireturn, 1) := D_Mo_noBin_0 (17, .ireturn, 1) (List.mem_of_getElem? (i := 9) rfl)
theorem D_Mo_isPoured_0 : ∀ q ∈ ([(0, .iload_n 0, 1), (1, .i2l, 1), (2, .lconst 0, 1), (3, .ldc2_w 84, 3), (6, .invokestatic 71, 3), (9, .ifCond .eq 19, 3), (12, .iload_n 1, 1), (13, .i2l, 1), (14, .lconst 0, 1), (15, .ldc2_w 75, 3), (18, .invokestatic 71, 3), (21, .ifCond .eq 7, 3), (24, .iconst 1, 1), (25, .goto 4, 3), (28, .iconst 0, 1), (29, .ireturn, 1)] : List (Nat × Instr × Nat)), decode prog_8_method_13_code q.1 = .ok (q.2.1, q.2.2) := by decide +kernel
theorem d_Mo_isPoured_0 : decode Y_Mo_isPoured.2.1 0 = .ok (.iload_n 0, 1) := D_Mo_isPoured_0 (0, .iload_n 0, 1) (List.mem_of_getElem? (i := 0) rfl)
theorem d_Mo_isPoured_1 : decode Y_Mo_isPoured.2.1 1 = .ok (.i2l, 1) := D_Mo_isPoured_0 (1, .i2l, 1) (List.mem_of_getElem? (i := 1) rfl)
theorem d_Mo_isPoured_2 : decode Y_Mo_isPoured.2.1 2 = .ok (.lconst 0, 1) := D_Mo_isPoured_0 (2, .lconst 0, 1) (List.mem_of_getElem? (i := 2) rfl)
theorem d_Mo_isPoured_3 : decode Y_Mo_isPoured.2.1 3 = .ok (.ldc2_w 84, 3) := D_Mo_isPoured_0 (3, .ldc2_w 84, 3) (List.mem_of_getElem? (i := 3) rfl)
theorem d_Mo_isPoured_6 : decode Y_Mo_isPoured.2.1 6 = .ok (.invokestatic 71, 3) := D_Mo_isPoured_0 (6, .invokestatic 71, 3) (List.mem_of_getElem? (i := 4) rfl)
theorem d_Mo_isPoured_9 : decode Y_Mo_isPoured.2.1 9 = .ok (.ifCond .eq 19, 3) := D_Mo_isPoured_0 (9, .ifCond .eq 19, 3) (List.mem_of_getElem? (i := 5) rfl)
theorem d_Mo_isPoured_12 : decode Y_Mo_isPoured.2.1 12 = .ok (.iload_n 1, 1) := D_Mo_isPoured_0 (12, .iload_n 1, 1) (List.mem_of_getElem? (i := 6) rfl)
theorem d_Mo_isPoured_13 : decode Y_Mo_isPoured.2.1 13 = .ok (.i2l, 1) := D_Mo_isPoured_0 (13, .i2l, 1) (List.mem_of_getElem? (i := 7) rfl)
theorem d_Mo_isPoured_14 : decode Y_Mo_isPoured.2.1 14 = .ok (.lconst 0, 1) := D_Mo_isPoured_0 (14, .lconst 0, 1) (List.mem_of_getElem? (i := 8) rfl)
theorem d_Mo_isPoured_15 : decode Y_Mo_isPoured.2.1 15 = .ok (.ldc2_w 75, 3) := D_Mo_isPoured_0 (15, .ldc2_w 75, 3) (List.mem_of_getElem? (i := 9) rfl)
theorem d_Mo_isPoured_18 : decode Y_Mo_isPoured.2.1 18 = .ok (.invokestatic 71, 3) := D_Mo_isPoured_0 (18, .invokestatic 71, 3) (List.mem_of_getElem? (i := 10) rfl)
theorem d_Mo_isPoured_21 : decode Y_Mo_isPoured.2.1 21 = .ok (.ifCond .eq 7, 3) := D_Mo_isPoured_0 (21, .ifCond .eq 7, 3) (List.mem_of_getElem? (i := 11) rfl)
theorem d_Mo_isPoured_24 : decode Y_Mo_isPoured.2.1 24 = .ok (.iconst 1, 1) := D_Mo_isPoured_0 (24, .iconst 1, 1) (List.mem_of_getElem? (i := 12) rfl)
theorem d_Mo_isPoured_25 : decode Y_Mo_isPoured.2.1 25 = .ok (.goto 4, 3) := D_Mo_isPoured_0 (25, .goto 4, 3) (List.mem_of_getElem? (i := 13) rfl)
theorem d_Mo_isPoured_28 : decode Y_Mo_isPoured.2.1 28 = .ok (.iconst 0, 1) := D_Mo_isPoured_0 (28, .iconst 0, 1) (List.mem_of_getElem? (i := 14) rfl)
theorem d_Mo_isPoured_29 : decode Y_Mo_isPoured.2.1 29 = .ok (.ireturn, 1) := D_Mo_isPoured_0 (29, .ireturn, 1) (List.mem_of_getElem? (i := 15) rfl)
theorem D_Mo_hasRoom_0 : ∀ q ∈ ([(0, .aload_n 0, 1), (1, .iload_n 1, 1), (2, .invokevirtual 86, 3), (5, .ldc2_w 75, 3), (8, .lload_n 2, 1), (9, .lmul, 1), (10, .ladd, 1), (11, .ldc2_w 75, 3), (14, .aload_n 0, 1), (15, .getfield 26, 3), (18, .iload_n 1, 1), (19, .laload, 1), (20, .lmul, 1), (21, .lcmp, 1), (22, .ifCond .gt 7, 3), (25, .iconst 1, 1), (26, .goto 4, 3), (29, .iconst 0, 1), (30, .ireturn, 1)] : List (Nat × Instr × Nat)), decode prog_8_method_11_code q.1 = .ok (q.2.1, q.2.2) := by decide +kernel
theorem d_Mo_hasRoom_0 : decode Y_Mo_hasRoom.2.1 0 = .ok (.aload_n 0, 1) := D_Mo_hasRoom_0 (0, .aload_n 0, 1) (List.mem_of_getElem? (i := 0) rfl)
theorem d_Mo_hasRoom_1 : decode Y_Mo_hasRoom.2.1 1 = .ok (.iload_n 1, 1) := D_Mo_hasRoom_0 (1, .iload_n 1, 1) (List.mem_of_getElem? (i := 1) rfl)
theorem d_Mo_hasRoom_2 : decode Y_Mo_hasRoom.2.1 2 = .ok (.invokevirtual 86, 3) := D_Mo_hasRoom_0 (2, .invokevirtual 86, 3) (List.mem_of_getElem? (i := 2) rfl)
theorem d_Mo_hasRoom_5 : decode Y_Mo_hasRoom.2.1 5 = .ok (.ldc2_w 75, 3) := D_Mo_hasRoom_0 (5, .ldc2_w 75, 3) (List.mem_of_getElem? (i := 3) rfl)
theorem d_Mo_hasRoom_8 : decode Y_Mo_hasRoom.2.1 8 = .ok (.lload_n 2, 1) := D_Mo_hasRoom_0 (8, .lload_n 2, 1) (List.mem_of_getElem? (i := 4) rfl)
theorem d_Mo_hasRoom_9 : decode Y_Mo_hasRoom.2.1 9 = .ok (.lmul, 1) := D_Mo_hasRoom_0 (9, .lmul, 1) (List.mem_of_getElem? (i := 5) rfl)
theorem d_Mo_hasRoom_10 : decode Y_Mo_hasRoom.2.1 10 = .ok (.ladd, 1) := D_Mo_hasRoom_0 (10, .ladd, 1) (List.mem_of_getElem? (i := 6) rfl)
theorem d_Mo_hasRoom_11 : decode Y_Mo_hasRoom.2.1 11 = .ok (.ldc2_w 75, 3) := D_Mo_hasRoom_0 (11, .ldc2_w 75, 3) (List.mem_of_getElem? (i := 7) rfl)
theorem d_Mo_hasRoom_14 : decode Y_Mo_hasRoom.2.1 14 = .ok (.aload_n 0, 1) := D_Mo_hasRoom_0 (14, .aload_n 0, 1) (List.mem_of_getElem? (i := 8) rfl)
theorem d_Mo_hasRoom_15 : decode Y_Mo_hasRoom.2.1 15 = .ok (.getfield 26, 3) := D_Mo_hasRoom_0 (15, .getfield 26, 3) (List.mem_of_getElem? (i := 9) rfl)
theorem d_Mo_hasRoom_18 : decode Y_Mo_hasRoom.2.1 18 = .ok (.iload_n 1, 1) := D_Mo_hasRoom_0 (18, .iload_n 1, 1) (List.mem_of_getElem? (i := 10) rfl)
theorem d_Mo_hasRoom_19 : decode Y_Mo_hasRoom.2.1 19 = .ok (.laload, 1) := D_Mo_hasRoom_0 (19, .laload, 1) (List.mem_of_getElem? (i := 11) rfl)
theorem d_Mo_hasRoom_20 : decode Y_Mo_hasRoom.2.1 20 = .ok (.lmul, 1) := D_Mo_hasRoom_0 (20, .lmul, 1) (List.mem_of_getElem? (i := 12) rfl)
theorem d_Mo_hasRoom_21 : decode Y_Mo_hasRoom.2.1 21 = .ok (.lcmp, 1) := D_Mo_hasRoom_0 (21, .lcmp, 1) (List.mem_of_getElem? (i := 13) rfl)
theorem d_Mo_hasRoom_22 : decode Y_Mo_hasRoom.2.1 22 = .ok (.ifCond .gt 7, 3) := D_Mo_hasRoom_0 (22, .ifCond .gt 7, 3) (List.mem_of_getElem? (i := 14) rfl)
theorem d_Mo_hasRoom_25 : decode Y_Mo_hasRoom.2.1 25 = .ok (.iconst 1, 1) := D_Mo_hasRoom_0 (25, .iconst 1, 1) (List.mem_of_getElem? (i := 15) rfl)
theorem d_Mo_hasRoom_26 : decode Y_Mo_hasRoom.2.1 26 = .ok (.goto 4, 3) := D_Mo_hasRoom_0 (26, .goto 4, 3) (List.mem_of_getElem? (i := 16) rfl)
theorem d_Mo_hasRoom_29 : decode Y_Mo_hasRoom.2.1 29 = .ok (.iconst 0, 1) := D_Mo_hasRoom_0 (29, .iconst 0, 1) (List.mem_of_getElem? (i := 17) rfl)
theorem d_Mo_hasRoom_30 : decode Y_Mo_hasRoom.2.1 30 = .ok (.ireturn, 1) := D_Mo_hasRoom_0 (30, .ireturn, 1) (List.mem_of_getElem? (i := 18) rfl)
theorem D_Mo_all_0 : ∀ q ∈ ([(0, .aload_n 0, 1), (1, .getfield 29, 3), (4, .iload_n 1, 1), (5, .laload, 1), (6, .aload_n 0, 1), (7, .getfield 32, 3), (10, .iload_n 1, 1), (11, .laload, 1), (12, .ladd, 1), (13, .lreturn, 1)] : List (Nat × Instr × Nat)), decode prog_8_method_10_code q.1 = .ok (q.2.1, q.2.2) := by decide +kernel
theorem d_Mo_all_0 : decode Y_Mo_all.2.1 0 = .ok (.aload_n 0, 1) := D_Mo_all_0 (0, .aload_n 0, 1) (List.mem_of_getElem? (i := 0) rfl)
theorem d_Mo_all_1 : decode Y_Mo_all.2.1 1 = .ok (.getfield 29, 3) := D_Mo_all_0 (1, .getfield 29, 3) (List.mem_of_getElem? (i := 1) rfl)
theorem d_Mo_all_4 : decode Y_Mo_all.2.1 4 = .ok (.iload_n 1, 1) := D_Mo_all_0 (4, .iload_n 1, 1) (List.mem_of_getElem? (i := 2) rfl)
theorem d_Mo_all_5 : decode Y_Mo_all.2.1 5 = .ok (.laload, 1) := D_Mo_all_0 (5, .laload, 1) (List.mem_of_getElem? (i := 3) rfl)
theorem d_Mo_all_6 : decode Y_Mo_all.2.1 6 = .ok (.aload_n 0, 1) := D_Mo_all_0 (6, .aload_n 0, 1) (List.mem_of_getElem? (i := 4) rfl)
theorem d_Mo_all_7 : decode Y_Mo_all.2.1 7 = .ok (.getfield 32, 3) := D_Mo_all_0 (7, .getfield 32, 3) (List.mem_of_getElem? (i := 5) rfl)
theorem d_Mo_all_10 : decode Y_Mo_all.2.1 10 = .ok (.iload_n 1, 1) := D_Mo_all_0 (10, .iload_n 1, 1) (List.mem_of_getElem? (i := 6) rfl)
theorem d_Mo_all_11 : decode Y_Mo_all.2.1 11 = .ok (.laload, 1) := D_Mo_all_0 (11, .laload, 1) (List.mem_of_getElem? (i := 7) rfl)
theorem d_Mo_all_12 : decode Y_Mo_all.2.1 12 = .ok (.ladd, 1) := D_Mo_all_0 (12, .ladd, 1) (List.mem_of_getElem? (i := 8) rfl)
theorem d_Mo_all_13 : decode Y_Mo_all.2.1 13 = .ok (.lreturn, 1) := D_Mo_all_0 (13, .lreturn, 1) (List.mem_of_getElem? (i := 9) rfl)
theorem D_Mo_add_0 : ∀ q ∈ ([(0, .aload_n 0, 1), (1, .getfield 32, 3), (4, .iload_n 1, 1), (5, .aload_n 0, 1), (6, .getfield 32, 3), (9, .iload_n 1, 1), (10, .laload, 1), (11, .lload_n 2, 1), (12, .iload 4, 2), (14, .i2l, 1), (15, .lmul, 1), (16, .ladd, 1), (17, .lastore, 1), (18, .aload_n 0, 1), (19, .getfield 29, 3), (22, .iload_n 1, 1), (23, .aload_n 0, 1), (24, .getfield 29, 3), (27, .iload_n 1, 1), (28, .laload, 1), (29, .lload_n 2, 1), (30, .sipush 1000, 3), (33, .iload 4, 2), (35, .isub, 1), (36, .i2l, 1), (37, .lmul, 1), (38, .ladd, 1), (39, .lastore, 1), (40, .aload_n 0, 1), (41, .aload_n 0, 1), (42, .getfield 90, 3), (45, .ldc2_w 75, 3), (48, .lload_n 2, 1), (49, .lmul, 1), (50, .ladd, 1), (51, .putfield 90, 3), (54, .return_, 1)] : List (Nat × Instr × Nat)), decode prog_8_method_12_code q.1 = .ok (q.2.1, q.2.2) := by decide +kernel
theorem d_Mo_add_0 : decode Y_Mo_add.2.1 0 = .ok (.aload_n 0, 1) := D_Mo_add_0 (0, .aload_n 0, 1) (List.mem_of_getElem? (i := 0) rfl)
theorem d_Mo_add_1 : decode Y_Mo_add.2.1 1 = .ok (.getfield 32, 3) := D_Mo_add_0 (1, .getfield 32, 3) (List.mem_of_getElem? (i := 1) rfl)
theorem d_Mo_add_4 : decode Y_Mo_add.2.1 4 = .ok (.iload_n 1, 1) := D_Mo_add_0 (4, .iload_n 1, 1) (List.mem_of_getElem? (i := 2) rfl)
theorem d_Mo_add_5 : decode Y_Mo_add.2.1 5 = .ok (.aload_n 0, 1) := D_Mo_add_0 (5, .aload_n 0, 1) (List.mem_of_getElem? (i := 3) rfl)
theorem d_Mo_add_6 : decode Y_Mo_add.2.1 6 = .ok (.getfield 32, 3) := D_Mo_add_0 (6, .getfield 32, 3) (List.mem_of_getElem? (i := 4) rfl)
theorem d_Mo_add_9 : decode Y_Mo_add.2.1 9 = .ok (.iload_n 1, 1) := D_Mo_add_0 (9, .iload_n 1, 1) (List.mem_of_getElem? (i := 5) rfl)
theorem d_Mo_add_10 : decode Y_Mo_add.2.1 10 = .ok (.laload, 1) := D_Mo_add_0 (10, .laload, 1) (List.mem_of_getElem? (i := 6) rfl)
theorem d_Mo_add_11 : decode Y_Mo_add.2.1 11 = .ok (.lload_n 2, 1) := D_Mo_add_0 (11, .lload_n 2, 1) (List.mem_of_getElem? (i := 7) rfl)
theorem d_Mo_add_12 : decode Y_Mo_add.2.1 12 = .ok (.iload 4, 2) := D_Mo_add_0 (12, .iload 4, 2) (List.mem_of_getElem? (i := 8) rfl)
theorem d_Mo_add_14 : decode Y_Mo_add.2.1 14 = .ok (.i2l, 1) := D_Mo_add_0 (14, .i2l, 1) (List.mem_of_getElem? (i := 9) rfl)
theorem d_Mo_add_15 : decode Y_Mo_add.2.1 15 = .ok (.lmul, 1) := D_Mo_add_0 (15, .lmul, 1) (List.mem_of_getElem? (i := 10) rfl)
theorem d_Mo_add_16 : decode Y_Mo_add.2.1 16 = .ok (.ladd, 1) := D_Mo_add_0 (16, .ladd, 1) (List.mem_of_getElem? (i := 11) rfl)
theorem d_Mo_add_17 : decode Y_Mo_add.2.1 17 = .ok (.lastore, 1) := D_Mo_add_0 (17, .lastore, 1) (List.mem_of_getElem? (i := 12) rfl)
theorem d_Mo_add_18 : decode Y_Mo_add.2.1 18 = .ok (.aload_n 0, 1) := D_Mo_add_0 (18, .aload_n 0, 1) (List.mem_of_getElem? (i := 13) rfl)
theorem d_Mo_add_19 : decode Y_Mo_add.2.1 19 = .ok (.getfield 29, 3) := D_Mo_add_0 (19, .getfield 29, 3) (List.mem_of_getElem? (i := 14) rfl)
theorem d_Mo_add_22 : decode Y_Mo_add.2.1 22 = .ok (.iload_n 1, 1) := D_Mo_add_0 (22, .iload_n 1, 1) (List.mem_of_getElem? (i := 15) rfl)
theorem d_Mo_add_23 : decode Y_Mo_add.2.1 23 = .ok (.aload_n 0, 1) := D_Mo_add_0 (23, .aload_n 0, 1) (List.mem_of_getElem? (i := 16) rfl)
theorem d_Mo_add_24 : decode Y_Mo_add.2.1 24 = .ok (.getfield 29, 3) := D_Mo_add_0 (24, .getfield 29, 3) (List.mem_of_getElem? (i := 17) rfl)
theorem d_Mo_add_27 : decode Y_Mo_add.2.1 27 = .ok (.iload_n 1, 1) := D_Mo_add_0 (27, .iload_n 1, 1) (List.mem_of_getElem? (i := 18) rfl)
theorem d_Mo_add_28 : decode Y_Mo_add.2.1 28 = .ok (.laload, 1) := D_Mo_add_0 (28, .laload, 1) (List.mem_of_getElem? (i := 19) rfl)
theorem d_Mo_add_29 : decode Y_Mo_add.2.1 29 = .ok (.lload_n 2, 1) := D_Mo_add_0 (29, .lload_n 2, 1) (List.mem_of_getElem? (i := 20) rfl)
theorem d_Mo_add_30 : decode Y_Mo_add.2.1 30 = .ok (.sipush 1000, 3) := D_Mo_add_0 (30, .sipush 1000, 3) (List.mem_of_getElem? (i := 21) rfl)
theorem d_Mo_add_33 : decode Y_Mo_add.2.1 33 = .ok (.iload 4, 2) := D_Mo_add_0 (33, .iload 4, 2) (List.mem_of_getElem? (i := 22) rfl)
theorem d_Mo_add_35 : decode Y_Mo_add.2.1 35 = .ok (.isub, 1) := D_Mo_add_0 (35, .isub, 1) (List.mem_of_getElem? (i := 23) rfl)
theorem d_Mo_add_36 : decode Y_Mo_add.2.1 36 = .ok (.i2l, 1) := D_Mo_add_0 (36, .i2l, 1) (List.mem_of_getElem? (i := 24) rfl)
theorem d_Mo_add_37 : decode Y_Mo_add.2.1 37 = .ok (.lmul, 1) := D_Mo_add_0 (37, .lmul, 1) (List.mem_of_getElem? (i := 25) rfl)
theorem d_Mo_add_38 : decode Y_Mo_add.2.1 38 = .ok (.ladd, 1) := D_Mo_add_0 (38, .ladd, 1) (List.mem_of_getElem? (i := 26) rfl)
theorem d_Mo_add_39 : decode Y_Mo_add.2.1 39 = .ok (.lastore, 1) := D_Mo_add_0 (39, .lastore, 1) (List.mem_of_getElem? (i := 27) rfl)
theorem d_Mo_add_40 : decode Y_Mo_add.2.1 40 = .ok (.aload_n 0, 1) := D_Mo_add_0 (40, .aload_n 0, 1) (List.mem_of_getElem? (i := 28) rfl)
theorem d_Mo_add_41 : decode Y_Mo_add.2.1 41 = .ok (.aload_n 0, 1) := D_Mo_add_0 (41, .aload_n 0, 1) (List.mem_of_getElem? (i := 29) rfl)
theorem d_Mo_add_42 : decode Y_Mo_add.2.1 42 = .ok (.getfield 90, 3) := D_Mo_add_0 (42, .getfield 90, 3) (List.mem_of_getElem? (i := 30) rfl)
theorem d_Mo_add_45 : decode Y_Mo_add.2.1 45 = .ok (.ldc2_w 75, 3) := D_Mo_add_0 (45, .ldc2_w 75, 3) (List.mem_of_getElem? (i := 31) rfl)
theorem d_Mo_add_48 : decode Y_Mo_add.2.1 48 = .ok (.lload_n 2, 1) := D_Mo_add_0 (48, .lload_n 2, 1) (List.mem_of_getElem? (i := 32) rfl)
theorem d_Mo_add_49 : decode Y_Mo_add.2.1 49 = .ok (.lmul, 1) := D_Mo_add_0 (49, .lmul, 1) (List.mem_of_getElem? (i := 33) rfl)
theorem d_Mo_add_50 : decode Y_Mo_add.2.1 50 = .ok (.ladd, 1) := D_Mo_add_0 (50, .ladd, 1) (List.mem_of_getElem? (i := 34) rfl)
theorem d_Mo_add_51 : decode Y_Mo_add.2.1 51 = .ok (.putfield 90, 3) := D_Mo_add_0 (51, .putfield 90, 3) (List.mem_of_getElem? (i := 35) rfl)
theorem d_Mo_add_54 : decode Y_Mo_add.2.1 54 = .ok (.return_, 1) := D_Mo_add_0 (54, .return_, 1) (List.mem_of_getElem? (i := 36) rfl)
theorem D_Mo_about_0 : ∀ q ∈ ([(0, .aload_n 0, 1), (1, .aload_n 0, 1), (2, .iload_n 1, 1), (3, .invokevirtual 94, 3), (6, .ifCond .ne 12, 3), (9, .iload_n 2, 1), (10, .ifCond .lt 8, 3), (13, .iload_n 2, 1), (14, .iconst 5, 1), (15, .if_icmp .le 7, 3), (18, .iconst 1, 1), (19, .goto 4, 3), (22, .iconst 0, 1), (23, .putfield 62, 3), (26, .aload_n 0, 1), (27, .getfield 62, 3), (30, .ifCond .le 5, 3), (33, .lconst 0, 1), (34, .lreturn, 1), (35, .iload_n 2, 1), (36, .iconst 3, 1), (37, .if_icmp .ge 37, 3), (40, .iload_n 2, 1), (41, .ifCond .ne 12, 3), (44, .aload_n 0, 1), (45, .getfield 29, 3), (48, .iload_n 1, 1), (49, .laload, 1), (50, .goto 23, 3), (53, .iload_n 2, 1), (54, .iconst 1, 1), (55, .if_icmp .ne 12, 3), (58, .aload_n 0, 1), (59, .getfield 32, 3), (62, .iload_n 1, 1), (63, .laload, 1), (64, .goto 9, 3), (67, .aload_n 0, 1), (68, .getfield 26, 3), (71, .iload_n 1, 1), (72, .laload, 1), (73, .lreturn, 1), (74, .iload_n 2, 1), (75, .iconst 3, 1), (76, .if_icmp .ne 13, 3), (79, .aload_n 0, 1), (80, .getfield 23, 3), (83, .iload_n 1, 1), (84, .iaload, 1), (85, .i2l, 1), (86, .goto 22, 3), (89, .iload_n 2, 1), (90, .iconst 4, 1), (91, .if_icmp .ne 12, 3), (94, .aload_n 0, 1), (95, .getfield 37, 3), (98, .iload_n 1, 1), (99, .laload, 1), (100, .goto 8, 3), (103, .aload_n 0, 1)] : List (Nat × Instr × Nat)), decode prog_8_method_15_code q.1 = .ok (q.2.1, q.2.2) := by decide +kernel
theorem d_Mo_about_0 : decode Y_Mo_about.2.1 0 = .ok (.aload_n 0, 1) := D_Mo_about_0 (0, .aload_n 0, 1) (List.mem_of_getElem? (i := 0) rfl)
theorem d_Mo_about_1 : decode Y_Mo_about.2.1 1 = .ok (.aload_n 0, 1) := D_Mo_about_0 (1, .aload_n 0, 1) (List.mem_of_getElem? (i := 1) rfl)
theorem d_Mo_about_2 : decode Y_Mo_about.2.1 2 = .ok (.iload_n 1, 1) := D_Mo_about_0 (2, .iload_n 1, 1) (List.mem_of_getElem? (i := 2) rfl)
theorem d_Mo_about_3 : decode Y_Mo_about.2.1 3 = .ok (.invokevirtual 94, 3) := D_Mo_about_0 (3, .invokevirtual 94, 3) (List.mem_of_getElem? (i := 3) rfl)
theorem d_Mo_about_6 : decode Y_Mo_about.2.1 6 = .ok (.ifCond .ne 12, 3) := D_Mo_about_0 (6, .ifCond .ne 12, 3) (List.mem_of_getElem? (i := 4) rfl)
theorem d_Mo_about_9 : decode Y_Mo_about.2.1 9 = .ok (.iload_n 2, 1) := D_Mo_about_0 (9, .iload_n 2, 1) (List.mem_of_getElem? (i := 5) rfl)
theorem d_Mo_about_10 : decode Y_Mo_about.2.1 10 = .ok (.ifCond .lt 8, 3) := D_Mo_about_0 (10, .ifCond .lt 8, 3) (List.mem_of_getElem? (i := 6) rfl)
theorem d_Mo_about_13 : decode Y_Mo_about.2.1 13 = .ok (.iload_n 2, 1) := D_Mo_about_0 (13, .iload_n 2, 1) (List.mem_of_getElem? (i := 7) rfl)
theorem d_Mo_about_14 : decode Y_Mo_about.2.1 14 = .ok (.iconst 5, 1) := D_Mo_about_0 (14, .iconst 5, 1) (List.mem_of_getElem? (i := 8) rfl)
theorem d_Mo_about_15 : decode Y_Mo_about.2.1 15 = .ok (.if_icmp .le 7, 3) := D_Mo_about_0 (15, .if_icmp .le 7, 3) (List.mem_of_getElem? (i := 9) rfl)
theorem d_Mo_about_18 : decode Y_Mo_about.2.1 18 = .ok (.iconst 1, 1) := D_Mo_about_0 (18, .iconst 1, 1) (List.mem_of_getElem? (i := 10) rfl)
theorem d_Mo_about_19 : decode Y_Mo_about.2.1 19 = .ok (.goto 4, 3) := D_Mo_about_0 (19, .goto 4, 3) (List.mem_of_getElem? (i := 11) rfl)
theorem d_Mo_about_22 : decode Y_Mo_about.2.1 22 = .ok (.iconst 0, 1) := D_Mo_about_0 (22, .iconst 0, 1) (List.mem_of_getElem? (i := 12) rfl)
theorem d_Mo_about_23 : decode Y_Mo_about.2.1 23 = .ok (.putfield 62, 3) := D_Mo_about_0 (23, .putfield 62, 3) (List.mem_of_getElem? (i := 13) rfl)
theorem d_Mo_about_26 : decode Y_Mo_about.2.1 26 = .ok (.aload_n 0, 1) := D_Mo_about_0 (26, .aload_n 0, 1) (List.mem_of_getElem? (i := 14) rfl)
theorem d_Mo_about_27 : decode Y_Mo_about.2.1 27 = .ok (.getfield 62, 3) := D_Mo_about_0 (27, .getfield 62, 3) (List.mem_of_getElem? (i := 15) rfl)
theorem d_Mo_about_30 : decode Y_Mo_about.2.1 30 = .ok (.ifCond .le 5, 3) := D_Mo_about_0 (30, .ifCond .le 5, 3) (List.mem_of_getElem? (i := 16) rfl)
theorem d_Mo_about_33 : decode Y_Mo_about.2.1 33 = .ok (.lconst 0, 1) := D_Mo_about_0 (33, .lconst 0, 1) (List.mem_of_getElem? (i := 17) rfl)
theorem d_Mo_about_34 : decode Y_Mo_about.2.1 34 = .ok (.lreturn, 1) := D_Mo_about_0 (34, .lreturn, 1) (List.mem_of_getElem? (i := 18) rfl)
theorem d_Mo_about_35 : decode Y_Mo_about.2.1 35 = .ok (.iload_n 2, 1) := D_Mo_about_0 (35, .iload_n 2, 1) (List.mem_of_getElem? (i := 19) rfl)
theorem d_Mo_about_36 : decode Y_Mo_about.2.1 36 = .ok (.iconst 3, 1) := D_Mo_about_0 (36, .iconst 3, 1) (List.mem_of_getElem? (i := 20) rfl)
theorem d_Mo_about_37 : decode Y_Mo_about.2.1 37 = .ok (.if_icmp .ge 37, 3) := D_Mo_about_0 (37, .if_icmp .ge 37, 3) (List.mem_of_getElem? (i := 21) rfl)
theorem d_Mo_about_40 : decode Y_Mo_about.2.1 40 = .ok (.iload_n 2, 1) := D_Mo_about_0 (40, .iload_n 2, 1) (List.mem_of_getElem? (i := 22) rfl)
theorem d_Mo_about_41 : decode Y_Mo_about.2.1 41 = .ok (.ifCond .ne 12, 3) := D_Mo_about_0 (41, .ifCond .ne 12, 3) (List.mem_of_getElem? (i := 23) rfl)
theorem d_Mo_about_44 : decode Y_Mo_about.2.1 44 = .ok (.aload_n 0, 1) := D_Mo_about_0 (44, .aload_n 0, 1) (List.mem_of_getElem? (i := 24) rfl)
theorem d_Mo_about_45 : decode Y_Mo_about.2.1 45 = .ok (.getfield 29, 3) := D_Mo_about_0 (45, .getfield 29, 3) (List.mem_of_getElem? (i := 25) rfl)
theorem d_Mo_about_48 : decode Y_Mo_about.2.1 48 = .ok (.iload_n 1, 1) := D_Mo_about_0 (48, .iload_n 1, 1) (List.mem_of_getElem? (i := 26) rfl)
theorem d_Mo_about_49 : decode Y_Mo_about.2.1 49 = .ok (.laload, 1) := D_Mo_about_0 (49, .laload, 1) (List.mem_of_getElem? (i := 27) rfl)
theorem d_Mo_about_50 : decode Y_Mo_about.2.1 50 = .ok (.goto 23, 3) := D_Mo_about_0 (50, .goto 23, 3) (List.mem_of_getElem? (i := 28) rfl)
theorem d_Mo_about_53 : decode Y_Mo_about.2.1 53 = .ok (.iload_n 2, 1) := D_Mo_about_0 (53, .iload_n 2, 1) (List.mem_of_getElem? (i := 29) rfl)
theorem d_Mo_about_54 : decode Y_Mo_about.2.1 54 = .ok (.iconst 1, 1) := D_Mo_about_0 (54, .iconst 1, 1) (List.mem_of_getElem? (i := 30) rfl)
theorem d_Mo_about_55 : decode Y_Mo_about.2.1 55 = .ok (.if_icmp .ne 12, 3) := D_Mo_about_0 (55, .if_icmp .ne 12, 3) (List.mem_of_getElem? (i := 31) rfl)
theorem d_Mo_about_58 : decode Y_Mo_about.2.1 58 = .ok (.aload_n 0, 1) := D_Mo_about_0 (58, .aload_n 0, 1) (List.mem_of_getElem? (i := 32) rfl)
theorem d_Mo_about_59 : decode Y_Mo_about.2.1 59 = .ok (.getfield 32, 3) := D_Mo_about_0 (59, .getfield 32, 3) (List.mem_of_getElem? (i := 33) rfl)
theorem d_Mo_about_62 : decode Y_Mo_about.2.1 62 = .ok (.iload_n 1, 1) := D_Mo_about_0 (62, .iload_n 1, 1) (List.mem_of_getElem? (i := 34) rfl)
theorem d_Mo_about_63 : decode Y_Mo_about.2.1 63 = .ok (.laload, 1) := D_Mo_about_0 (63, .laload, 1) (List.mem_of_getElem? (i := 35) rfl)
theorem d_Mo_about_64 : decode Y_Mo_about.2.1 64 = .ok (.goto 9, 3) := D_Mo_about_0 (64, .goto 9, 3) (List.mem_of_getElem? (i := 36) rfl)
theorem d_Mo_about_67 : decode Y_Mo_about.2.1 67 = .ok (.aload_n 0, 1) := D_Mo_about_0 (67, .aload_n 0, 1) (List.mem_of_getElem? (i := 37) rfl)
theorem d_Mo_about_68 : decode Y_Mo_about.2.1 68 = .ok (.getfield 26, 3) := D_Mo_about_0 (68, .getfield 26, 3) (List.mem_of_getElem? (i := 38) rfl)
theorem d_Mo_about_71 : decode Y_Mo_about.2.1 71 = .ok (.iload_n 1, 1) := D_Mo_about_0 (71, .iload_n 1, 1) (List.mem_of_getElem? (i := 39) rfl)
theorem d_Mo_about_72 : decode Y_Mo_about.2.1 72 = .ok (.laload, 1) := D_Mo_about_0 (72, .laload, 1) (List.mem_of_getElem? (i := 40) rfl)
theorem d_Mo_about_73 : decode Y_Mo_about.2.1 73 = .ok (.lreturn, 1) := D_Mo_about_0 (73, .lreturn, 1) (List.mem_of_getElem? (i := 41) rfl)
theorem d_Mo_about_74 : decode Y_Mo_about.2.1 74 = .ok (.iload_n 2, 1) := D_Mo_about_0 (74, .iload_n 2, 1) (List.mem_of_getElem? (i := 42) rfl)
theorem d_Mo_about_75 : decode Y_Mo_about.2.1 75 = .ok (.iconst 3, 1) := D_Mo_about_0 (75, .iconst 3, 1) (List.mem_of_getElem? (i := 43) rfl)
theorem d_Mo_about_76 : decode Y_Mo_about.2.1 76 = .ok (.if_icmp .ne 13, 3) := D_Mo_about_0 (76, .if_icmp .ne 13, 3) (List.mem_of_getElem? (i := 44) rfl)
theorem d_Mo_about_79 : decode Y_Mo_about.2.1 79 = .ok (.aload_n 0, 1) := D_Mo_about_0 (79, .aload_n 0, 1) (List.mem_of_getElem? (i := 45) rfl)
theorem d_Mo_about_80 : decode Y_Mo_about.2.1 80 = .ok (.getfield 23, 3) := D_Mo_about_0 (80, .getfield 23, 3) (List.mem_of_getElem? (i := 46) rfl)
theorem d_Mo_about_83 : decode Y_Mo_about.2.1 83 = .ok (.iload_n 1, 1) := D_Mo_about_0 (83, .iload_n 1, 1) (List.mem_of_getElem? (i := 47) rfl)
theorem d_Mo_about_84 : decode Y_Mo_about.2.1 84 = .ok (.iaload, 1) := D_Mo_about_0 (84, .iaload, 1) (List.mem_of_getElem? (i := 48) rfl)
theorem d_Mo_about_85 : decode Y_Mo_about.2.1 85 = .ok (.i2l, 1) := D_Mo_about_0 (85, .i2l, 1) (List.mem_of_getElem? (i := 49) rfl)
theorem d_Mo_about_86 : decode Y_Mo_about.2.1 86 = .ok (.goto 22, 3) := D_Mo_about_0 (86, .goto 22, 3) (List.mem_of_getElem? (i := 50) rfl)
theorem d_Mo_about_89 : decode Y_Mo_about.2.1 89 = .ok (.iload_n 2, 1) := D_Mo_about_0 (89, .iload_n 2, 1) (List.mem_of_getElem? (i := 51) rfl)
theorem d_Mo_about_90 : decode Y_Mo_about.2.1 90 = .ok (.iconst 4, 1) := D_Mo_about_0 (90, .iconst 4, 1) (List.mem_of_getElem? (i := 52) rfl)
theorem d_Mo_about_91 : decode Y_Mo_about.2.1 91 = .ok (.if_icmp .ne 12, 3) := D_Mo_about_0 (91, .if_icmp .ne 12, 3) (List.mem_of_getElem? (i := 53) rfl)
theorem d_Mo_about_94 : decode Y_Mo_about.2.1 94 = .ok (.aload_n 0, 1) := D_Mo_about_0 (94, .aload_n 0, 1) (List.mem_of_getElem? (i := 54) rfl)
theorem d_Mo_about_95 : decode Y_Mo_about.2.1 95 = .ok (.getfield 37, 3) := D_Mo_about_0 (95, .getfield 37, 3) (List.mem_of_getElem? (i := 55) rfl)
theorem d_Mo_about_98 : decode Y_Mo_about.2.1 98 = .ok (.iload_n 1, 1) := D_Mo_about_0 (98, .iload_n 1, 1) (List.mem_of_getElem? (i := 56) rfl)
theorem d_Mo_about_99 : decode Y_Mo_about.2.1 99 = .ok (.laload, 1) := D_Mo_about_0 (99, .laload, 1) (List.mem_of_getElem? (i := 57) rfl)
theorem d_Mo_about_100 : decode Y_Mo_about.2.1 100 = .ok (.goto 8, 3) := D_Mo_about_0 (100, .goto 8, 3) (List.mem_of_getElem? (i := 58) rfl)
theorem d_Mo_about_103 : decode Y_Mo_about.2.1 103 = .ok (.aload_n 0, 1) := D_Mo_about_0 (103, .aload_n 0, 1) (List.mem_of_getElem? (i := 59) rfl)
theorem D_Mo_about_1 : ∀ q ∈ ([(104, .iload_n 1, 1), (105, .invokevirtual 86, 3), (108, .lreturn, 1)] : List (Nat × Instr × Nat)), decode prog_8_method_15_code q.1 = .ok (q.2.1, q.2.2) := by decide +kernel
theorem d_Mo_about_104 : decode Y_Mo_about.2.1 104 = .ok (.iload_n 1, 1) := D_Mo_about_1 (104, .iload_n 1, 1) (List.mem_of_getElem? (i := 0) rfl)
theorem d_Mo_about_105 : decode Y_Mo_about.2.1 105 = .ok (.invokevirtual 86, 3) := D_Mo_about_1 (105, .invokevirtual 86, 3) (List.mem_of_getElem? (i := 1) rfl)
theorem d_Mo_about_108 : decode Y_Mo_about.2.1 108 = .ok (.lreturn, 1) := D_Mo_about_1 (108, .lreturn, 1) (List.mem_of_getElem? (i := 2) rfl)
theorem D_Mo_screen_0 : ∀ q ∈ ([(0, .iload_n 1, 1), (1, .ifCond .lt 37, 3), (4, .iload_n 1, 1), (5, .iconst 4, 1), (6, .if_icmp .ge 32, 3), (9, .aload_n 0, 1), (10, .iload_n 2, 1), (11, .invokevirtual 94, 3), (14, .ifCond .ne 24, 3), (17, .aload_n 0, 1), (18, .iload_n 3, 1), (19, .invokevirtual 94, 3), (22, .ifCond .ne 16, 3), (25, .aload_n 0, 1), (26, .iload 4, 2), (28, .invokevirtual 94, 3), (31, .ifCond .ne 7, 3), (34, .iconst 1, 1), (35, .goto 4, 3), (38, .iconst 0, 1), (39, .istore 7, 2), (41, .aload_n 0, 1), (42, .iload 7, 2), (44, .ifCond .eq 7, 3), (47, .iconst 0, 1), (48, .goto 4, 3), (51, .iconst 1, 1), (52, .putfield 62, 3), (55, .iload 7, 2), (57, .ifCond .eq 120, 3), (60, .iload_n 2, 1), (61, .iload_n 3, 1), (62, .if_icmp .eq 19, 3), (65, .iload_n 3, 1), (66, .iload 4, 2), (68, .if_icmp .eq 13, 3), (71, .iload_n 2, 1), (72, .iload 4, 2), (74, .if_icmp .eq 7, 3), (77, .iconst 1, 1), (78, .goto 4, 3), (81, .iconst 0, 1), (82, .istore 8, 2), (84, .aload_n 0, 1), (85, .getfield 23, 3), (88, .iload_n 2, 1), (89, .iaload, 1), (90, .aload_n 0, 1), (91, .getfield 23, 3), (94, .iload_n 3, 1), (95, .iaload, 1), (96, .if_icmp .ne 23, 3), (99, .aload_n 0, 1), (100, .getfield 23, 3), (103, .iload_n 3, 1), (104, .iaload, 1), (105, .aload_n 0, 1), (106, .getfield 23, 3), (109, .iload 4, 2), (111, .iaload, 1)] : List (Nat × Instr × Nat)), decode prog_8_method_16_code q.1 = .ok (q.2.1, q.2.2) := by decide +kernel
theorem d_Mo_screen_0 : decode Y_Mo_screen.2.1 0 = .ok (.iload_n 1, 1) := D_Mo_screen_0 (0, .iload_n 1, 1) (List.mem_of_getElem? (i := 0) rfl)
theorem d_Mo_screen_1 : decode Y_Mo_screen.2.1 1 = .ok (.ifCond .lt 37, 3) := D_Mo_screen_0 (1, .ifCond .lt 37, 3) (List.mem_of_getElem? (i := 1) rfl)
theorem d_Mo_screen_4 : decode Y_Mo_screen.2.1 4 = .ok (.iload_n 1, 1) := D_Mo_screen_0 (4, .iload_n 1, 1) (List.mem_of_getElem? (i := 2) rfl)
theorem d_Mo_screen_5 : decode Y_Mo_screen.2.1 5 = .ok (.iconst 4, 1) := D_Mo_screen_0 (5, .iconst 4, 1) (List.mem_of_getElem? (i := 3) rfl)
theorem d_Mo_screen_6 : decode Y_Mo_screen.2.1 6 = .ok (.if_icmp .ge 32, 3) := D_Mo_screen_0 (6, .if_icmp .ge 32, 3) (List.mem_of_getElem? (i := 4) rfl)
theorem d_Mo_screen_9 : decode Y_Mo_screen.2.1 9 = .ok (.aload_n 0, 1) := D_Mo_screen_0 (9, .aload_n 0, 1) (List.mem_of_getElem? (i := 5) rfl)
theorem d_Mo_screen_10 : decode Y_Mo_screen.2.1 10 = .ok (.iload_n 2, 1) := D_Mo_screen_0 (10, .iload_n 2, 1) (List.mem_of_getElem? (i := 6) rfl)
theorem d_Mo_screen_11 : decode Y_Mo_screen.2.1 11 = .ok (.invokevirtual 94, 3) := D_Mo_screen_0 (11, .invokevirtual 94, 3) (List.mem_of_getElem? (i := 7) rfl)
theorem d_Mo_screen_14 : decode Y_Mo_screen.2.1 14 = .ok (.ifCond .ne 24, 3) := D_Mo_screen_0 (14, .ifCond .ne 24, 3) (List.mem_of_getElem? (i := 8) rfl)
theorem d_Mo_screen_17 : decode Y_Mo_screen.2.1 17 = .ok (.aload_n 0, 1) := D_Mo_screen_0 (17, .aload_n 0, 1) (List.mem_of_getElem? (i := 9) rfl)
theorem d_Mo_screen_18 : decode Y_Mo_screen.2.1 18 = .ok (.iload_n 3, 1) := D_Mo_screen_0 (18, .iload_n 3, 1) (List.mem_of_getElem? (i := 10) rfl)
theorem d_Mo_screen_19 : decode Y_Mo_screen.2.1 19 = .ok (.invokevirtual 94, 3) := D_Mo_screen_0 (19, .invokevirtual 94, 3) (List.mem_of_getElem? (i := 11) rfl)
theorem d_Mo_screen_22 : decode Y_Mo_screen.2.1 22 = .ok (.ifCond .ne 16, 3) := D_Mo_screen_0 (22, .ifCond .ne 16, 3) (List.mem_of_getElem? (i := 12) rfl)
theorem d_Mo_screen_25 : decode Y_Mo_screen.2.1 25 = .ok (.aload_n 0, 1) := D_Mo_screen_0 (25, .aload_n 0, 1) (List.mem_of_getElem? (i := 13) rfl)
theorem d_Mo_screen_26 : decode Y_Mo_screen.2.1 26 = .ok (.iload 4, 2) := D_Mo_screen_0 (26, .iload 4, 2) (List.mem_of_getElem? (i := 14) rfl)
theorem d_Mo_screen_28 : decode Y_Mo_screen.2.1 28 = .ok (.invokevirtual 94, 3) := D_Mo_screen_0 (28, .invokevirtual 94, 3) (List.mem_of_getElem? (i := 15) rfl)
theorem d_Mo_screen_31 : decode Y_Mo_screen.2.1 31 = .ok (.ifCond .ne 7, 3) := D_Mo_screen_0 (31, .ifCond .ne 7, 3) (List.mem_of_getElem? (i := 16) rfl)
theorem d_Mo_screen_34 : decode Y_Mo_screen.2.1 34 = .ok (.iconst 1, 1) := D_Mo_screen_0 (34, .iconst 1, 1) (List.mem_of_getElem? (i := 17) rfl)
theorem d_Mo_screen_35 : decode Y_Mo_screen.2.1 35 = .ok (.goto 4, 3) := D_Mo_screen_0 (35, .goto 4, 3) (List.mem_of_getElem? (i := 18) rfl)
theorem d_Mo_screen_38 : decode Y_Mo_screen.2.1 38 = .ok (.iconst 0, 1) := D_Mo_screen_0 (38, .iconst 0, 1) (List.mem_of_getElem? (i := 19) rfl)
theorem d_Mo_screen_39 : decode Y_Mo_screen.2.1 39 = .ok (.istore 7, 2) := D_Mo_screen_0 (39, .istore 7, 2) (List.mem_of_getElem? (i := 20) rfl)
theorem d_Mo_screen_41 : decode Y_Mo_screen.2.1 41 = .ok (.aload_n 0, 1) := D_Mo_screen_0 (41, .aload_n 0, 1) (List.mem_of_getElem? (i := 21) rfl)
theorem d_Mo_screen_42 : decode Y_Mo_screen.2.1 42 = .ok (.iload 7, 2) := D_Mo_screen_0 (42, .iload 7, 2) (List.mem_of_getElem? (i := 22) rfl)
theorem d_Mo_screen_44 : decode Y_Mo_screen.2.1 44 = .ok (.ifCond .eq 7, 3) := D_Mo_screen_0 (44, .ifCond .eq 7, 3) (List.mem_of_getElem? (i := 23) rfl)
theorem d_Mo_screen_47 : decode Y_Mo_screen.2.1 47 = .ok (.iconst 0, 1) := D_Mo_screen_0 (47, .iconst 0, 1) (List.mem_of_getElem? (i := 24) rfl)
theorem d_Mo_screen_48 : decode Y_Mo_screen.2.1 48 = .ok (.goto 4, 3) := D_Mo_screen_0 (48, .goto 4, 3) (List.mem_of_getElem? (i := 25) rfl)
theorem d_Mo_screen_51 : decode Y_Mo_screen.2.1 51 = .ok (.iconst 1, 1) := D_Mo_screen_0 (51, .iconst 1, 1) (List.mem_of_getElem? (i := 26) rfl)
theorem d_Mo_screen_52 : decode Y_Mo_screen.2.1 52 = .ok (.putfield 62, 3) := D_Mo_screen_0 (52, .putfield 62, 3) (List.mem_of_getElem? (i := 27) rfl)
theorem d_Mo_screen_55 : decode Y_Mo_screen.2.1 55 = .ok (.iload 7, 2) := D_Mo_screen_0 (55, .iload 7, 2) (List.mem_of_getElem? (i := 28) rfl)
theorem d_Mo_screen_57 : decode Y_Mo_screen.2.1 57 = .ok (.ifCond .eq 120, 3) := D_Mo_screen_0 (57, .ifCond .eq 120, 3) (List.mem_of_getElem? (i := 29) rfl)
theorem d_Mo_screen_60 : decode Y_Mo_screen.2.1 60 = .ok (.iload_n 2, 1) := D_Mo_screen_0 (60, .iload_n 2, 1) (List.mem_of_getElem? (i := 30) rfl)
theorem d_Mo_screen_61 : decode Y_Mo_screen.2.1 61 = .ok (.iload_n 3, 1) := D_Mo_screen_0 (61, .iload_n 3, 1) (List.mem_of_getElem? (i := 31) rfl)
theorem d_Mo_screen_62 : decode Y_Mo_screen.2.1 62 = .ok (.if_icmp .eq 19, 3) := D_Mo_screen_0 (62, .if_icmp .eq 19, 3) (List.mem_of_getElem? (i := 32) rfl)
theorem d_Mo_screen_65 : decode Y_Mo_screen.2.1 65 = .ok (.iload_n 3, 1) := D_Mo_screen_0 (65, .iload_n 3, 1) (List.mem_of_getElem? (i := 33) rfl)
theorem d_Mo_screen_66 : decode Y_Mo_screen.2.1 66 = .ok (.iload 4, 2) := D_Mo_screen_0 (66, .iload 4, 2) (List.mem_of_getElem? (i := 34) rfl)
theorem d_Mo_screen_68 : decode Y_Mo_screen.2.1 68 = .ok (.if_icmp .eq 13, 3) := D_Mo_screen_0 (68, .if_icmp .eq 13, 3) (List.mem_of_getElem? (i := 35) rfl)
theorem d_Mo_screen_71 : decode Y_Mo_screen.2.1 71 = .ok (.iload_n 2, 1) := D_Mo_screen_0 (71, .iload_n 2, 1) (List.mem_of_getElem? (i := 36) rfl)
theorem d_Mo_screen_72 : decode Y_Mo_screen.2.1 72 = .ok (.iload 4, 2) := D_Mo_screen_0 (72, .iload 4, 2) (List.mem_of_getElem? (i := 37) rfl)
theorem d_Mo_screen_74 : decode Y_Mo_screen.2.1 74 = .ok (.if_icmp .eq 7, 3) := D_Mo_screen_0 (74, .if_icmp .eq 7, 3) (List.mem_of_getElem? (i := 38) rfl)
theorem d_Mo_screen_77 : decode Y_Mo_screen.2.1 77 = .ok (.iconst 1, 1) := D_Mo_screen_0 (77, .iconst 1, 1) (List.mem_of_getElem? (i := 39) rfl)
theorem d_Mo_screen_78 : decode Y_Mo_screen.2.1 78 = .ok (.goto 4, 3) := D_Mo_screen_0 (78, .goto 4, 3) (List.mem_of_getElem? (i := 40) rfl)
theorem d_Mo_screen_81 : decode Y_Mo_screen.2.1 81 = .ok (.iconst 0, 1) := D_Mo_screen_0 (81, .iconst 0, 1) (List.mem_of_getElem? (i := 41) rfl)
theorem d_Mo_screen_82 : decode Y_Mo_screen.2.1 82 = .ok (.istore 8, 2) := D_Mo_screen_0 (82, .istore 8, 2) (List.mem_of_getElem? (i := 42) rfl)
theorem d_Mo_screen_84 : decode Y_Mo_screen.2.1 84 = .ok (.aload_n 0, 1) := D_Mo_screen_0 (84, .aload_n 0, 1) (List.mem_of_getElem? (i := 43) rfl)
theorem d_Mo_screen_85 : decode Y_Mo_screen.2.1 85 = .ok (.getfield 23, 3) := D_Mo_screen_0 (85, .getfield 23, 3) (List.mem_of_getElem? (i := 44) rfl)
theorem d_Mo_screen_88 : decode Y_Mo_screen.2.1 88 = .ok (.iload_n 2, 1) := D_Mo_screen_0 (88, .iload_n 2, 1) (List.mem_of_getElem? (i := 45) rfl)
theorem d_Mo_screen_89 : decode Y_Mo_screen.2.1 89 = .ok (.iaload, 1) := D_Mo_screen_0 (89, .iaload, 1) (List.mem_of_getElem? (i := 46) rfl)
theorem d_Mo_screen_90 : decode Y_Mo_screen.2.1 90 = .ok (.aload_n 0, 1) := D_Mo_screen_0 (90, .aload_n 0, 1) (List.mem_of_getElem? (i := 47) rfl)
theorem d_Mo_screen_91 : decode Y_Mo_screen.2.1 91 = .ok (.getfield 23, 3) := D_Mo_screen_0 (91, .getfield 23, 3) (List.mem_of_getElem? (i := 48) rfl)
theorem d_Mo_screen_94 : decode Y_Mo_screen.2.1 94 = .ok (.iload_n 3, 1) := D_Mo_screen_0 (94, .iload_n 3, 1) (List.mem_of_getElem? (i := 49) rfl)
theorem d_Mo_screen_95 : decode Y_Mo_screen.2.1 95 = .ok (.iaload, 1) := D_Mo_screen_0 (95, .iaload, 1) (List.mem_of_getElem? (i := 50) rfl)
theorem d_Mo_screen_96 : decode Y_Mo_screen.2.1 96 = .ok (.if_icmp .ne 23, 3) := D_Mo_screen_0 (96, .if_icmp .ne 23, 3) (List.mem_of_getElem? (i := 51) rfl)
theorem d_Mo_screen_99 : decode Y_Mo_screen.2.1 99 = .ok (.aload_n 0, 1) := D_Mo_screen_0 (99, .aload_n 0, 1) (List.mem_of_getElem? (i := 52) rfl)
theorem d_Mo_screen_100 : decode Y_Mo_screen.2.1 100 = .ok (.getfield 23, 3) := D_Mo_screen_0 (100, .getfield 23, 3) (List.mem_of_getElem? (i := 53) rfl)
theorem d_Mo_screen_103 : decode Y_Mo_screen.2.1 103 = .ok (.iload_n 3, 1) := D_Mo_screen_0 (103, .iload_n 3, 1) (List.mem_of_getElem? (i := 54) rfl)
theorem d_Mo_screen_104 : decode Y_Mo_screen.2.1 104 = .ok (.iaload, 1) := D_Mo_screen_0 (104, .iaload, 1) (List.mem_of_getElem? (i := 55) rfl)
theorem d_Mo_screen_105 : decode Y_Mo_screen.2.1 105 = .ok (.aload_n 0, 1) := D_Mo_screen_0 (105, .aload_n 0, 1) (List.mem_of_getElem? (i := 56) rfl)
theorem d_Mo_screen_106 : decode Y_Mo_screen.2.1 106 = .ok (.getfield 23, 3) := D_Mo_screen_0 (106, .getfield 23, 3) (List.mem_of_getElem? (i := 57) rfl)
theorem d_Mo_screen_109 : decode Y_Mo_screen.2.1 109 = .ok (.iload 4, 2) := D_Mo_screen_0 (109, .iload 4, 2) (List.mem_of_getElem? (i := 58) rfl)
theorem d_Mo_screen_111 : decode Y_Mo_screen.2.1 111 = .ok (.iaload, 1) := D_Mo_screen_0 (111, .iaload, 1) (List.mem_of_getElem? (i := 59) rfl)
theorem D_Mo_screen_1 : ∀ q ∈ ([(112, .if_icmp .ne 7, 3), (115, .iconst 1, 1), (116, .goto 4, 3), (119, .iconst 0, 1), (120, .istore 9, 2), (122, .iload 5, 2), (124, .ifCond .lt 26, 3), (127, .iload 6, 2), (129, .ifCond .lt 21, 3), (132, .iload 5, 2), (134, .i2l, 1), (135, .iload 6, 2), (137, .i2l, 1), (138, .ladd, 1), (139, .ldc2_w 110, 3), (142, .lcmp, 1), (143, .ifCond .gt 7, 3), (146, .iconst 1, 1), (147, .goto 4, 3), (150, .iconst 0, 1), (151, .istore 10, 2), (153, .aload_n 0, 1), (154, .iload 8, 2), (156, .ifCond .eq 17, 3), (159, .iload 9, 2), (161, .ifCond .eq 12, 3), (164, .iload 10, 2), (166, .ifCond .eq 7, 3), (169, .iconst 0, 1), (170, .goto 4, 3), (173, .iconst 2, 1), (174, .putfield 62, 3), (177, .aload_n 0, 1), (178, .getfield 62, 3), (181, .ifCond .ne 82, 3), (184, .aload_n 0, 1), (185, .getfield 46, 3), (188, .iload_n 1, 1), (189, .iconst 1, 1), (190, .bastore, 1), (191, .aload_n 0, 1), (192, .getfield 50, 3), (195, .iconst 3, 1), (196, .iload_n 1, 1), (197, .imul, 1), (198, .iload_n 2, 1), (199, .iastore, 1), (200, .aload_n 0, 1), (201, .getfield 50, 3), (204, .iconst 3, 1), (205, .iload_n 1, 1), (206, .imul, 1), (207, .iconst 1, 1), (208, .iadd, 1), (209, .iload_n 3, 1), (210, .iastore, 1), (211, .aload_n 0, 1), (212, .getfield 50, 3), (215, .iconst 3, 1), (216, .iload_n 1, 1)] : List (Nat × Instr × Nat)), decode prog_8_method_16_code q.1 = .ok (q.2.1, q.2.2) := by decide +kernel
theorem d_Mo_screen_112 : decode Y_Mo_screen.2.1 112 = .ok (.if_icmp .ne 7, 3) := D_Mo_screen_1 (112, .if_icmp .ne 7, 3) (List.mem_of_getElem? (i := 0) rfl)
theorem d_Mo_screen_115 : decode Y_Mo_screen.2.1 115 = .ok (.iconst 1, 1) := D_Mo_screen_1 (115, .iconst 1, 1) (List.mem_of_getElem? (i := 1) rfl)
theorem d_Mo_screen_116 : decode Y_Mo_screen.2.1 116 = .ok (.goto 4, 3) := D_Mo_screen_1 (116, .goto 4, 3) (List.mem_of_getElem? (i := 2) rfl)
theorem d_Mo_screen_119 : decode Y_Mo_screen.2.1 119 = .ok (.iconst 0, 1) := D_Mo_screen_1 (119, .iconst 0, 1) (List.mem_of_getElem? (i := 3) rfl)
theorem d_Mo_screen_120 : decode Y_Mo_screen.2.1 120 = .ok (.istore 9, 2) := D_Mo_screen_1 (120, .istore 9, 2) (List.mem_of_getElem? (i := 4) rfl)
theorem d_Mo_screen_122 : decode Y_Mo_screen.2.1 122 = .ok (.iload 5, 2) := D_Mo_screen_1 (122, .iload 5, 2) (List.mem_of_getElem? (i := 5) rfl)
theorem d_Mo_screen_124 : decode Y_Mo_screen.2.1 124 = .ok (.ifCond .lt 26, 3) := D_Mo_screen_1 (124, .ifCond .lt 26, 3) (List.mem_of_getElem? (i := 6) rfl)
theorem d_Mo_screen_127 : decode Y_Mo_screen.2.1 127 = .ok (.iload 6, 2) := D_Mo_screen_1 (127, .iload 6, 2) (List.mem_of_getElem? (i := 7) rfl)
theorem d_Mo_screen_129 : decode Y_Mo_screen.2.1 129 = .ok (.ifCond .lt 21, 3) := D_Mo_screen_1 (129, .ifCond .lt 21, 3) (List.mem_of_getElem? (i := 8) rfl)
theorem d_Mo_screen_132 : decode Y_Mo_screen.2.1 132 = .ok (.iload 5, 2) := D_Mo_screen_1 (132, .iload 5, 2) (List.mem_of_getElem? (i := 9) rfl)
theorem d_Mo_screen_134 : decode Y_Mo_screen.2.1 134 = .ok (.i2l, 1) := D_Mo_screen_1 (134, .i2l, 1) (List.mem_of_getElem? (i := 10) rfl)
theorem d_Mo_screen_135 : decode Y_Mo_screen.2.1 135 = .ok (.iload 6, 2) := D_Mo_screen_1 (135, .iload 6, 2) (List.mem_of_getElem? (i := 11) rfl)
theorem d_Mo_screen_137 : decode Y_Mo_screen.2.1 137 = .ok (.i2l, 1) := D_Mo_screen_1 (137, .i2l, 1) (List.mem_of_getElem? (i := 12) rfl)
theorem d_Mo_screen_138 : decode Y_Mo_screen.2.1 138 = .ok (.ladd, 1) := D_Mo_screen_1 (138, .ladd, 1) (List.mem_of_getElem? (i := 13) rfl)
theorem d_Mo_screen_139 : decode Y_Mo_screen.2.1 139 = .ok (.ldc2_w 110, 3) := D_Mo_screen_1 (139, .ldc2_w 110, 3) (List.mem_of_getElem? (i := 14) rfl)
theorem d_Mo_screen_142 : decode Y_Mo_screen.2.1 142 = .ok (.lcmp, 1) := D_Mo_screen_1 (142, .lcmp, 1) (List.mem_of_getElem? (i := 15) rfl)
theorem d_Mo_screen_143 : decode Y_Mo_screen.2.1 143 = .ok (.ifCond .gt 7, 3) := D_Mo_screen_1 (143, .ifCond .gt 7, 3) (List.mem_of_getElem? (i := 16) rfl)
theorem d_Mo_screen_146 : decode Y_Mo_screen.2.1 146 = .ok (.iconst 1, 1) := D_Mo_screen_1 (146, .iconst 1, 1) (List.mem_of_getElem? (i := 17) rfl)
theorem d_Mo_screen_147 : decode Y_Mo_screen.2.1 147 = .ok (.goto 4, 3) := D_Mo_screen_1 (147, .goto 4, 3) (List.mem_of_getElem? (i := 18) rfl)
theorem d_Mo_screen_150 : decode Y_Mo_screen.2.1 150 = .ok (.iconst 0, 1) := D_Mo_screen_1 (150, .iconst 0, 1) (List.mem_of_getElem? (i := 19) rfl)
theorem d_Mo_screen_151 : decode Y_Mo_screen.2.1 151 = .ok (.istore 10, 2) := D_Mo_screen_1 (151, .istore 10, 2) (List.mem_of_getElem? (i := 20) rfl)
theorem d_Mo_screen_153 : decode Y_Mo_screen.2.1 153 = .ok (.aload_n 0, 1) := D_Mo_screen_1 (153, .aload_n 0, 1) (List.mem_of_getElem? (i := 21) rfl)
theorem d_Mo_screen_154 : decode Y_Mo_screen.2.1 154 = .ok (.iload 8, 2) := D_Mo_screen_1 (154, .iload 8, 2) (List.mem_of_getElem? (i := 22) rfl)
theorem d_Mo_screen_156 : decode Y_Mo_screen.2.1 156 = .ok (.ifCond .eq 17, 3) := D_Mo_screen_1 (156, .ifCond .eq 17, 3) (List.mem_of_getElem? (i := 23) rfl)
theorem d_Mo_screen_159 : decode Y_Mo_screen.2.1 159 = .ok (.iload 9, 2) := D_Mo_screen_1 (159, .iload 9, 2) (List.mem_of_getElem? (i := 24) rfl)
theorem d_Mo_screen_161 : decode Y_Mo_screen.2.1 161 = .ok (.ifCond .eq 12, 3) := D_Mo_screen_1 (161, .ifCond .eq 12, 3) (List.mem_of_getElem? (i := 25) rfl)
theorem d_Mo_screen_164 : decode Y_Mo_screen.2.1 164 = .ok (.iload 10, 2) := D_Mo_screen_1 (164, .iload 10, 2) (List.mem_of_getElem? (i := 26) rfl)
theorem d_Mo_screen_166 : decode Y_Mo_screen.2.1 166 = .ok (.ifCond .eq 7, 3) := D_Mo_screen_1 (166, .ifCond .eq 7, 3) (List.mem_of_getElem? (i := 27) rfl)
theorem d_Mo_screen_169 : decode Y_Mo_screen.2.1 169 = .ok (.iconst 0, 1) := D_Mo_screen_1 (169, .iconst 0, 1) (List.mem_of_getElem? (i := 28) rfl)
theorem d_Mo_screen_170 : decode Y_Mo_screen.2.1 170 = .ok (.goto 4, 3) := D_Mo_screen_1 (170, .goto 4, 3) (List.mem_of_getElem? (i := 29) rfl)
theorem d_Mo_screen_173 : decode Y_Mo_screen.2.1 173 = .ok (.iconst 2, 1) := D_Mo_screen_1 (173, .iconst 2, 1) (List.mem_of_getElem? (i := 30) rfl)
theorem d_Mo_screen_174 : decode Y_Mo_screen.2.1 174 = .ok (.putfield 62, 3) := D_Mo_screen_1 (174, .putfield 62, 3) (List.mem_of_getElem? (i := 31) rfl)
theorem d_Mo_screen_177 : decode Y_Mo_screen.2.1 177 = .ok (.aload_n 0, 1) := D_Mo_screen_1 (177, .aload_n 0, 1) (List.mem_of_getElem? (i := 32) rfl)
theorem d_Mo_screen_178 : decode Y_Mo_screen.2.1 178 = .ok (.getfield 62, 3) := D_Mo_screen_1 (178, .getfield 62, 3) (List.mem_of_getElem? (i := 33) rfl)
theorem d_Mo_screen_181 : decode Y_Mo_screen.2.1 181 = .ok (.ifCond .ne 82, 3) := D_Mo_screen_1 (181, .ifCond .ne 82, 3) (List.mem_of_getElem? (i := 34) rfl)
theorem d_Mo_screen_184 : decode Y_Mo_screen.2.1 184 = .ok (.aload_n 0, 1) := D_Mo_screen_1 (184, .aload_n 0, 1) (List.mem_of_getElem? (i := 35) rfl)
theorem d_Mo_screen_185 : decode Y_Mo_screen.2.1 185 = .ok (.getfield 46, 3) := D_Mo_screen_1 (185, .getfield 46, 3) (List.mem_of_getElem? (i := 36) rfl)
theorem d_Mo_screen_188 : decode Y_Mo_screen.2.1 188 = .ok (.iload_n 1, 1) := D_Mo_screen_1 (188, .iload_n 1, 1) (List.mem_of_getElem? (i := 37) rfl)
theorem d_Mo_screen_189 : decode Y_Mo_screen.2.1 189 = .ok (.iconst 1, 1) := D_Mo_screen_1 (189, .iconst 1, 1) (List.mem_of_getElem? (i := 38) rfl)
theorem d_Mo_screen_190 : decode Y_Mo_screen.2.1 190 = .ok (.bastore, 1) := D_Mo_screen_1 (190, .bastore, 1) (List.mem_of_getElem? (i := 39) rfl)
theorem d_Mo_screen_191 : decode Y_Mo_screen.2.1 191 = .ok (.aload_n 0, 1) := D_Mo_screen_1 (191, .aload_n 0, 1) (List.mem_of_getElem? (i := 40) rfl)
theorem d_Mo_screen_192 : decode Y_Mo_screen.2.1 192 = .ok (.getfield 50, 3) := D_Mo_screen_1 (192, .getfield 50, 3) (List.mem_of_getElem? (i := 41) rfl)
theorem d_Mo_screen_195 : decode Y_Mo_screen.2.1 195 = .ok (.iconst 3, 1) := D_Mo_screen_1 (195, .iconst 3, 1) (List.mem_of_getElem? (i := 42) rfl)
theorem d_Mo_screen_196 : decode Y_Mo_screen.2.1 196 = .ok (.iload_n 1, 1) := D_Mo_screen_1 (196, .iload_n 1, 1) (List.mem_of_getElem? (i := 43) rfl)
theorem d_Mo_screen_197 : decode Y_Mo_screen.2.1 197 = .ok (.imul, 1) := D_Mo_screen_1 (197, .imul, 1) (List.mem_of_getElem? (i := 44) rfl)
theorem d_Mo_screen_198 : decode Y_Mo_screen.2.1 198 = .ok (.iload_n 2, 1) := D_Mo_screen_1 (198, .iload_n 2, 1) (List.mem_of_getElem? (i := 45) rfl)
theorem d_Mo_screen_199 : decode Y_Mo_screen.2.1 199 = .ok (.iastore, 1) := D_Mo_screen_1 (199, .iastore, 1) (List.mem_of_getElem? (i := 46) rfl)
theorem d_Mo_screen_200 : decode Y_Mo_screen.2.1 200 = .ok (.aload_n 0, 1) := D_Mo_screen_1 (200, .aload_n 0, 1) (List.mem_of_getElem? (i := 47) rfl)
theorem d_Mo_screen_201 : decode Y_Mo_screen.2.1 201 = .ok (.getfield 50, 3) := D_Mo_screen_1 (201, .getfield 50, 3) (List.mem_of_getElem? (i := 48) rfl)
theorem d_Mo_screen_204 : decode Y_Mo_screen.2.1 204 = .ok (.iconst 3, 1) := D_Mo_screen_1 (204, .iconst 3, 1) (List.mem_of_getElem? (i := 49) rfl)
theorem d_Mo_screen_205 : decode Y_Mo_screen.2.1 205 = .ok (.iload_n 1, 1) := D_Mo_screen_1 (205, .iload_n 1, 1) (List.mem_of_getElem? (i := 50) rfl)
theorem d_Mo_screen_206 : decode Y_Mo_screen.2.1 206 = .ok (.imul, 1) := D_Mo_screen_1 (206, .imul, 1) (List.mem_of_getElem? (i := 51) rfl)
theorem d_Mo_screen_207 : decode Y_Mo_screen.2.1 207 = .ok (.iconst 1, 1) := D_Mo_screen_1 (207, .iconst 1, 1) (List.mem_of_getElem? (i := 52) rfl)
theorem d_Mo_screen_208 : decode Y_Mo_screen.2.1 208 = .ok (.iadd, 1) := D_Mo_screen_1 (208, .iadd, 1) (List.mem_of_getElem? (i := 53) rfl)
theorem d_Mo_screen_209 : decode Y_Mo_screen.2.1 209 = .ok (.iload_n 3, 1) := D_Mo_screen_1 (209, .iload_n 3, 1) (List.mem_of_getElem? (i := 54) rfl)
theorem d_Mo_screen_210 : decode Y_Mo_screen.2.1 210 = .ok (.iastore, 1) := D_Mo_screen_1 (210, .iastore, 1) (List.mem_of_getElem? (i := 55) rfl)
theorem d_Mo_screen_211 : decode Y_Mo_screen.2.1 211 = .ok (.aload_n 0, 1) := D_Mo_screen_1 (211, .aload_n 0, 1) (List.mem_of_getElem? (i := 56) rfl)
theorem d_Mo_screen_212 : decode Y_Mo_screen.2.1 212 = .ok (.getfield 50, 3) := D_Mo_screen_1 (212, .getfield 50, 3) (List.mem_of_getElem? (i := 57) rfl)
theorem d_Mo_screen_215 : decode Y_Mo_screen.2.1 215 = .ok (.iconst 3, 1) := D_Mo_screen_1 (215, .iconst 3, 1) (List.mem_of_getElem? (i := 58) rfl)
theorem d_Mo_screen_216 : decode Y_Mo_screen.2.1 216 = .ok (.iload_n 1, 1) := D_Mo_screen_1 (216, .iload_n 1, 1) (List.mem_of_getElem? (i := 59) rfl)
theorem D_Mo_screen_2 : ∀ q ∈ ([(217, .imul, 1), (218, .iconst 2, 1), (219, .iadd, 1), (220, .iload 4, 2), (222, .iastore, 1), (223, .aload_n 0, 1), (224, .getfield 53, 3), (227, .iconst 3, 1), (228, .iload_n 1, 1), (229, .imul, 1), (230, .iload 5, 2), (232, .iastore, 1), (233, .aload_n 0, 1), (234, .getfield 53, 3), (237, .iconst 3, 1), (238, .iload_n 1, 1), (239, .imul, 1), (240, .iconst 1, 1), (241, .iadd, 1), (242, .iload 6, 2), (244, .iastore, 1), (245, .aload_n 0, 1), (246, .getfield 53, 3), (249, .iconst 3, 1), (250, .iload_n 1, 1), (251, .imul, 1), (252, .iconst 2, 1), (253, .iadd, 1), (254, .bipush 60, 2), (256, .iload 5, 2), (258, .isub, 1), (259, .iload 6, 2), (261, .isub, 1), (262, .iastore, 1), (263, .return_, 1)] : List (Nat × Instr × Nat)), decode prog_8_method_16_code q.1 = .ok (q.2.1, q.2.2) := by decide +kernel
theorem d_Mo_screen_217 : decode Y_Mo_screen.2.1 217 = .ok (.imul, 1) := D_Mo_screen_2 (217, .imul, 1) (List.mem_of_getElem? (i := 0) rfl)
theorem d_Mo_screen_218 : decode Y_Mo_screen.2.1 218 = .ok (.iconst 2, 1) := D_Mo_screen_2 (218, .iconst 2, 1) (List.mem_of_getElem? (i := 1) rfl)
theorem d_Mo_screen_219 : decode Y_Mo_screen.2.1 219 = .ok (.iadd, 1) := D_Mo_screen_2 (219, .iadd, 1) (List.mem_of_getElem? (i := 2) rfl)
theorem d_Mo_screen_220 : decode Y_Mo_screen.2.1 220 = .ok (.iload 4, 2) := D_Mo_screen_2 (220, .iload 4, 2) (List.mem_of_getElem? (i := 3) rfl)
theorem d_Mo_screen_222 : decode Y_Mo_screen.2.1 222 = .ok (.iastore, 1) := D_Mo_screen_2 (222, .iastore, 1) (List.mem_of_getElem? (i := 4) rfl)
theorem d_Mo_screen_223 : decode Y_Mo_screen.2.1 223 = .ok (.aload_n 0, 1) := D_Mo_screen_2 (223, .aload_n 0, 1) (List.mem_of_getElem? (i := 5) rfl)
theorem d_Mo_screen_224 : decode Y_Mo_screen.2.1 224 = .ok (.getfield 53, 3) := D_Mo_screen_2 (224, .getfield 53, 3) (List.mem_of_getElem? (i := 6) rfl)
theorem d_Mo_screen_227 : decode Y_Mo_screen.2.1 227 = .ok (.iconst 3, 1) := D_Mo_screen_2 (227, .iconst 3, 1) (List.mem_of_getElem? (i := 7) rfl)
theorem d_Mo_screen_228 : decode Y_Mo_screen.2.1 228 = .ok (.iload_n 1, 1) := D_Mo_screen_2 (228, .iload_n 1, 1) (List.mem_of_getElem? (i := 8) rfl)
theorem d_Mo_screen_229 : decode Y_Mo_screen.2.1 229 = .ok (.imul, 1) := D_Mo_screen_2 (229, .imul, 1) (List.mem_of_getElem? (i := 9) rfl)
theorem d_Mo_screen_230 : decode Y_Mo_screen.2.1 230 = .ok (.iload 5, 2) := D_Mo_screen_2 (230, .iload 5, 2) (List.mem_of_getElem? (i := 10) rfl)
theorem d_Mo_screen_232 : decode Y_Mo_screen.2.1 232 = .ok (.iastore, 1) := D_Mo_screen_2 (232, .iastore, 1) (List.mem_of_getElem? (i := 11) rfl)
theorem d_Mo_screen_233 : decode Y_Mo_screen.2.1 233 = .ok (.aload_n 0, 1) := D_Mo_screen_2 (233, .aload_n 0, 1) (List.mem_of_getElem? (i := 12) rfl)
theorem d_Mo_screen_234 : decode Y_Mo_screen.2.1 234 = .ok (.getfield 53, 3) := D_Mo_screen_2 (234, .getfield 53, 3) (List.mem_of_getElem? (i := 13) rfl)
theorem d_Mo_screen_237 : decode Y_Mo_screen.2.1 237 = .ok (.iconst 3, 1) := D_Mo_screen_2 (237, .iconst 3, 1) (List.mem_of_getElem? (i := 14) rfl)
theorem d_Mo_screen_238 : decode Y_Mo_screen.2.1 238 = .ok (.iload_n 1, 1) := D_Mo_screen_2 (238, .iload_n 1, 1) (List.mem_of_getElem? (i := 15) rfl)
theorem d_Mo_screen_239 : decode Y_Mo_screen.2.1 239 = .ok (.imul, 1) := D_Mo_screen_2 (239, .imul, 1) (List.mem_of_getElem? (i := 16) rfl)
theorem d_Mo_screen_240 : decode Y_Mo_screen.2.1 240 = .ok (.iconst 1, 1) := D_Mo_screen_2 (240, .iconst 1, 1) (List.mem_of_getElem? (i := 17) rfl)
theorem d_Mo_screen_241 : decode Y_Mo_screen.2.1 241 = .ok (.iadd, 1) := D_Mo_screen_2 (241, .iadd, 1) (List.mem_of_getElem? (i := 18) rfl)
theorem d_Mo_screen_242 : decode Y_Mo_screen.2.1 242 = .ok (.iload 6, 2) := D_Mo_screen_2 (242, .iload 6, 2) (List.mem_of_getElem? (i := 19) rfl)
theorem d_Mo_screen_244 : decode Y_Mo_screen.2.1 244 = .ok (.iastore, 1) := D_Mo_screen_2 (244, .iastore, 1) (List.mem_of_getElem? (i := 20) rfl)
theorem d_Mo_screen_245 : decode Y_Mo_screen.2.1 245 = .ok (.aload_n 0, 1) := D_Mo_screen_2 (245, .aload_n 0, 1) (List.mem_of_getElem? (i := 21) rfl)
theorem d_Mo_screen_246 : decode Y_Mo_screen.2.1 246 = .ok (.getfield 53, 3) := D_Mo_screen_2 (246, .getfield 53, 3) (List.mem_of_getElem? (i := 22) rfl)
theorem d_Mo_screen_249 : decode Y_Mo_screen.2.1 249 = .ok (.iconst 3, 1) := D_Mo_screen_2 (249, .iconst 3, 1) (List.mem_of_getElem? (i := 23) rfl)
theorem d_Mo_screen_250 : decode Y_Mo_screen.2.1 250 = .ok (.iload_n 1, 1) := D_Mo_screen_2 (250, .iload_n 1, 1) (List.mem_of_getElem? (i := 24) rfl)
theorem d_Mo_screen_251 : decode Y_Mo_screen.2.1 251 = .ok (.imul, 1) := D_Mo_screen_2 (251, .imul, 1) (List.mem_of_getElem? (i := 25) rfl)
theorem d_Mo_screen_252 : decode Y_Mo_screen.2.1 252 = .ok (.iconst 2, 1) := D_Mo_screen_2 (252, .iconst 2, 1) (List.mem_of_getElem? (i := 26) rfl)
theorem d_Mo_screen_253 : decode Y_Mo_screen.2.1 253 = .ok (.iadd, 1) := D_Mo_screen_2 (253, .iadd, 1) (List.mem_of_getElem? (i := 27) rfl)
theorem d_Mo_screen_254 : decode Y_Mo_screen.2.1 254 = .ok (.bipush 60, 2) := D_Mo_screen_2 (254, .bipush 60, 2) (List.mem_of_getElem? (i := 28) rfl)
theorem d_Mo_screen_256 : decode Y_Mo_screen.2.1 256 = .ok (.iload 5, 2) := D_Mo_screen_2 (256, .iload 5, 2) (List.mem_of_getElem? (i := 29) rfl)
theorem d_Mo_screen_258 : decode Y_Mo_screen.2.1 258 = .ok (.isub, 1) := D_Mo_screen_2 (258, .isub, 1) (List.mem_of_getElem? (i := 30) rfl)
theorem d_Mo_screen_259 : decode Y_Mo_screen.2.1 259 = .ok (.iload 6, 2) := D_Mo_screen_2 (259, .iload 6, 2) (List.mem_of_getElem? (i := 31) rfl)
theorem d_Mo_screen_261 : decode Y_Mo_screen.2.1 261 = .ok (.isub, 1) := D_Mo_screen_2 (261, .isub, 1) (List.mem_of_getElem? (i := 32) rfl)
theorem d_Mo_screen_262 : decode Y_Mo_screen.2.1 262 = .ok (.iastore, 1) := D_Mo_screen_2 (262, .iastore, 1) (List.mem_of_getElem? (i := 33) rfl)
theorem d_Mo_screen_263 : decode Y_Mo_screen.2.1 263 = .ok (.return_, 1) := D_Mo_screen_2 (263, .return_, 1) (List.mem_of_getElem? (i := 34) rfl)
theorem D_Mo_send_0 : ∀ q ∈ ([(0, .aload_n 0, 1), (1, .iload_n 1, 1), (2, .ifCond .lt 8, 3), (5, .iload_n 1, 1), (6, .iconst 3, 1), (7, .if_icmp .le 7, 3), (10, .iconst 1, 1), (11, .goto 29, 3), (14, .iload_n 2, 1), (15, .iload_n 3, 1), (16, .invokestatic 98, 3), (19, .ifCond .ne 7, 3), (22, .iconst 2, 1), (23, .goto 17, 3), (26, .aload_n 0, 1), (27, .getfield 46, 3), (30, .iload_n 1, 1), (31, .baload, 1), (32, .ifCond .eq 7, 3), (35, .iconst 0, 1), (36, .goto 4, 3), (39, .iconst 3, 1), (40, .putfield 62, 3), (43, .aload_n 0, 1), (44, .getfield 62, 3), (47, .ifCond .ne 7, 3), (50, .iconst 1, 1), (51, .goto 4, 3), (54, .iconst 0, 1), (55, .istore 4, 2), (57, .iconst 0, 1), (58, .istore 5, 2), (60, .iload 5, 2), (62, .iconst 3, 1), (63, .if_icmp .ge 40, 3), (66, .iload 4, 2), (68, .ifCond .eq 35, 3), (71, .aload_n 0, 1), (72, .aload_n 0, 1), (73, .getfield 50, 3), (76, .iconst 3, 1), (77, .iload_n 1, 1), (78, .imul, 1), (79, .iload 5, 2), (81, .iadd, 1), (82, .iaload, 1), (83, .aload_n 0, 1), (84, .iload_n 1, 1), (85, .iload 5, 2), (87, .iload_n 2, 1), (88, .i2l, 1), (89, .invokevirtual 116, 3), (92, .invokevirtual 102, 3), (95, .istore 4, 2), (97, .iinc 5 1, 3), (100, .goto (-40), 3), (103, .iconst 0, 1), (104, .istore 5, 2), (106, .iload 5, 2), (108, .iconst 3, 1)] : List (Nat × Instr × Nat)), decode prog_8_method_19_code q.1 = .ok (q.2.1, q.2.2) := by decide +kernel
theorem d_Mo_send_0 : decode Y_Mo_send.2.1 0 = .ok (.aload_n 0, 1) := D_Mo_send_0 (0, .aload_n 0, 1) (List.mem_of_getElem? (i := 0) rfl)
theorem d_Mo_send_1 : decode Y_Mo_send.2.1 1 = .ok (.iload_n 1, 1) := D_Mo_send_0 (1, .iload_n 1, 1) (List.mem_of_getElem? (i := 1) rfl)
theorem d_Mo_send_2 : decode Y_Mo_send.2.1 2 = .ok (.ifCond .lt 8, 3) := D_Mo_send_0 (2, .ifCond .lt 8, 3) (List.mem_of_getElem? (i := 2) rfl)
theorem d_Mo_send_5 : decode Y_Mo_send.2.1 5 = .ok (.iload_n 1, 1) := D_Mo_send_0 (5, .iload_n 1, 1) (List.mem_of_getElem? (i := 3) rfl)
theorem d_Mo_send_6 : decode Y_Mo_send.2.1 6 = .ok (.iconst 3, 1) := D_Mo_send_0 (6, .iconst 3, 1) (List.mem_of_getElem? (i := 4) rfl)
theorem d_Mo_send_7 : decode Y_Mo_send.2.1 7 = .ok (.if_icmp .le 7, 3) := D_Mo_send_0 (7, .if_icmp .le 7, 3) (List.mem_of_getElem? (i := 5) rfl)
theorem d_Mo_send_10 : decode Y_Mo_send.2.1 10 = .ok (.iconst 1, 1) := D_Mo_send_0 (10, .iconst 1, 1) (List.mem_of_getElem? (i := 6) rfl)
theorem d_Mo_send_11 : decode Y_Mo_send.2.1 11 = .ok (.goto 29, 3) := D_Mo_send_0 (11, .goto 29, 3) (List.mem_of_getElem? (i := 7) rfl)
theorem d_Mo_send_14 : decode Y_Mo_send.2.1 14 = .ok (.iload_n 2, 1) := D_Mo_send_0 (14, .iload_n 2, 1) (List.mem_of_getElem? (i := 8) rfl)
theorem d_Mo_send_15 : decode Y_Mo_send.2.1 15 = .ok (.iload_n 3, 1) := D_Mo_send_0 (15, .iload_n 3, 1) (List.mem_of_getElem? (i := 9) rfl)
theorem d_Mo_send_16 : decode Y_Mo_send.2.1 16 = .ok (.invokestatic 98, 3) := D_Mo_send_0 (16, .invokestatic 98, 3) (List.mem_of_getElem? (i := 10) rfl)
theorem d_Mo_send_19 : decode Y_Mo_send.2.1 19 = .ok (.ifCond .ne 7, 3) := D_Mo_send_0 (19, .ifCond .ne 7, 3) (List.mem_of_getElem? (i := 11) rfl)
theorem d_Mo_send_22 : decode Y_Mo_send.2.1 22 = .ok (.iconst 2, 1) := D_Mo_send_0 (22, .iconst 2, 1) (List.mem_of_getElem? (i := 12) rfl)
theorem d_Mo_send_23 : decode Y_Mo_send.2.1 23 = .ok (.goto 17, 3) := D_Mo_send_0 (23, .goto 17, 3) (List.mem_of_getElem? (i := 13) rfl)
theorem d_Mo_send_26 : decode Y_Mo_send.2.1 26 = .ok (.aload_n 0, 1) := D_Mo_send_0 (26, .aload_n 0, 1) (List.mem_of_getElem? (i := 14) rfl)
theorem d_Mo_send_27 : decode Y_Mo_send.2.1 27 = .ok (.getfield 46, 3) := D_Mo_send_0 (27, .getfield 46, 3) (List.mem_of_getElem? (i := 15) rfl)
theorem d_Mo_send_30 : decode Y_Mo_send.2.1 30 = .ok (.iload_n 1, 1) := D_Mo_send_0 (30, .iload_n 1, 1) (List.mem_of_getElem? (i := 16) rfl)
theorem d_Mo_send_31 : decode Y_Mo_send.2.1 31 = .ok (.baload, 1) := D_Mo_send_0 (31, .baload, 1) (List.mem_of_getElem? (i := 17) rfl)
theorem d_Mo_send_32 : decode Y_Mo_send.2.1 32 = .ok (.ifCond .eq 7, 3) := D_Mo_send_0 (32, .ifCond .eq 7, 3) (List.mem_of_getElem? (i := 18) rfl)
theorem d_Mo_send_35 : decode Y_Mo_send.2.1 35 = .ok (.iconst 0, 1) := D_Mo_send_0 (35, .iconst 0, 1) (List.mem_of_getElem? (i := 19) rfl)
theorem d_Mo_send_36 : decode Y_Mo_send.2.1 36 = .ok (.goto 4, 3) := D_Mo_send_0 (36, .goto 4, 3) (List.mem_of_getElem? (i := 20) rfl)
theorem d_Mo_send_39 : decode Y_Mo_send.2.1 39 = .ok (.iconst 3, 1) := D_Mo_send_0 (39, .iconst 3, 1) (List.mem_of_getElem? (i := 21) rfl)
theorem d_Mo_send_40 : decode Y_Mo_send.2.1 40 = .ok (.putfield 62, 3) := D_Mo_send_0 (40, .putfield 62, 3) (List.mem_of_getElem? (i := 22) rfl)
theorem d_Mo_send_43 : decode Y_Mo_send.2.1 43 = .ok (.aload_n 0, 1) := D_Mo_send_0 (43, .aload_n 0, 1) (List.mem_of_getElem? (i := 23) rfl)
theorem d_Mo_send_44 : decode Y_Mo_send.2.1 44 = .ok (.getfield 62, 3) := D_Mo_send_0 (44, .getfield 62, 3) (List.mem_of_getElem? (i := 24) rfl)
theorem d_Mo_send_47 : decode Y_Mo_send.2.1 47 = .ok (.ifCond .ne 7, 3) := D_Mo_send_0 (47, .ifCond .ne 7, 3) (List.mem_of_getElem? (i := 25) rfl)
theorem d_Mo_send_50 : decode Y_Mo_send.2.1 50 = .ok (.iconst 1, 1) := D_Mo_send_0 (50, .iconst 1, 1) (List.mem_of_getElem? (i := 26) rfl)
theorem d_Mo_send_51 : decode Y_Mo_send.2.1 51 = .ok (.goto 4, 3) := D_Mo_send_0 (51, .goto 4, 3) (List.mem_of_getElem? (i := 27) rfl)
theorem d_Mo_send_54 : decode Y_Mo_send.2.1 54 = .ok (.iconst 0, 1) := D_Mo_send_0 (54, .iconst 0, 1) (List.mem_of_getElem? (i := 28) rfl)
theorem d_Mo_send_55 : decode Y_Mo_send.2.1 55 = .ok (.istore 4, 2) := D_Mo_send_0 (55, .istore 4, 2) (List.mem_of_getElem? (i := 29) rfl)
theorem d_Mo_send_57 : decode Y_Mo_send.2.1 57 = .ok (.iconst 0, 1) := D_Mo_send_0 (57, .iconst 0, 1) (List.mem_of_getElem? (i := 30) rfl)
theorem d_Mo_send_58 : decode Y_Mo_send.2.1 58 = .ok (.istore 5, 2) := D_Mo_send_0 (58, .istore 5, 2) (List.mem_of_getElem? (i := 31) rfl)
theorem d_Mo_send_60 : decode Y_Mo_send.2.1 60 = .ok (.iload 5, 2) := D_Mo_send_0 (60, .iload 5, 2) (List.mem_of_getElem? (i := 32) rfl)
theorem d_Mo_send_62 : decode Y_Mo_send.2.1 62 = .ok (.iconst 3, 1) := D_Mo_send_0 (62, .iconst 3, 1) (List.mem_of_getElem? (i := 33) rfl)
theorem d_Mo_send_63 : decode Y_Mo_send.2.1 63 = .ok (.if_icmp .ge 40, 3) := D_Mo_send_0 (63, .if_icmp .ge 40, 3) (List.mem_of_getElem? (i := 34) rfl)
theorem d_Mo_send_66 : decode Y_Mo_send.2.1 66 = .ok (.iload 4, 2) := D_Mo_send_0 (66, .iload 4, 2) (List.mem_of_getElem? (i := 35) rfl)
theorem d_Mo_send_68 : decode Y_Mo_send.2.1 68 = .ok (.ifCond .eq 35, 3) := D_Mo_send_0 (68, .ifCond .eq 35, 3) (List.mem_of_getElem? (i := 36) rfl)
theorem d_Mo_send_71 : decode Y_Mo_send.2.1 71 = .ok (.aload_n 0, 1) := D_Mo_send_0 (71, .aload_n 0, 1) (List.mem_of_getElem? (i := 37) rfl)
theorem d_Mo_send_72 : decode Y_Mo_send.2.1 72 = .ok (.aload_n 0, 1) := D_Mo_send_0 (72, .aload_n 0, 1) (List.mem_of_getElem? (i := 38) rfl)
theorem d_Mo_send_73 : decode Y_Mo_send.2.1 73 = .ok (.getfield 50, 3) := D_Mo_send_0 (73, .getfield 50, 3) (List.mem_of_getElem? (i := 39) rfl)
theorem d_Mo_send_76 : decode Y_Mo_send.2.1 76 = .ok (.iconst 3, 1) := D_Mo_send_0 (76, .iconst 3, 1) (List.mem_of_getElem? (i := 40) rfl)
theorem d_Mo_send_77 : decode Y_Mo_send.2.1 77 = .ok (.iload_n 1, 1) := D_Mo_send_0 (77, .iload_n 1, 1) (List.mem_of_getElem? (i := 41) rfl)
theorem d_Mo_send_78 : decode Y_Mo_send.2.1 78 = .ok (.imul, 1) := D_Mo_send_0 (78, .imul, 1) (List.mem_of_getElem? (i := 42) rfl)
theorem d_Mo_send_79 : decode Y_Mo_send.2.1 79 = .ok (.iload 5, 2) := D_Mo_send_0 (79, .iload 5, 2) (List.mem_of_getElem? (i := 43) rfl)
theorem d_Mo_send_81 : decode Y_Mo_send.2.1 81 = .ok (.iadd, 1) := D_Mo_send_0 (81, .iadd, 1) (List.mem_of_getElem? (i := 44) rfl)
theorem d_Mo_send_82 : decode Y_Mo_send.2.1 82 = .ok (.iaload, 1) := D_Mo_send_0 (82, .iaload, 1) (List.mem_of_getElem? (i := 45) rfl)
theorem d_Mo_send_83 : decode Y_Mo_send.2.1 83 = .ok (.aload_n 0, 1) := D_Mo_send_0 (83, .aload_n 0, 1) (List.mem_of_getElem? (i := 46) rfl)
theorem d_Mo_send_84 : decode Y_Mo_send.2.1 84 = .ok (.iload_n 1, 1) := D_Mo_send_0 (84, .iload_n 1, 1) (List.mem_of_getElem? (i := 47) rfl)
theorem d_Mo_send_85 : decode Y_Mo_send.2.1 85 = .ok (.iload 5, 2) := D_Mo_send_0 (85, .iload 5, 2) (List.mem_of_getElem? (i := 48) rfl)
theorem d_Mo_send_87 : decode Y_Mo_send.2.1 87 = .ok (.iload_n 2, 1) := D_Mo_send_0 (87, .iload_n 2, 1) (List.mem_of_getElem? (i := 49) rfl)
theorem d_Mo_send_88 : decode Y_Mo_send.2.1 88 = .ok (.i2l, 1) := D_Mo_send_0 (88, .i2l, 1) (List.mem_of_getElem? (i := 50) rfl)
theorem d_Mo_send_89 : decode Y_Mo_send.2.1 89 = .ok (.invokevirtual 116, 3) := D_Mo_send_0 (89, .invokevirtual 116, 3) (List.mem_of_getElem? (i := 51) rfl)
theorem d_Mo_send_92 : decode Y_Mo_send.2.1 92 = .ok (.invokevirtual 102, 3) := D_Mo_send_0 (92, .invokevirtual 102, 3) (List.mem_of_getElem? (i := 52) rfl)
theorem d_Mo_send_95 : decode Y_Mo_send.2.1 95 = .ok (.istore 4, 2) := D_Mo_send_0 (95, .istore 4, 2) (List.mem_of_getElem? (i := 53) rfl)
theorem d_Mo_send_97 : decode Y_Mo_send.2.1 97 = .ok (.iinc 5 1, 3) := D_Mo_send_0 (97, .iinc 5 1, 3) (List.mem_of_getElem? (i := 54) rfl)
theorem d_Mo_send_100 : decode Y_Mo_send.2.1 100 = .ok (.goto (-40), 3) := D_Mo_send_0 (100, .goto (-40), 3) (List.mem_of_getElem? (i := 55) rfl)
theorem d_Mo_send_103 : decode Y_Mo_send.2.1 103 = .ok (.iconst 0, 1) := D_Mo_send_0 (103, .iconst 0, 1) (List.mem_of_getElem? (i := 56) rfl)
theorem d_Mo_send_104 : decode Y_Mo_send.2.1 104 = .ok (.istore 5, 2) := D_Mo_send_0 (104, .istore 5, 2) (List.mem_of_getElem? (i := 57) rfl)
theorem d_Mo_send_106 : decode Y_Mo_send.2.1 106 = .ok (.iload 5, 2) := D_Mo_send_0 (106, .iload 5, 2) (List.mem_of_getElem? (i := 58) rfl)
theorem d_Mo_send_108 : decode Y_Mo_send.2.1 108 = .ok (.iconst 3, 1) := D_Mo_send_0 (108, .iconst 3, 1) (List.mem_of_getElem? (i := 59) rfl)
theorem D_Mo_send_1 : ∀ q ∈ ([(109, .if_icmp .ge 39, 3), (112, .iload 4, 2), (114, .ifCond .eq 34, 3), (117, .aload_n 0, 1), (118, .aload_n 0, 1), (119, .getfield 50, 3), (122, .iconst 3, 1), (123, .iload_n 1, 1), (124, .imul, 1), (125, .iload 5, 2), (127, .iadd, 1), (128, .iaload, 1), (129, .aload_n 0, 1), (130, .iload_n 1, 1), (131, .iload 5, 2), (133, .iload_n 2, 1), (134, .i2l, 1), (135, .invokevirtual 116, 3), (138, .iload_n 3, 1), (139, .invokevirtual 106, 3), (142, .iinc 5 1, 3), (145, .goto (-39), 3), (148, .iload 4, 2), (150, .ireturn, 1)] : List (Nat × Instr × Nat)), decode prog_8_method_19_code q.1 = .ok (q.2.1, q.2.2) := by decide +kernel
theorem d_Mo_send_109 : decode Y_Mo_send.2.1 109 = .ok (.if_icmp .ge 39, 3) := D_Mo_send_1 (109, .if_icmp .ge 39, 3) (List.mem_of_getElem? (i := 0) rfl)
theorem d_Mo_send_112 : decode Y_Mo_send.2.1 112 = .ok (.iload 4, 2) := D_Mo_send_1 (112, .iload 4, 2) (List.mem_of_getElem? (i := 1) rfl)
theorem d_Mo_send_114 : decode Y_Mo_send.2.1 114 = .ok (.ifCond .eq 34, 3) := D_Mo_send_1 (114, .ifCond .eq 34, 3) (List.mem_of_getElem? (i := 2) rfl)
theorem d_Mo_send_117 : decode Y_Mo_send.2.1 117 = .ok (.aload_n 0, 1) := D_Mo_send_1 (117, .aload_n 0, 1) (List.mem_of_getElem? (i := 3) rfl)
theorem d_Mo_send_118 : decode Y_Mo_send.2.1 118 = .ok (.aload_n 0, 1) := D_Mo_send_1 (118, .aload_n 0, 1) (List.mem_of_getElem? (i := 4) rfl)
theorem d_Mo_send_119 : decode Y_Mo_send.2.1 119 = .ok (.getfield 50, 3) := D_Mo_send_1 (119, .getfield 50, 3) (List.mem_of_getElem? (i := 5) rfl)
theorem d_Mo_send_122 : decode Y_Mo_send.2.1 122 = .ok (.iconst 3, 1) := D_Mo_send_1 (122, .iconst 3, 1) (List.mem_of_getElem? (i := 6) rfl)
theorem d_Mo_send_123 : decode Y_Mo_send.2.1 123 = .ok (.iload_n 1, 1) := D_Mo_send_1 (123, .iload_n 1, 1) (List.mem_of_getElem? (i := 7) rfl)
theorem d_Mo_send_124 : decode Y_Mo_send.2.1 124 = .ok (.imul, 1) := D_Mo_send_1 (124, .imul, 1) (List.mem_of_getElem? (i := 8) rfl)
theorem d_Mo_send_125 : decode Y_Mo_send.2.1 125 = .ok (.iload 5, 2) := D_Mo_send_1 (125, .iload 5, 2) (List.mem_of_getElem? (i := 9) rfl)
theorem d_Mo_send_127 : decode Y_Mo_send.2.1 127 = .ok (.iadd, 1) := D_Mo_send_1 (127, .iadd, 1) (List.mem_of_getElem? (i := 10) rfl)
theorem d_Mo_send_128 : decode Y_Mo_send.2.1 128 = .ok (.iaload, 1) := D_Mo_send_1 (128, .iaload, 1) (List.mem_of_getElem? (i := 11) rfl)
theorem d_Mo_send_129 : decode Y_Mo_send.2.1 129 = .ok (.aload_n 0, 1) := D_Mo_send_1 (129, .aload_n 0, 1) (List.mem_of_getElem? (i := 12) rfl)
theorem d_Mo_send_130 : decode Y_Mo_send.2.1 130 = .ok (.iload_n 1, 1) := D_Mo_send_1 (130, .iload_n 1, 1) (List.mem_of_getElem? (i := 13) rfl)
theorem d_Mo_send_131 : decode Y_Mo_send.2.1 131 = .ok (.iload 5, 2) := D_Mo_send_1 (131, .iload 5, 2) (List.mem_of_getElem? (i := 14) rfl)
theorem d_Mo_send_133 : decode Y_Mo_send.2.1 133 = .ok (.iload_n 2, 1) := D_Mo_send_1 (133, .iload_n 2, 1) (List.mem_of_getElem? (i := 15) rfl)
theorem d_Mo_send_134 : decode Y_Mo_send.2.1 134 = .ok (.i2l, 1) := D_Mo_send_1 (134, .i2l, 1) (List.mem_of_getElem? (i := 16) rfl)
theorem d_Mo_send_135 : decode Y_Mo_send.2.1 135 = .ok (.invokevirtual 116, 3) := D_Mo_send_1 (135, .invokevirtual 116, 3) (List.mem_of_getElem? (i := 17) rfl)
theorem d_Mo_send_138 : decode Y_Mo_send.2.1 138 = .ok (.iload_n 3, 1) := D_Mo_send_1 (138, .iload_n 3, 1) (List.mem_of_getElem? (i := 18) rfl)
theorem d_Mo_send_139 : decode Y_Mo_send.2.1 139 = .ok (.invokevirtual 106, 3) := D_Mo_send_1 (139, .invokevirtual 106, 3) (List.mem_of_getElem? (i := 19) rfl)
theorem d_Mo_send_142 : decode Y_Mo_send.2.1 142 = .ok (.iinc 5 1, 3) := D_Mo_send_1 (142, .iinc 5 1, 3) (List.mem_of_getElem? (i := 20) rfl)
theorem d_Mo_send_145 : decode Y_Mo_send.2.1 145 = .ok (.goto (-39), 3) := D_Mo_send_1 (145, .goto (-39), 3) (List.mem_of_getElem? (i := 21) rfl)
theorem d_Mo_send_148 : decode Y_Mo_send.2.1 148 = .ok (.iload 4, 2) := D_Mo_send_1 (148, .iload 4, 2) (List.mem_of_getElem? (i := 22) rfl)
theorem d_Mo_send_150 : decode Y_Mo_send.2.1 150 = .ok (.ireturn, 1) := D_Mo_send_1 (150, .ireturn, 1) (List.mem_of_getElem? (i := 23) rfl)
theorem D_Mo_part_0 : ∀ q ∈ ([(0, .iload_n 2, 1), (1, .ifCond .le 21, 3), (4, .lload_n 3, 1), (5, .aload_n 0, 1), (6, .getfield 53, 3), (9, .iconst 3, 1), (10, .iload_n 1, 1), (11, .imul, 1), (12, .iload_n 2, 1), (13, .iadd, 1), (14, .iaload, 1), (15, .i2l, 1), (16, .lmul, 1), (17, .ldc2_w 110, 3), (20, .ldiv, 1), (21, .lreturn, 1), (22, .lload_n 3, 1), (23, .aload_n 0, 1), (24, .iload_n 1, 1), (25, .lload_n 3, 1), (26, .invokevirtual 112, 3), (29, .lsub, 1), (30, .lreturn, 1)] : List (Nat × Instr × Nat)), decode prog_8_method_17_code q.1 = .ok (q.2.1, q.2.2) := by decide +kernel
theorem d_Mo_part_0 : decode Y_Mo_part.2.1 0 = .ok (.iload_n 2, 1) := D_Mo_part_0 (0, .iload_n 2, 1) (List.mem_of_getElem? (i := 0) rfl)
theorem d_Mo_part_1 : decode Y_Mo_part.2.1 1 = .ok (.ifCond .le 21, 3) := D_Mo_part_0 (1, .ifCond .le 21, 3) (List.mem_of_getElem? (i := 1) rfl)
theorem d_Mo_part_4 : decode Y_Mo_part.2.1 4 = .ok (.lload_n 3, 1) := D_Mo_part_0 (4, .lload_n 3, 1) (List.mem_of_getElem? (i := 2) rfl)
theorem d_Mo_part_5 : decode Y_Mo_part.2.1 5 = .ok (.aload_n 0, 1) := D_Mo_part_0 (5, .aload_n 0, 1) (List.mem_of_getElem? (i := 3) rfl)
theorem d_Mo_part_6 : decode Y_Mo_part.2.1 6 = .ok (.getfield 53, 3) := D_Mo_part_0 (6, .getfield 53, 3) (List.mem_of_getElem? (i := 4) rfl)
theorem d_Mo_part_9 : decode Y_Mo_part.2.1 9 = .ok (.iconst 3, 1) := D_Mo_part_0 (9, .iconst 3, 1) (List.mem_of_getElem? (i := 5) rfl)
theorem d_Mo_part_10 : decode Y_Mo_part.2.1 10 = .ok (.iload_n 1, 1) := D_Mo_part_0 (10, .iload_n 1, 1) (List.mem_of_getElem? (i := 6) rfl)
theorem d_Mo_part_11 : decode Y_Mo_part.2.1 11 = .ok (.imul, 1) := D_Mo_part_0 (11, .imul, 1) (List.mem_of_getElem? (i := 7) rfl)
theorem d_Mo_part_12 : decode Y_Mo_part.2.1 12 = .ok (.iload_n 2, 1) := D_Mo_part_0 (12, .iload_n 2, 1) (List.mem_of_getElem? (i := 8) rfl)
theorem d_Mo_part_13 : decode Y_Mo_part.2.1 13 = .ok (.iadd, 1) := D_Mo_part_0 (13, .iadd, 1) (List.mem_of_getElem? (i := 9) rfl)
theorem d_Mo_part_14 : decode Y_Mo_part.2.1 14 = .ok (.iaload, 1) := D_Mo_part_0 (14, .iaload, 1) (List.mem_of_getElem? (i := 10) rfl)
theorem d_Mo_part_15 : decode Y_Mo_part.2.1 15 = .ok (.i2l, 1) := D_Mo_part_0 (15, .i2l, 1) (List.mem_of_getElem? (i := 11) rfl)
theorem d_Mo_part_16 : decode Y_Mo_part.2.1 16 = .ok (.lmul, 1) := D_Mo_part_0 (16, .lmul, 1) (List.mem_of_getElem? (i := 12) rfl)
theorem d_Mo_part_17 : decode Y_Mo_part.2.1 17 = .ok (.ldc2_w 110, 3) := D_Mo_part_0 (17, .ldc2_w 110, 3) (List.mem_of_getElem? (i := 13) rfl)
theorem d_Mo_part_20 : decode Y_Mo_part.2.1 20 = .ok (.ldiv, 1) := D_Mo_part_0 (20, .ldiv, 1) (List.mem_of_getElem? (i := 14) rfl)
theorem d_Mo_part_21 : decode Y_Mo_part.2.1 21 = .ok (.lreturn, 1) := D_Mo_part_0 (21, .lreturn, 1) (List.mem_of_getElem? (i := 15) rfl)
theorem d_Mo_part_22 : decode Y_Mo_part.2.1 22 = .ok (.lload_n 3, 1) := D_Mo_part_0 (22, .lload_n 3, 1) (List.mem_of_getElem? (i := 16) rfl)
theorem d_Mo_part_23 : decode Y_Mo_part.2.1 23 = .ok (.aload_n 0, 1) := D_Mo_part_0 (23, .aload_n 0, 1) (List.mem_of_getElem? (i := 17) rfl)
theorem d_Mo_part_24 : decode Y_Mo_part.2.1 24 = .ok (.iload_n 1, 1) := D_Mo_part_0 (24, .iload_n 1, 1) (List.mem_of_getElem? (i := 18) rfl)
theorem d_Mo_part_25 : decode Y_Mo_part.2.1 25 = .ok (.lload_n 3, 1) := D_Mo_part_0 (25, .lload_n 3, 1) (List.mem_of_getElem? (i := 19) rfl)
theorem d_Mo_part_26 : decode Y_Mo_part.2.1 26 = .ok (.invokevirtual 112, 3) := D_Mo_part_0 (26, .invokevirtual 112, 3) (List.mem_of_getElem? (i := 20) rfl)
theorem d_Mo_part_29 : decode Y_Mo_part.2.1 29 = .ok (.lsub, 1) := D_Mo_part_0 (29, .lsub, 1) (List.mem_of_getElem? (i := 21) rfl)
theorem d_Mo_part_30 : decode Y_Mo_part.2.1 30 = .ok (.lreturn, 1) := D_Mo_part_0 (30, .lreturn, 1) (List.mem_of_getElem? (i := 22) rfl)
theorem D_Mo_others_0 : ∀ q ∈ ([(0, .lload_n 2, 1), (1, .aload_n 0, 1), (2, .getfield 53, 3), (5, .iconst 3, 1), (6, .iload_n 1, 1), (7, .imul, 1), (8, .iconst 1, 1), (9, .iadd, 1), (10, .iaload, 1), (11, .i2l, 1), (12, .lmul, 1), (13, .ldc2_w 110, 3), (16, .ldiv, 1), (17, .lload_n 2, 1), (18, .aload_n 0, 1), (19, .getfield 53, 3), (22, .iconst 3, 1), (23, .iload_n 1, 1), (24, .imul, 1), (25, .iconst 2, 1), (26, .iadd, 1), (27, .iaload, 1), (28, .i2l, 1), (29, .lmul, 1), (30, .ldc2_w 110, 3), (33, .ldiv, 1), (34, .ladd, 1), (35, .lreturn, 1)] : List (Nat × Instr × Nat)), decode prog_8_method_18_code q.1 = .ok (q.2.1, q.2.2) := by decide +kernel
theorem d_Mo_others_0 : decode Y_Mo_others.2.1 0 = .ok (.lload_n 2, 1) := D_Mo_others_0 (0, .lload_n 2, 1) (List.mem_of_getElem? (i := 0) rfl)
theorem d_Mo_others_1 : decode Y_Mo_others.2.1 1 = .ok (.aload_n 0, 1) := D_Mo_others_0 (1, .aload_n 0, 1) (List.mem_of_getElem? (i := 1) rfl)
theorem d_Mo_others_2 : decode Y_Mo_others.2.1 2 = .ok (.getfield 53, 3) := D_Mo_others_0 (2, .getfield 53, 3) (List.mem_of_getElem? (i := 2) rfl)
theorem d_Mo_others_5 : decode Y_Mo_others.2.1 5 = .ok (.iconst 3, 1) := D_Mo_others_0 (5, .iconst 3, 1) (List.mem_of_getElem? (i := 3) rfl)
theorem d_Mo_others_6 : decode Y_Mo_others.2.1 6 = .ok (.iload_n 1, 1) := D_Mo_others_0 (6, .iload_n 1, 1) (List.mem_of_getElem? (i := 4) rfl)
theorem d_Mo_others_7 : decode Y_Mo_others.2.1 7 = .ok (.imul, 1) := D_Mo_others_0 (7, .imul, 1) (List.mem_of_getElem? (i := 5) rfl)
theorem d_Mo_others_8 : decode Y_Mo_others.2.1 8 = .ok (.iconst 1, 1) := D_Mo_others_0 (8, .iconst 1, 1) (List.mem_of_getElem? (i := 6) rfl)
theorem d_Mo_others_9 : decode Y_Mo_others.2.1 9 = .ok (.iadd, 1) := D_Mo_others_0 (9, .iadd, 1) (List.mem_of_getElem? (i := 7) rfl)
theorem d_Mo_others_10 : decode Y_Mo_others.2.1 10 = .ok (.iaload, 1) := D_Mo_others_0 (10, .iaload, 1) (List.mem_of_getElem? (i := 8) rfl)
theorem d_Mo_others_11 : decode Y_Mo_others.2.1 11 = .ok (.i2l, 1) := D_Mo_others_0 (11, .i2l, 1) (List.mem_of_getElem? (i := 9) rfl)
theorem d_Mo_others_12 : decode Y_Mo_others.2.1 12 = .ok (.lmul, 1) := D_Mo_others_0 (12, .lmul, 1) (List.mem_of_getElem? (i := 10) rfl)
theorem d_Mo_others_13 : decode Y_Mo_others.2.1 13 = .ok (.ldc2_w 110, 3) := D_Mo_others_0 (13, .ldc2_w 110, 3) (List.mem_of_getElem? (i := 11) rfl)
theorem d_Mo_others_16 : decode Y_Mo_others.2.1 16 = .ok (.ldiv, 1) := D_Mo_others_0 (16, .ldiv, 1) (List.mem_of_getElem? (i := 12) rfl)
theorem d_Mo_others_17 : decode Y_Mo_others.2.1 17 = .ok (.lload_n 2, 1) := D_Mo_others_0 (17, .lload_n 2, 1) (List.mem_of_getElem? (i := 13) rfl)
theorem d_Mo_others_18 : decode Y_Mo_others.2.1 18 = .ok (.aload_n 0, 1) := D_Mo_others_0 (18, .aload_n 0, 1) (List.mem_of_getElem? (i := 14) rfl)
theorem d_Mo_others_19 : decode Y_Mo_others.2.1 19 = .ok (.getfield 53, 3) := D_Mo_others_0 (19, .getfield 53, 3) (List.mem_of_getElem? (i := 15) rfl)
theorem d_Mo_others_22 : decode Y_Mo_others.2.1 22 = .ok (.iconst 3, 1) := D_Mo_others_0 (22, .iconst 3, 1) (List.mem_of_getElem? (i := 16) rfl)
theorem d_Mo_others_23 : decode Y_Mo_others.2.1 23 = .ok (.iload_n 1, 1) := D_Mo_others_0 (23, .iload_n 1, 1) (List.mem_of_getElem? (i := 17) rfl)
theorem d_Mo_others_24 : decode Y_Mo_others.2.1 24 = .ok (.imul, 1) := D_Mo_others_0 (24, .imul, 1) (List.mem_of_getElem? (i := 18) rfl)
theorem d_Mo_others_25 : decode Y_Mo_others.2.1 25 = .ok (.iconst 2, 1) := D_Mo_others_0 (25, .iconst 2, 1) (List.mem_of_getElem? (i := 19) rfl)
theorem d_Mo_others_26 : decode Y_Mo_others.2.1 26 = .ok (.iadd, 1) := D_Mo_others_0 (26, .iadd, 1) (List.mem_of_getElem? (i := 20) rfl)
theorem d_Mo_others_27 : decode Y_Mo_others.2.1 27 = .ok (.iaload, 1) := D_Mo_others_0 (27, .iaload, 1) (List.mem_of_getElem? (i := 21) rfl)
theorem d_Mo_others_28 : decode Y_Mo_others.2.1 28 = .ok (.i2l, 1) := D_Mo_others_0 (28, .i2l, 1) (List.mem_of_getElem? (i := 22) rfl)
theorem d_Mo_others_29 : decode Y_Mo_others.2.1 29 = .ok (.lmul, 1) := D_Mo_others_0 (29, .lmul, 1) (List.mem_of_getElem? (i := 23) rfl)
theorem d_Mo_others_30 : decode Y_Mo_others.2.1 30 = .ok (.ldc2_w 110, 3) := D_Mo_others_0 (30, .ldc2_w 110, 3) (List.mem_of_getElem? (i := 24) rfl)
theorem d_Mo_others_33 : decode Y_Mo_others.2.1 33 = .ok (.ldiv, 1) := D_Mo_others_0 (33, .ldiv, 1) (List.mem_of_getElem? (i := 25) rfl)
theorem d_Mo_others_34 : decode Y_Mo_others.2.1 34 = .ok (.ladd, 1) := D_Mo_others_0 (34, .ladd, 1) (List.mem_of_getElem? (i := 26) rfl)
theorem d_Mo_others_35 : decode Y_Mo_others.2.1 35 = .ok (.lreturn, 1) := D_Mo_others_0 (35, .lreturn, 1) (List.mem_of_getElem? (i := 27) rfl)
theorem D_Mo_scale_0 : ∀ q ∈ ([(0, .aload_n 0, 1), (1, .aload_n 0, 1), (2, .iload_n 1, 1), (3, .invokevirtual 94, 3), (6, .ifCond .eq 7, 3), (9, .iconst 1, 1), (10, .goto 19, 3), (13, .lload_n 2, 1), (14, .lconst 0, 1), (15, .ldc2_w 120, 3), (18, .invokestatic 71, 3), (21, .ifCond .eq 7, 3), (24, .iconst 0, 1), (25, .goto 4, 3), (28, .iconst 2, 1), (29, .putfield 62, 3), (32, .aload_n 0, 1), (33, .getfield 62, 3), (36, .ifCond .ne 10, 3), (39, .aload_n 0, 1), (40, .getfield 37, 3), (43, .iload_n 1, 1), (44, .lload_n 2, 1), (45, .lastore, 1), (46, .return_, 1)] : List (Nat × Instr × Nat)), decode prog_8_method_20_code q.1 = .ok (q.2.1, q.2.2) := by decide +kernel
theorem d_Mo_scale_0 : decode Y_Mo_scale.2.1 0 = .ok (.aload_n 0, 1) := D_Mo_scale_0 (0, .aload_n 0, 1) (List.mem_of_getElem? (i := 0) rfl)
theorem d_Mo_scale_1 : decode Y_Mo_scale.2.1 1 = .ok (.aload_n 0, 1) := D_Mo_scale_0 (1, .aload_n 0, 1) (List.mem_of_getElem? (i := 1) rfl)
theorem d_Mo_scale_2 : decode Y_Mo_scale.2.1 2 = .ok (.iload_n 1, 1) := D_Mo_scale_0 (2, .iload_n 1, 1) (List.mem_of_getElem? (i := 2) rfl)
theorem d_Mo_scale_3 : decode Y_Mo_scale.2.1 3 = .ok (.invokevirtual 94, 3) := D_Mo_scale_0 (3, .invokevirtual 94, 3) (List.mem_of_getElem? (i := 3) rfl)
theorem d_Mo_scale_6 : decode Y_Mo_scale.2.1 6 = .ok (.ifCond .eq 7, 3) := D_Mo_scale_0 (6, .ifCond .eq 7, 3) (List.mem_of_getElem? (i := 4) rfl)
theorem d_Mo_scale_9 : decode Y_Mo_scale.2.1 9 = .ok (.iconst 1, 1) := D_Mo_scale_0 (9, .iconst 1, 1) (List.mem_of_getElem? (i := 5) rfl)
theorem d_Mo_scale_10 : decode Y_Mo_scale.2.1 10 = .ok (.goto 19, 3) := D_Mo_scale_0 (10, .goto 19, 3) (List.mem_of_getElem? (i := 6) rfl)
theorem d_Mo_scale_13 : decode Y_Mo_scale.2.1 13 = .ok (.lload_n 2, 1) := D_Mo_scale_0 (13, .lload_n 2, 1) (List.mem_of_getElem? (i := 7) rfl)
theorem d_Mo_scale_14 : decode Y_Mo_scale.2.1 14 = .ok (.lconst 0, 1) := D_Mo_scale_0 (14, .lconst 0, 1) (List.mem_of_getElem? (i := 8) rfl)
theorem d_Mo_scale_15 : decode Y_Mo_scale.2.1 15 = .ok (.ldc2_w 120, 3) := D_Mo_scale_0 (15, .ldc2_w 120, 3) (List.mem_of_getElem? (i := 9) rfl)
theorem d_Mo_scale_18 : decode Y_Mo_scale.2.1 18 = .ok (.invokestatic 71, 3) := D_Mo_scale_0 (18, .invokestatic 71, 3) (List.mem_of_getElem? (i := 10) rfl)
theorem d_Mo_scale_21 : decode Y_Mo_scale.2.1 21 = .ok (.ifCond .eq 7, 3) := D_Mo_scale_0 (21, .ifCond .eq 7, 3) (List.mem_of_getElem? (i := 11) rfl)
theorem d_Mo_scale_24 : decode Y_Mo_scale.2.1 24 = .ok (.iconst 0, 1) := D_Mo_scale_0 (24, .iconst 0, 1) (List.mem_of_getElem? (i := 12) rfl)
theorem d_Mo_scale_25 : decode Y_Mo_scale.2.1 25 = .ok (.goto 4, 3) := D_Mo_scale_0 (25, .goto 4, 3) (List.mem_of_getElem? (i := 13) rfl)
theorem d_Mo_scale_28 : decode Y_Mo_scale.2.1 28 = .ok (.iconst 2, 1) := D_Mo_scale_0 (28, .iconst 2, 1) (List.mem_of_getElem? (i := 14) rfl)
theorem d_Mo_scale_29 : decode Y_Mo_scale.2.1 29 = .ok (.putfield 62, 3) := D_Mo_scale_0 (29, .putfield 62, 3) (List.mem_of_getElem? (i := 15) rfl)
theorem d_Mo_scale_32 : decode Y_Mo_scale.2.1 32 = .ok (.aload_n 0, 1) := D_Mo_scale_0 (32, .aload_n 0, 1) (List.mem_of_getElem? (i := 16) rfl)
theorem d_Mo_scale_33 : decode Y_Mo_scale.2.1 33 = .ok (.getfield 62, 3) := D_Mo_scale_0 (33, .getfield 62, 3) (List.mem_of_getElem? (i := 17) rfl)
theorem d_Mo_scale_36 : decode Y_Mo_scale.2.1 36 = .ok (.ifCond .ne 10, 3) := D_Mo_scale_0 (36, .ifCond .ne 10, 3) (List.mem_of_getElem? (i := 18) rfl)
theorem d_Mo_scale_39 : decode Y_Mo_scale.2.1 39 = .ok (.aload_n 0, 1) := D_Mo_scale_0 (39, .aload_n 0, 1) (List.mem_of_getElem? (i := 19) rfl)
theorem d_Mo_scale_40 : decode Y_Mo_scale.2.1 40 = .ok (.getfield 37, 3) := D_Mo_scale_0 (40, .getfield 37, 3) (List.mem_of_getElem? (i := 20) rfl)
theorem d_Mo_scale_43 : decode Y_Mo_scale.2.1 43 = .ok (.iload_n 1, 1) := D_Mo_scale_0 (43, .iload_n 1, 1) (List.mem_of_getElem? (i := 21) rfl)
theorem d_Mo_scale_44 : decode Y_Mo_scale.2.1 44 = .ok (.lload_n 2, 1) := D_Mo_scale_0 (44, .lload_n 2, 1) (List.mem_of_getElem? (i := 22) rfl)
theorem d_Mo_scale_45 : decode Y_Mo_scale.2.1 45 = .ok (.lastore, 1) := D_Mo_scale_0 (45, .lastore, 1) (List.mem_of_getElem? (i := 23) rfl)
theorem d_Mo_scale_46 : decode Y_Mo_scale.2.1 46 = .ok (.return_, 1) := D_Mo_scale_0 (46, .return_, 1) (List.mem_of_getElem? (i := 24) rfl)
theorem D_Mo_shift_0 : ∀ q ∈ ([(0, .aload_n 0, 1), (1, .iload_n 1, 1), (2, .ifCond .lt 8, 3), (5, .iload_n 1, 1), (6, .iconst 3, 1), (7, .if_icmp .le 7, 3), (10, .iconst 1, 1), (11, .goto 4, 3), (14, .iconst 0, 1), (15, .putfield 62, 3), (18, .aload_n 0, 1), (19, .getfield 62, 3), (22, .ifCond .le 5, 3), (25, .lconst 0, 1), (26, .lreturn, 1), (27, .lconst 0, 1), (28, .lstore_n 2, 1), (29, .iconst 0, 1), (30, .istore 4, 2), (32, .iload 4, 2), (34, .aload_n 0, 1), (35, .getfield 66, 3), (38, .if_icmp .ge 44, 3), (41, .aload_n 0, 1), (42, .getfield 37, 3), (45, .iload 4, 2), (47, .laload, 1), (48, .ldc2_w 35, 3), (51, .lcmp, 1), (52, .ifCond .ne 7, 3), (55, .lload_n 2, 1), (56, .goto 19, 3), (59, .lload_n 2, 1), (60, .aload_n 0, 1), (61, .iload 4, 2), (63, .invokevirtual 86, 3), (66, .ladd, 1), (67, .aload_n 0, 1), (68, .getfield 37, 3), (71, .iload 4, 2), (73, .laload, 1), (74, .lsub, 1), (75, .lstore_n 2, 1), (76, .iinc 4 1, 3), (79, .goto (-47), 3), (82, .iload_n 1, 1), (83, .ifCond .ne 7, 3), (86, .lload_n 2, 1), (87, .goto 31, 3), (90, .iload_n 1, 1), (91, .iconst 1, 1), (92, .if_icmp .ne 10, 3), (95, .aload_n 0, 1), (96, .getfield 90, 3), (99, .goto 19, 3), (102, .iload_n 1, 1), (103, .iconst 2, 1), (104, .if_icmp .ne 10, 3), (107, .aload_n 0, 1), (108, .getfield 122, 3)] : List (Nat × Instr × Nat)), decode prog_8_method_21_code q.1 = .ok (q.2.1, q.2.2) := by decide +kernel
theorem d_Mo_shift_0 : decode Y_Mo_shift.2.1 0 = .ok (.aload_n 0, 1) := D_Mo_shift_0 (0, .aload_n 0, 1) (List.mem_of_getElem? (i := 0) rfl)
theorem d_Mo_shift_1 : decode Y_Mo_shift.2.1 1 = .ok (.iload_n 1, 1) := D_Mo_shift_0 (1, .iload_n 1, 1) (List.mem_of_getElem? (i := 1) rfl)
theorem d_Mo_shift_2 : decode Y_Mo_shift.2.1 2 = .ok (.ifCond .lt 8, 3) := D_Mo_shift_0 (2, .ifCond .lt 8, 3) (List.mem_of_getElem? (i := 2) rfl)
theorem d_Mo_shift_5 : decode Y_Mo_shift.2.1 5 = .ok (.iload_n 1, 1) := D_Mo_shift_0 (5, .iload_n 1, 1) (List.mem_of_getElem? (i := 3) rfl)
theorem d_Mo_shift_6 : decode Y_Mo_shift.2.1 6 = .ok (.iconst 3, 1) := D_Mo_shift_0 (6, .iconst 3, 1) (List.mem_of_getElem? (i := 4) rfl)
theorem d_Mo_shift_7 : decode Y_Mo_shift.2.1 7 = .ok (.if_icmp .le 7, 3) := D_Mo_shift_0 (7, .if_icmp .le 7, 3) (List.mem_of_getElem? (i := 5) rfl)
theorem d_Mo_shift_10 : decode Y_Mo_shift.2.1 10 = .ok (.iconst 1, 1) := D_Mo_shift_0 (10, .iconst 1, 1) (List.mem_of_getElem? (i := 6) rfl)
theorem d_Mo_shift_11 : decode Y_Mo_shift.2.1 11 = .ok (.goto 4, 3) := D_Mo_shift_0 (11, .goto 4, 3) (List.mem_of_getElem? (i := 7) rfl)
theorem d_Mo_shift_14 : decode Y_Mo_shift.2.1 14 = .ok (.iconst 0, 1) := D_Mo_shift_0 (14, .iconst 0, 1) (List.mem_of_getElem? (i := 8) rfl)
theorem d_Mo_shift_15 : decode Y_Mo_shift.2.1 15 = .ok (.putfield 62, 3) := D_Mo_shift_0 (15, .putfield 62, 3) (List.mem_of_getElem? (i := 9) rfl)
theorem d_Mo_shift_18 : decode Y_Mo_shift.2.1 18 = .ok (.aload_n 0, 1) := D_Mo_shift_0 (18, .aload_n 0, 1) (List.mem_of_getElem? (i := 10) rfl)
theorem d_Mo_shift_19 : decode Y_Mo_shift.2.1 19 = .ok (.getfield 62, 3) := D_Mo_shift_0 (19, .getfield 62, 3) (List.mem_of_getElem? (i := 11) rfl)
theorem d_Mo_shift_22 : decode Y_Mo_shift.2.1 22 = .ok (.ifCond .le 5, 3) := D_Mo_shift_0 (22, .ifCond .le 5, 3) (List.mem_of_getElem? (i := 12) rfl)
theorem d_Mo_shift_25 : decode Y_Mo_shift.2.1 25 = .ok (.lconst 0, 1) := D_Mo_shift_0 (25, .lconst 0, 1) (List.mem_of_getElem? (i := 13) rfl)
theorem d_Mo_shift_26 : decode Y_Mo_shift.2.1 26 = .ok (.lreturn, 1) := D_Mo_shift_0 (26, .lreturn, 1) (List.mem_of_getElem? (i := 14) rfl)
theorem d_Mo_shift_27 : decode Y_Mo_shift.2.1 27 = .ok (.lconst 0, 1) := D_Mo_shift_0 (27, .lconst 0, 1) (List.mem_of_getElem? (i := 15) rfl)
theorem d_Mo_shift_28 : decode Y_Mo_shift.2.1 28 = .ok (.lstore_n 2, 1) := D_Mo_shift_0 (28, .lstore_n 2, 1) (List.mem_of_getElem? (i := 16) rfl)
theorem d_Mo_shift_29 : decode Y_Mo_shift.2.1 29 = .ok (.iconst 0, 1) := D_Mo_shift_0 (29, .iconst 0, 1) (List.mem_of_getElem? (i := 17) rfl)
theorem d_Mo_shift_30 : decode Y_Mo_shift.2.1 30 = .ok (.istore 4, 2) := D_Mo_shift_0 (30, .istore 4, 2) (List.mem_of_getElem? (i := 18) rfl)
theorem d_Mo_shift_32 : decode Y_Mo_shift.2.1 32 = .ok (.iload 4, 2) := D_Mo_shift_0 (32, .iload 4, 2) (List.mem_of_getElem? (i := 19) rfl)
theorem d_Mo_shift_34 : decode Y_Mo_shift.2.1 34 = .ok (.aload_n 0, 1) := D_Mo_shift_0 (34, .aload_n 0, 1) (List.mem_of_getElem? (i := 20) rfl)
theorem d_Mo_shift_35 : decode Y_Mo_shift.2.1 35 = .ok (.getfield 66, 3) := D_Mo_shift_0 (35, .getfield 66, 3) (List.mem_of_getElem? (i := 21) rfl)
theorem d_Mo_shift_38 : decode Y_Mo_shift.2.1 38 = .ok (.if_icmp .ge 44, 3) := D_Mo_shift_0 (38, .if_icmp .ge 44, 3) (List.mem_of_getElem? (i := 22) rfl)
theorem d_Mo_shift_41 : decode Y_Mo_shift.2.1 41 = .ok (.aload_n 0, 1) := D_Mo_shift_0 (41, .aload_n 0, 1) (List.mem_of_getElem? (i := 23) rfl)
theorem d_Mo_shift_42 : decode Y_Mo_shift.2.1 42 = .ok (.getfield 37, 3) := D_Mo_shift_0 (42, .getfield 37, 3) (List.mem_of_getElem? (i := 24) rfl)
theorem d_Mo_shift_45 : decode Y_Mo_shift.2.1 45 = .ok (.iload 4, 2) := D_Mo_shift_0 (45, .iload 4, 2) (List.mem_of_getElem? (i := 25) rfl)
theorem d_Mo_shift_47 : decode Y_Mo_shift.2.1 47 = .ok (.laload, 1) := D_Mo_shift_0 (47, .laload, 1) (List.mem_of_getElem? (i := 26) rfl)
theorem d_Mo_shift_48 : decode Y_Mo_shift.2.1 48 = .ok (.ldc2_w 35, 3) := D_Mo_shift_0 (48, .ldc2_w 35, 3) (List.mem_of_getElem? (i := 27) rfl)
theorem d_Mo_shift_51 : decode Y_Mo_shift.2.1 51 = .ok (.lcmp, 1) := D_Mo_shift_0 (51, .lcmp, 1) (List.mem_of_getElem? (i := 28) rfl)
theorem d_Mo_shift_52 : decode Y_Mo_shift.2.1 52 = .ok (.ifCond .ne 7, 3) := D_Mo_shift_0 (52, .ifCond .ne 7, 3) (List.mem_of_getElem? (i := 29) rfl)
theorem d_Mo_shift_55 : decode Y_Mo_shift.2.1 55 = .ok (.lload_n 2, 1) := D_Mo_shift_0 (55, .lload_n 2, 1) (List.mem_of_getElem? (i := 30) rfl)
theorem d_Mo_shift_56 : decode Y_Mo_shift.2.1 56 = .ok (.goto 19, 3) := D_Mo_shift_0 (56, .goto 19, 3) (List.mem_of_getElem? (i := 31) rfl)
theorem d_Mo_shift_59 : decode Y_Mo_shift.2.1 59 = .ok (.lload_n 2, 1) := D_Mo_shift_0 (59, .lload_n 2, 1) (List.mem_of_getElem? (i := 32) rfl)
theorem d_Mo_shift_60 : decode Y_Mo_shift.2.1 60 = .ok (.aload_n 0, 1) := D_Mo_shift_0 (60, .aload_n 0, 1) (List.mem_of_getElem? (i := 33) rfl)
theorem d_Mo_shift_61 : decode Y_Mo_shift.2.1 61 = .ok (.iload 4, 2) := D_Mo_shift_0 (61, .iload 4, 2) (List.mem_of_getElem? (i := 34) rfl)
theorem d_Mo_shift_63 : decode Y_Mo_shift.2.1 63 = .ok (.invokevirtual 86, 3) := D_Mo_shift_0 (63, .invokevirtual 86, 3) (List.mem_of_getElem? (i := 35) rfl)
theorem d_Mo_shift_66 : decode Y_Mo_shift.2.1 66 = .ok (.ladd, 1) := D_Mo_shift_0 (66, .ladd, 1) (List.mem_of_getElem? (i := 36) rfl)
theorem d_Mo_shift_67 : decode Y_Mo_shift.2.1 67 = .ok (.aload_n 0, 1) := D_Mo_shift_0 (67, .aload_n 0, 1) (List.mem_of_getElem? (i := 37) rfl)
theorem d_Mo_shift_68 : decode Y_Mo_shift.2.1 68 = .ok (.getfield 37, 3) := D_Mo_shift_0 (68, .getfield 37, 3) (List.mem_of_getElem? (i := 38) rfl)
theorem d_Mo_shift_71 : decode Y_Mo_shift.2.1 71 = .ok (.iload 4, 2) := D_Mo_shift_0 (71, .iload 4, 2) (List.mem_of_getElem? (i := 39) rfl)
theorem d_Mo_shift_73 : decode Y_Mo_shift.2.1 73 = .ok (.laload, 1) := D_Mo_shift_0 (73, .laload, 1) (List.mem_of_getElem? (i := 40) rfl)
theorem d_Mo_shift_74 : decode Y_Mo_shift.2.1 74 = .ok (.lsub, 1) := D_Mo_shift_0 (74, .lsub, 1) (List.mem_of_getElem? (i := 41) rfl)
theorem d_Mo_shift_75 : decode Y_Mo_shift.2.1 75 = .ok (.lstore_n 2, 1) := D_Mo_shift_0 (75, .lstore_n 2, 1) (List.mem_of_getElem? (i := 42) rfl)
theorem d_Mo_shift_76 : decode Y_Mo_shift.2.1 76 = .ok (.iinc 4 1, 3) := D_Mo_shift_0 (76, .iinc 4 1, 3) (List.mem_of_getElem? (i := 43) rfl)
theorem d_Mo_shift_79 : decode Y_Mo_shift.2.1 79 = .ok (.goto (-47), 3) := D_Mo_shift_0 (79, .goto (-47), 3) (List.mem_of_getElem? (i := 44) rfl)
theorem d_Mo_shift_82 : decode Y_Mo_shift.2.1 82 = .ok (.iload_n 1, 1) := D_Mo_shift_0 (82, .iload_n 1, 1) (List.mem_of_getElem? (i := 45) rfl)
theorem d_Mo_shift_83 : decode Y_Mo_shift.2.1 83 = .ok (.ifCond .ne 7, 3) := D_Mo_shift_0 (83, .ifCond .ne 7, 3) (List.mem_of_getElem? (i := 46) rfl)
theorem d_Mo_shift_86 : decode Y_Mo_shift.2.1 86 = .ok (.lload_n 2, 1) := D_Mo_shift_0 (86, .lload_n 2, 1) (List.mem_of_getElem? (i := 47) rfl)
theorem d_Mo_shift_87 : decode Y_Mo_shift.2.1 87 = .ok (.goto 31, 3) := D_Mo_shift_0 (87, .goto 31, 3) (List.mem_of_getElem? (i := 48) rfl)
theorem d_Mo_shift_90 : decode Y_Mo_shift.2.1 90 = .ok (.iload_n 1, 1) := D_Mo_shift_0 (90, .iload_n 1, 1) (List.mem_of_getElem? (i := 49) rfl)
theorem d_Mo_shift_91 : decode Y_Mo_shift.2.1 91 = .ok (.iconst 1, 1) := D_Mo_shift_0 (91, .iconst 1, 1) (List.mem_of_getElem? (i := 50) rfl)
theorem d_Mo_shift_92 : decode Y_Mo_shift.2.1 92 = .ok (.if_icmp .ne 10, 3) := D_Mo_shift_0 (92, .if_icmp .ne 10, 3) (List.mem_of_getElem? (i := 51) rfl)
theorem d_Mo_shift_95 : decode Y_Mo_shift.2.1 95 = .ok (.aload_n 0, 1) := D_Mo_shift_0 (95, .aload_n 0, 1) (List.mem_of_getElem? (i := 52) rfl)
theorem d_Mo_shift_96 : decode Y_Mo_shift.2.1 96 = .ok (.getfield 90, 3) := D_Mo_shift_0 (96, .getfield 90, 3) (List.mem_of_getElem? (i := 53) rfl)
theorem d_Mo_shift_99 : decode Y_Mo_shift.2.1 99 = .ok (.goto 19, 3) := D_Mo_shift_0 (99, .goto 19, 3) (List.mem_of_getElem? (i := 54) rfl)
theorem d_Mo_shift_102 : decode Y_Mo_shift.2.1 102 = .ok (.iload_n 1, 1) := D_Mo_shift_0 (102, .iload_n 1, 1) (List.mem_of_getElem? (i := 55) rfl)
theorem d_Mo_shift_103 : decode Y_Mo_shift.2.1 103 = .ok (.iconst 2, 1) := D_Mo_shift_0 (103, .iconst 2, 1) (List.mem_of_getElem? (i := 56) rfl)
theorem d_Mo_shift_104 : decode Y_Mo_shift.2.1 104 = .ok (.if_icmp .ne 10, 3) := D_Mo_shift_0 (104, .if_icmp .ne 10, 3) (List.mem_of_getElem? (i := 57) rfl)
theorem d_Mo_shift_107 : decode Y_Mo_shift.2.1 107 = .ok (.aload_n 0, 1) := D_Mo_shift_0 (107, .aload_n 0, 1) (List.mem_of_getElem? (i := 58) rfl)
theorem d_Mo_shift_108 : decode Y_Mo_shift.2.1 108 = .ok (.getfield 122, 3) := D_Mo_shift_0 (108, .getfield 122, 3) (List.mem_of_getElem? (i := 59) rfl)
theorem D_Mo_shift_1 : ∀ q ∈ ([(111, .goto 7, 3), (114, .aload_n 0, 1), (115, .getfield 125, 3), (118, .lreturn, 1)] : List (Nat × Instr × Nat)), decode prog_8_method_21_code q.1 = .ok (q.2.1, q.2.2) := by decide +kernel
theorem d_Mo_shift_111 : decode Y_Mo_shift.2.1 111 = .ok (.goto 7, 3) := D_Mo_shift_1 (111, .goto 7, 3) (List.mem_of_getElem? (i := 0) rfl)
theorem d_Mo_shift_114 : decode Y_Mo_shift.2.1 114 = .ok (.aload_n 0, 1) := D_Mo_shift_1 (114, .aload_n 0, 1) (List.mem_of_getElem? (i := 1) rfl)
theorem d_Mo_shift_115 : decode Y_Mo_shift.2.1 115 = .ok (.getfield 125, 3) := D_Mo_shift_1 (115, .getfield 125, 3) (List.mem_of_getElem? (i := 2) rfl)
theorem d_Mo_shift_118 : decode Y_Mo_shift.2.1 118 = .ok (.lreturn, 1) := D_Mo_shift_1 (118, .lreturn, 1) (List.mem_of_getElem? (i := 3) rfl)
theorem D_Mo_begin_0 : ∀ q ∈ ([(0, .aload_n 0, 1), (1, .iconst 0, 1), (2, .putfield 62, 3), (5, .aload_n 0, 1), (6, .lconst 0, 1), (7, .putfield 90, 3), (10, .aload_n 0, 1), (11, .lconst 0, 1), (12, .putfield 122, 3), (15, .aload_n 0, 1), (16, .dup, 1), (17, .getfield 125, 3), (20, .lconst 1, 1), (21, .ladd, 1), (22, .putfield 125, 3), (25, .iconst 0, 1), (26, .istore_n 1, 1), (27, .iload_n 1, 1), (28, .bipush 8, 2), (30, .if_icmp .ge 18, 3), (33, .aload_n 0, 1), (34, .getfield 37, 3), (37, .iload_n 1, 1), (38, .ldc2_w 35, 3), (41, .lastore, 1), (42, .iinc 1 1, 3), (45, .goto (-18), 3), (48, .return_, 1)] : List (Nat × Instr × Nat)), decode prog_8_method_22_code q.1 = .ok (q.2.1, q.2.2) := by decide +kernel
theorem d_Mo_begin_0 : decode Y_Mo_begin.2.1 0 = .ok (.aload_n 0, 1) := D_Mo_begin_0 (0, .aload_n 0, 1) (List.mem_of_getElem? (i := 0) rfl)
theorem d_Mo_begin_1 : decode Y_Mo_begin.2.1 1 = .ok (.iconst 0, 1) := D_Mo_begin_0 (1, .iconst 0, 1) (List.mem_of_getElem? (i := 1) rfl)
theorem d_Mo_begin_2 : decode Y_Mo_begin.2.1 2 = .ok (.putfield 62, 3) := D_Mo_begin_0 (2, .putfield 62, 3) (List.mem_of_getElem? (i := 2) rfl)
theorem d_Mo_begin_5 : decode Y_Mo_begin.2.1 5 = .ok (.aload_n 0, 1) := D_Mo_begin_0 (5, .aload_n 0, 1) (List.mem_of_getElem? (i := 3) rfl)
theorem d_Mo_begin_6 : decode Y_Mo_begin.2.1 6 = .ok (.lconst 0, 1) := D_Mo_begin_0 (6, .lconst 0, 1) (List.mem_of_getElem? (i := 4) rfl)
theorem d_Mo_begin_7 : decode Y_Mo_begin.2.1 7 = .ok (.putfield 90, 3) := D_Mo_begin_0 (7, .putfield 90, 3) (List.mem_of_getElem? (i := 5) rfl)
theorem d_Mo_begin_10 : decode Y_Mo_begin.2.1 10 = .ok (.aload_n 0, 1) := D_Mo_begin_0 (10, .aload_n 0, 1) (List.mem_of_getElem? (i := 6) rfl)
theorem d_Mo_begin_11 : decode Y_Mo_begin.2.1 11 = .ok (.lconst 0, 1) := D_Mo_begin_0 (11, .lconst 0, 1) (List.mem_of_getElem? (i := 7) rfl)
theorem d_Mo_begin_12 : decode Y_Mo_begin.2.1 12 = .ok (.putfield 122, 3) := D_Mo_begin_0 (12, .putfield 122, 3) (List.mem_of_getElem? (i := 8) rfl)
theorem d_Mo_begin_15 : decode Y_Mo_begin.2.1 15 = .ok (.aload_n 0, 1) := D_Mo_begin_0 (15, .aload_n 0, 1) (List.mem_of_getElem? (i := 9) rfl)
theorem d_Mo_begin_16 : decode Y_Mo_begin.2.1 16 = .ok (.dup, 1) := D_Mo_begin_0 (16, .dup, 1) (List.mem_of_getElem? (i := 10) rfl)
theorem d_Mo_begin_17 : decode Y_Mo_begin.2.1 17 = .ok (.getfield 125, 3) := D_Mo_begin_0 (17, .getfield 125, 3) (List.mem_of_getElem? (i := 11) rfl)
theorem d_Mo_begin_20 : decode Y_Mo_begin.2.1 20 = .ok (.lconst 1, 1) := D_Mo_begin_0 (20, .lconst 1, 1) (List.mem_of_getElem? (i := 12) rfl)
theorem d_Mo_begin_21 : decode Y_Mo_begin.2.1 21 = .ok (.ladd, 1) := D_Mo_begin_0 (21, .ladd, 1) (List.mem_of_getElem? (i := 13) rfl)
theorem d_Mo_begin_22 : decode Y_Mo_begin.2.1 22 = .ok (.putfield 125, 3) := D_Mo_begin_0 (22, .putfield 125, 3) (List.mem_of_getElem? (i := 14) rfl)
theorem d_Mo_begin_25 : decode Y_Mo_begin.2.1 25 = .ok (.iconst 0, 1) := D_Mo_begin_0 (25, .iconst 0, 1) (List.mem_of_getElem? (i := 15) rfl)
theorem d_Mo_begin_26 : decode Y_Mo_begin.2.1 26 = .ok (.istore_n 1, 1) := D_Mo_begin_0 (26, .istore_n 1, 1) (List.mem_of_getElem? (i := 16) rfl)
theorem d_Mo_begin_27 : decode Y_Mo_begin.2.1 27 = .ok (.iload_n 1, 1) := D_Mo_begin_0 (27, .iload_n 1, 1) (List.mem_of_getElem? (i := 17) rfl)
theorem d_Mo_begin_28 : decode Y_Mo_begin.2.1 28 = .ok (.bipush 8, 2) := D_Mo_begin_0 (28, .bipush 8, 2) (List.mem_of_getElem? (i := 18) rfl)
theorem d_Mo_begin_30 : decode Y_Mo_begin.2.1 30 = .ok (.if_icmp .ge 18, 3) := D_Mo_begin_0 (30, .if_icmp .ge 18, 3) (List.mem_of_getElem? (i := 19) rfl)
theorem d_Mo_begin_33 : decode Y_Mo_begin.2.1 33 = .ok (.aload_n 0, 1) := D_Mo_begin_0 (33, .aload_n 0, 1) (List.mem_of_getElem? (i := 20) rfl)
theorem d_Mo_begin_34 : decode Y_Mo_begin.2.1 34 = .ok (.getfield 37, 3) := D_Mo_begin_0 (34, .getfield 37, 3) (List.mem_of_getElem? (i := 21) rfl)
theorem d_Mo_begin_37 : decode Y_Mo_begin.2.1 37 = .ok (.iload_n 1, 1) := D_Mo_begin_0 (37, .iload_n 1, 1) (List.mem_of_getElem? (i := 22) rfl)
theorem d_Mo_begin_38 : decode Y_Mo_begin.2.1 38 = .ok (.ldc2_w 35, 3) := D_Mo_begin_0 (38, .ldc2_w 35, 3) (List.mem_of_getElem? (i := 23) rfl)
theorem d_Mo_begin_41 : decode Y_Mo_begin.2.1 41 = .ok (.lastore, 1) := D_Mo_begin_0 (41, .lastore, 1) (List.mem_of_getElem? (i := 24) rfl)
theorem d_Mo_begin_42 : decode Y_Mo_begin.2.1 42 = .ok (.iinc 1 1, 3) := D_Mo_begin_0 (42, .iinc 1 1, 3) (List.mem_of_getElem? (i := 25) rfl)
theorem d_Mo_begin_45 : decode Y_Mo_begin.2.1 45 = .ok (.goto (-18), 3) := D_Mo_begin_0 (45, .goto (-18), 3) (List.mem_of_getElem? (i := 26) rfl)
theorem d_Mo_begin_48 : decode Y_Mo_begin.2.1 48 = .ok (.return_, 1) := D_Mo_begin_0 (48, .return_, 1) (List.mem_of_getElem? (i := 27) rfl)
theorem D_Mo_row_0 : ∀ q ∈ ([(0, .iload_n 1, 1), (1, .i2l, 1), (2, .lconst 0, 1), (3, .ldc2_w 128, 3), (6, .invokestatic 71, 3), (9, .ifCond .eq 41, 3), (12, .aload_n 0, 1), (13, .getfield 130, 3), (16, .ifCond .eq 18, 3), (19, .iload_n 1, 1), (20, .aload_n 0, 1), (21, .getfield 56, 3), (24, .aload_n 0, 1), (25, .getfield 130, 3), (28, .iconst 1, 1), (29, .isub, 1), (30, .iaload, 1), (31, .if_icmp .le 19, 3), (34, .iload_n 2, 1), (35, .i2l, 1), (36, .lconst 0, 1), (37, .ldc2_w 133, 3), (40, .invokestatic 71, 3), (43, .ifCond .eq 7, 3), (46, .iconst 1, 1), (47, .goto 4, 3), (50, .iconst 0, 1), (51, .istore_n 3, 1), (52, .aload_n 0, 1), (53, .iload_n 3, 1), (54, .ifCond .ne 7, 3), (57, .iconst 1, 1), (58, .goto 17, 3), (61, .aload_n 0, 1), (62, .getfield 130, 3), (65, .bipush 8, 2), (67, .if_icmp .ne 7, 3), (70, .iconst 2, 1), (71, .goto 4, 3), (74, .iconst 0, 1), (75, .putfield 62, 3), (78, .aload_n 0, 1), (79, .getfield 62, 3), (82, .ifCond .le 5, 3), (85, .iconst 0, 1), (86, .ireturn, 1), (87, .aload_n 0, 1), (88, .getfield 56, 3), (91, .aload_n 0, 1), (92, .getfield 130, 3), (95, .iload_n 1, 1), (96, .iastore, 1), (97, .aload_n 0, 1), (98, .getfield 59, 3), (101, .aload_n 0, 1), (102, .getfield 130, 3), (105, .iload_n 2, 1), (106, .iastore, 1), (107, .aload_n 0, 1), (108, .dup, 1)] : List (Nat × Instr × Nat)), decode prog_8_method_23_code q.1 = .ok (q.2.1, q.2.2) := by decide +kernel
theorem d_Mo_row_0 : decode Y_Mo_row.2.1 0 = .ok (.iload_n 1, 1) := D_Mo_row_0 (0, .iload_n 1, 1) (List.mem_of_getElem? (i := 0) rfl)
theorem d_Mo_row_1 : decode Y_Mo_row.2.1 1 = .ok (.i2l, 1) := D_Mo_row_0 (1, .i2l, 1) (List.mem_of_getElem? (i := 1) rfl)
theorem d_Mo_row_2 : decode Y_Mo_row.2.1 2 = .ok (.lconst 0, 1) := D_Mo_row_0 (2, .lconst 0, 1) (List.mem_of_getElem? (i := 2) rfl)
theorem d_Mo_row_3 : decode Y_Mo_row.2.1 3 = .ok (.ldc2_w 128, 3) := D_Mo_row_0 (3, .ldc2_w 128, 3) (List.mem_of_getElem? (i := 3) rfl)
theorem d_Mo_row_6 : decode Y_Mo_row.2.1 6 = .ok (.invokestatic 71, 3) := D_Mo_row_0 (6, .invokestatic 71, 3) (List.mem_of_getElem? (i := 4) rfl)
theorem d_Mo_row_9 : decode Y_Mo_row.2.1 9 = .ok (.ifCond .eq 41, 3) := D_Mo_row_0 (9, .ifCond .eq 41, 3) (List.mem_of_getElem? (i := 5) rfl)
theorem d_Mo_row_12 : decode Y_Mo_row.2.1 12 = .ok (.aload_n 0, 1) := D_Mo_row_0 (12, .aload_n 0, 1) (List.mem_of_getElem? (i := 6) rfl)
theorem d_Mo_row_13 : decode Y_Mo_row.2.1 13 = .ok (.getfield 130, 3) := D_Mo_row_0 (13, .getfield 130, 3) (List.mem_of_getElem? (i := 7) rfl)
theorem d_Mo_row_16 : decode Y_Mo_row.2.1 16 = .ok (.ifCond .eq 18, 3) := D_Mo_row_0 (16, .ifCond .eq 18, 3) (List.mem_of_getElem? (i := 8) rfl)
theorem d_Mo_row_19 : decode Y_Mo_row.2.1 19 = .ok (.iload_n 1, 1) := D_Mo_row_0 (19, .iload_n 1, 1) (List.mem_of_getElem? (i := 9) rfl)
theorem d_Mo_row_20 : decode Y_Mo_row.2.1 20 = .ok (.aload_n 0, 1) := D_Mo_row_0 (20, .aload_n 0, 1) (List.mem_of_getElem? (i := 10) rfl)
theorem d_Mo_row_21 : decode Y_Mo_row.2.1 21 = .ok (.getfield 56, 3) := D_Mo_row_0 (21, .getfield 56, 3) (List.mem_of_getElem? (i := 11) rfl)
theorem d_Mo_row_24 : decode Y_Mo_row.2.1 24 = .ok (.aload_n 0, 1) := D_Mo_row_0 (24, .aload_n 0, 1) (List.mem_of_getElem? (i := 12) rfl)
theorem d_Mo_row_25 : decode Y_Mo_row.2.1 25 = .ok (.getfield 130, 3) := D_Mo_row_0 (25, .getfield 130, 3) (List.mem_of_getElem? (i := 13) rfl)
theorem d_Mo_row_28 : decode Y_Mo_row.2.1 28 = .ok (.iconst 1, 1) := D_Mo_row_0 (28, .iconst 1, 1) (List.mem_of_getElem? (i := 14) rfl)
theorem d_Mo_row_29 : decode Y_Mo_row.2.1 29 = .ok (.isub, 1) := D_Mo_row_0 (29, .isub, 1) (List.mem_of_getElem? (i := 15) rfl)
theorem d_Mo_row_30 : decode Y_Mo_row.2.1 30 = .ok (.iaload, 1) := D_Mo_row_0 (30, .iaload, 1) (List.mem_of_getElem? (i := 16) rfl)
theorem d_Mo_row_31 : decode Y_Mo_row.2.1 31 = .ok (.if_icmp .le 19, 3) := D_Mo_row_0 (31, .if_icmp .le 19, 3) (List.mem_of_getElem? (i := 17) rfl)
theorem d_Mo_row_34 : decode Y_Mo_row.2.1 34 = .ok (.iload_n 2, 1) := D_Mo_row_0 (34, .iload_n 2, 1) (List.mem_of_getElem? (i := 18) rfl)
theorem d_Mo_row_35 : decode Y_Mo_row.2.1 35 = .ok (.i2l, 1) := D_Mo_row_0 (35, .i2l, 1) (List.mem_of_getElem? (i := 19) rfl)
theorem d_Mo_row_36 : decode Y_Mo_row.2.1 36 = .ok (.lconst 0, 1) := D_Mo_row_0 (36, .lconst 0, 1) (List.mem_of_getElem? (i := 20) rfl)
theorem d_Mo_row_37 : decode Y_Mo_row.2.1 37 = .ok (.ldc2_w 133, 3) := D_Mo_row_0 (37, .ldc2_w 133, 3) (List.mem_of_getElem? (i := 21) rfl)
theorem d_Mo_row_40 : decode Y_Mo_row.2.1 40 = .ok (.invokestatic 71, 3) := D_Mo_row_0 (40, .invokestatic 71, 3) (List.mem_of_getElem? (i := 22) rfl)
theorem d_Mo_row_43 : decode Y_Mo_row.2.1 43 = .ok (.ifCond .eq 7, 3) := D_Mo_row_0 (43, .ifCond .eq 7, 3) (List.mem_of_getElem? (i := 23) rfl)
theorem d_Mo_row_46 : decode Y_Mo_row.2.1 46 = .ok (.iconst 1, 1) := D_Mo_row_0 (46, .iconst 1, 1) (List.mem_of_getElem? (i := 24) rfl)
theorem d_Mo_row_47 : decode Y_Mo_row.2.1 47 = .ok (.goto 4, 3) := D_Mo_row_0 (47, .goto 4, 3) (List.mem_of_getElem? (i := 25) rfl)
theorem d_Mo_row_50 : decode Y_Mo_row.2.1 50 = .ok (.iconst 0, 1) := D_Mo_row_0 (50, .iconst 0, 1) (List.mem_of_getElem? (i := 26) rfl)
theorem d_Mo_row_51 : decode Y_Mo_row.2.1 51 = .ok (.istore_n 3, 1) := D_Mo_row_0 (51, .istore_n 3, 1) (List.mem_of_getElem? (i := 27) rfl)
theorem d_Mo_row_52 : decode Y_Mo_row.2.1 52 = .ok (.aload_n 0, 1) := D_Mo_row_0 (52, .aload_n 0, 1) (List.mem_of_getElem? (i := 28) rfl)
theorem d_Mo_row_53 : decode Y_Mo_row.2.1 53 = .ok (.iload_n 3, 1) := D_Mo_row_0 (53, .iload_n 3, 1) (List.mem_of_getElem? (i := 29) rfl)
theorem d_Mo_row_54 : decode Y_Mo_row.2.1 54 = .ok (.ifCond .ne 7, 3) := D_Mo_row_0 (54, .ifCond .ne 7, 3) (List.mem_of_getElem? (i := 30) rfl)
theorem d_Mo_row_57 : decode Y_Mo_row.2.1 57 = .ok (.iconst 1, 1) := D_Mo_row_0 (57, .iconst 1, 1) (List.mem_of_getElem? (i := 31) rfl)
theorem d_Mo_row_58 : decode Y_Mo_row.2.1 58 = .ok (.goto 17, 3) := D_Mo_row_0 (58, .goto 17, 3) (List.mem_of_getElem? (i := 32) rfl)
theorem d_Mo_row_61 : decode Y_Mo_row.2.1 61 = .ok (.aload_n 0, 1) := D_Mo_row_0 (61, .aload_n 0, 1) (List.mem_of_getElem? (i := 33) rfl)
theorem d_Mo_row_62 : decode Y_Mo_row.2.1 62 = .ok (.getfield 130, 3) := D_Mo_row_0 (62, .getfield 130, 3) (List.mem_of_getElem? (i := 34) rfl)
theorem d_Mo_row_65 : decode Y_Mo_row.2.1 65 = .ok (.bipush 8, 2) := D_Mo_row_0 (65, .bipush 8, 2) (List.mem_of_getElem? (i := 35) rfl)
theorem d_Mo_row_67 : decode Y_Mo_row.2.1 67 = .ok (.if_icmp .ne 7, 3) := D_Mo_row_0 (67, .if_icmp .ne 7, 3) (List.mem_of_getElem? (i := 36) rfl)
theorem d_Mo_row_70 : decode Y_Mo_row.2.1 70 = .ok (.iconst 2, 1) := D_Mo_row_0 (70, .iconst 2, 1) (List.mem_of_getElem? (i := 37) rfl)
theorem d_Mo_row_71 : decode Y_Mo_row.2.1 71 = .ok (.goto 4, 3) := D_Mo_row_0 (71, .goto 4, 3) (List.mem_of_getElem? (i := 38) rfl)
theorem d_Mo_row_74 : decode Y_Mo_row.2.1 74 = .ok (.iconst 0, 1) := D_Mo_row_0 (74, .iconst 0, 1) (List.mem_of_getElem? (i := 39) rfl)
theorem d_Mo_row_75 : decode Y_Mo_row.2.1 75 = .ok (.putfield 62, 3) := D_Mo_row_0 (75, .putfield 62, 3) (List.mem_of_getElem? (i := 40) rfl)
theorem d_Mo_row_78 : decode Y_Mo_row.2.1 78 = .ok (.aload_n 0, 1) := D_Mo_row_0 (78, .aload_n 0, 1) (List.mem_of_getElem? (i := 41) rfl)
theorem d_Mo_row_79 : decode Y_Mo_row.2.1 79 = .ok (.getfield 62, 3) := D_Mo_row_0 (79, .getfield 62, 3) (List.mem_of_getElem? (i := 42) rfl)
theorem d_Mo_row_82 : decode Y_Mo_row.2.1 82 = .ok (.ifCond .le 5, 3) := D_Mo_row_0 (82, .ifCond .le 5, 3) (List.mem_of_getElem? (i := 43) rfl)
theorem d_Mo_row_85 : decode Y_Mo_row.2.1 85 = .ok (.iconst 0, 1) := D_Mo_row_0 (85, .iconst 0, 1) (List.mem_of_getElem? (i := 44) rfl)
theorem d_Mo_row_86 : decode Y_Mo_row.2.1 86 = .ok (.ireturn, 1) := D_Mo_row_0 (86, .ireturn, 1) (List.mem_of_getElem? (i := 45) rfl)
theorem d_Mo_row_87 : decode Y_Mo_row.2.1 87 = .ok (.aload_n 0, 1) := D_Mo_row_0 (87, .aload_n 0, 1) (List.mem_of_getElem? (i := 46) rfl)
theorem d_Mo_row_88 : decode Y_Mo_row.2.1 88 = .ok (.getfield 56, 3) := D_Mo_row_0 (88, .getfield 56, 3) (List.mem_of_getElem? (i := 47) rfl)
theorem d_Mo_row_91 : decode Y_Mo_row.2.1 91 = .ok (.aload_n 0, 1) := D_Mo_row_0 (91, .aload_n 0, 1) (List.mem_of_getElem? (i := 48) rfl)
theorem d_Mo_row_92 : decode Y_Mo_row.2.1 92 = .ok (.getfield 130, 3) := D_Mo_row_0 (92, .getfield 130, 3) (List.mem_of_getElem? (i := 49) rfl)
theorem d_Mo_row_95 : decode Y_Mo_row.2.1 95 = .ok (.iload_n 1, 1) := D_Mo_row_0 (95, .iload_n 1, 1) (List.mem_of_getElem? (i := 50) rfl)
theorem d_Mo_row_96 : decode Y_Mo_row.2.1 96 = .ok (.iastore, 1) := D_Mo_row_0 (96, .iastore, 1) (List.mem_of_getElem? (i := 51) rfl)
theorem d_Mo_row_97 : decode Y_Mo_row.2.1 97 = .ok (.aload_n 0, 1) := D_Mo_row_0 (97, .aload_n 0, 1) (List.mem_of_getElem? (i := 52) rfl)
theorem d_Mo_row_98 : decode Y_Mo_row.2.1 98 = .ok (.getfield 59, 3) := D_Mo_row_0 (98, .getfield 59, 3) (List.mem_of_getElem? (i := 53) rfl)
theorem d_Mo_row_101 : decode Y_Mo_row.2.1 101 = .ok (.aload_n 0, 1) := D_Mo_row_0 (101, .aload_n 0, 1) (List.mem_of_getElem? (i := 54) rfl)
theorem d_Mo_row_102 : decode Y_Mo_row.2.1 102 = .ok (.getfield 130, 3) := D_Mo_row_0 (102, .getfield 130, 3) (List.mem_of_getElem? (i := 55) rfl)
theorem d_Mo_row_105 : decode Y_Mo_row.2.1 105 = .ok (.iload_n 2, 1) := D_Mo_row_0 (105, .iload_n 2, 1) (List.mem_of_getElem? (i := 56) rfl)
theorem d_Mo_row_106 : decode Y_Mo_row.2.1 106 = .ok (.iastore, 1) := D_Mo_row_0 (106, .iastore, 1) (List.mem_of_getElem? (i := 57) rfl)
theorem d_Mo_row_107 : decode Y_Mo_row.2.1 107 = .ok (.aload_n 0, 1) := D_Mo_row_0 (107, .aload_n 0, 1) (List.mem_of_getElem? (i := 58) rfl)
theorem d_Mo_row_108 : decode Y_Mo_row.2.1 108 = .ok (.dup, 1) := D_Mo_row_0 (108, .dup, 1) (List.mem_of_getElem? (i := 59) rfl)
theorem D_Mo_row_1 : ∀ q ∈ ([(109, .getfield 130, 3), (112, .iconst 1, 1), (113, .iadd, 1), (114, .putfield 130, 3), (117, .aload_n 0, 1), (118, .getfield 130, 3), (121, .ireturn, 1)] : List (Nat × Instr × Nat)), decode prog_8_method_23_code q.1 = .ok (q.2.1, q.2.2) := by decide +kernel
theorem d_Mo_row_109 : decode Y_Mo_row.2.1 109 = .ok (.getfield 130, 3) := D_Mo_row_1 (109, .getfield 130, 3) (List.mem_of_getElem? (i := 0) rfl)
theorem d_Mo_row_112 : decode Y_Mo_row.2.1 112 = .ok (.iconst 1, 1) := D_Mo_row_1 (112, .iconst 1, 1) (List.mem_of_getElem? (i := 1) rfl)
theorem d_Mo_row_113 : decode Y_Mo_row.2.1 113 = .ok (.iadd, 1) := D_Mo_row_1 (113, .iadd, 1) (List.mem_of_getElem? (i := 2) rfl)
theorem d_Mo_row_114 : decode Y_Mo_row.2.1 114 = .ok (.putfield 130, 3) := D_Mo_row_1 (114, .putfield 130, 3) (List.mem_of_getElem? (i := 3) rfl)
theorem d_Mo_row_117 : decode Y_Mo_row.2.1 117 = .ok (.aload_n 0, 1) := D_Mo_row_1 (117, .aload_n 0, 1) (List.mem_of_getElem? (i := 4) rfl)
theorem d_Mo_row_118 : decode Y_Mo_row.2.1 118 = .ok (.getfield 130, 3) := D_Mo_row_1 (118, .getfield 130, 3) (List.mem_of_getElem? (i := 5) rfl)
theorem d_Mo_row_121 : decode Y_Mo_row.2.1 121 = .ok (.ireturn, 1) := D_Mo_row_1 (121, .ireturn, 1) (List.mem_of_getElem? (i := 6) rfl)
theorem D_Mo_burn_0 : ∀ q ∈ ([(0, .aload_n 0, 1), (1, .aload_n 0, 1), (2, .iload_n 1, 1), (3, .invokevirtual 94, 3), (6, .ifCond .eq 7, 3), (9, .iconst 1, 1), (10, .goto 45, 3), (13, .iload_n 2, 1), (14, .i2l, 1), (15, .lconst 1, 1), (16, .ldc2_w 84, 3), (19, .invokestatic 71, 3), (22, .ifCond .eq 15, 3), (25, .iload_n 3, 1), (26, .i2l, 1), (27, .lconst 0, 1), (28, .ldc2_w 128, 3), (31, .invokestatic 71, 3), (34, .ifCond .ne 7, 3), (37, .iconst 2, 1), (38, .goto 17, 3), (41, .aload_n 0, 1), (42, .iload_n 1, 1), (43, .iload_n 2, 1), (44, .invokevirtual 141, 3), (47, .ifCond .eq 7, 3), (50, .iconst 0, 1), (51, .goto 4, 3), (54, .iconst 3, 1), (55, .putfield 62, 3), (58, .aload_n 0, 1), (59, .getfield 62, 3), (62, .ifCond .le 5, 3), (65, .lconst 0, 1), (66, .lreturn, 1), (67, .aload_n 0, 1), (68, .iload_n 1, 1), (69, .iload_n 2, 1), (70, .invokevirtual 144, 3), (73, .aload_n 0, 1), (74, .iload_n 1, 1), (75, .invokevirtual 148, 3), (78, .ldc2_w 152, 3), (81, .lstore 4, 2), (83, .iconst 0, 1), (84, .istore 6, 2), (86, .iload 6, 2), (88, .aload_n 0, 1), (89, .getfield 130, 3), (92, .if_icmp .ge 35, 3), (95, .aload_n 0, 1), (96, .getfield 56, 3), (99, .iload 6, 2), (101, .iaload, 1), (102, .iload_n 3, 1), (103, .if_icmp .gt 14, 3), (106, .aload_n 0, 1), (107, .getfield 59, 3), (110, .iload 6, 2), (112, .iaload, 1)] : List (Nat × Instr × Nat)), decode prog_8_method_27_code q.1 = .ok (q.2.1, q.2.2) := by decide +kernel
theorem d_Mo_burn_0 : decode Y_Mo_burn.2.1 0 = .ok (.aload_n 0, 1) := D_Mo_burn_0 (0, .aload_n 0, 1) (List.mem_of_getElem? (i := 0) rfl)
theorem d_Mo_burn_1 : decode Y_Mo_burn.2.1 1 = .ok (.aload_n 0, 1) := D_Mo_burn_0 (1, .aload_n 0, 1) (List.mem_of_getElem? (i := 1) rfl)
theorem d_Mo_burn_2 : decode Y_Mo_burn.2.1 2 = .ok (.iload_n 1, 1) := D_Mo_burn_0 (2, .iload_n 1, 1) (List.mem_of_getElem? (i := 2) rfl)
theorem d_Mo_burn_3 : decode Y_Mo_burn.2.1 3 = .ok (.invokevirtual 94, 3) := D_Mo_burn_0 (3, .invokevirtual 94, 3) (List.mem_of_getElem? (i := 3) rfl)
theorem d_Mo_burn_6 : decode Y_Mo_burn.2.1 6 = .ok (.ifCond .eq 7, 3) := D_Mo_burn_0 (6, .ifCond .eq 7, 3) (List.mem_of_getElem? (i := 4) rfl)
theorem d_Mo_burn_9 : decode Y_Mo_burn.2.1 9 = .ok (.iconst 1, 1) := D_Mo_burn_0 (9, .iconst 1, 1) (List.mem_of_getElem? (i := 5) rfl)
theorem d_Mo_burn_10 : decode Y_Mo_burn.2.1 10 = .ok (.goto 45, 3) := D_Mo_burn_0 (10, .goto 45, 3) (List.mem_of_getElem? (i := 6) rfl)
theorem d_Mo_burn_13 : decode Y_Mo_burn.2.1 13 = .ok (.iload_n 2, 1) := D_Mo_burn_0 (13, .iload_n 2, 1) (List.mem_of_getElem? (i := 7) rfl)
theorem d_Mo_burn_14 : decode Y_Mo_burn.2.1 14 = .ok (.i2l, 1) := D_Mo_burn_0 (14, .i2l, 1) (List.mem_of_getElem? (i := 8) rfl)
theorem d_Mo_burn_15 : decode Y_Mo_burn.2.1 15 = .ok (.lconst 1, 1) := D_Mo_burn_0 (15, .lconst 1, 1) (List.mem_of_getElem? (i := 9) rfl)
theorem d_Mo_burn_16 : decode Y_Mo_burn.2.1 16 = .ok (.ldc2_w 84, 3) := D_Mo_burn_0 (16, .ldc2_w 84, 3) (List.mem_of_getElem? (i := 10) rfl)
theorem d_Mo_burn_19 : decode Y_Mo_burn.2.1 19 = .ok (.invokestatic 71, 3) := D_Mo_burn_0 (19, .invokestatic 71, 3) (List.mem_of_getElem? (i := 11) rfl)
theorem d_Mo_burn_22 : decode Y_Mo_burn.2.1 22 = .ok (.ifCond .eq 15, 3) := D_Mo_burn_0 (22, .ifCond .eq 15, 3) (List.mem_of_getElem? (i := 12) rfl)
theorem d_Mo_burn_25 : decode Y_Mo_burn.2.1 25 = .ok (.iload_n 3, 1) := D_Mo_burn_0 (25, .iload_n 3, 1) (List.mem_of_getElem? (i := 13) rfl)
theorem d_Mo_burn_26 : decode Y_Mo_burn.2.1 26 = .ok (.i2l, 1) := D_Mo_burn_0 (26, .i2l, 1) (List.mem_of_getElem? (i := 14) rfl)
theorem d_Mo_burn_27 : decode Y_Mo_burn.2.1 27 = .ok (.lconst 0, 1) := D_Mo_burn_0 (27, .lconst 0, 1) (List.mem_of_getElem? (i := 15) rfl)
theorem d_Mo_burn_28 : decode Y_Mo_burn.2.1 28 = .ok (.ldc2_w 128, 3) := D_Mo_burn_0 (28, .ldc2_w 128, 3) (List.mem_of_getElem? (i := 16) rfl)
theorem d_Mo_burn_31 : decode Y_Mo_burn.2.1 31 = .ok (.invokestatic 71, 3) := D_Mo_burn_0 (31, .invokestatic 71, 3) (List.mem_of_getElem? (i := 17) rfl)
theorem d_Mo_burn_34 : decode Y_Mo_burn.2.1 34 = .ok (.ifCond .ne 7, 3) := D_Mo_burn_0 (34, .ifCond .ne 7, 3) (List.mem_of_getElem? (i := 18) rfl)
theorem d_Mo_burn_37 : decode Y_Mo_burn.2.1 37 = .ok (.iconst 2, 1) := D_Mo_burn_0 (37, .iconst 2, 1) (List.mem_of_getElem? (i := 19) rfl)
theorem d_Mo_burn_38 : decode Y_Mo_burn.2.1 38 = .ok (.goto 17, 3) := D_Mo_burn_0 (38, .goto 17, 3) (List.mem_of_getElem? (i := 20) rfl)
theorem d_Mo_burn_41 : decode Y_Mo_burn.2.1 41 = .ok (.aload_n 0, 1) := D_Mo_burn_0 (41, .aload_n 0, 1) (List.mem_of_getElem? (i := 21) rfl)
theorem d_Mo_burn_42 : decode Y_Mo_burn.2.1 42 = .ok (.iload_n 1, 1) := D_Mo_burn_0 (42, .iload_n 1, 1) (List.mem_of_getElem? (i := 22) rfl)
theorem d_Mo_burn_43 : decode Y_Mo_burn.2.1 43 = .ok (.iload_n 2, 1) := D_Mo_burn_0 (43, .iload_n 2, 1) (List.mem_of_getElem? (i := 23) rfl)
theorem d_Mo_burn_44 : decode Y_Mo_burn.2.1 44 = .ok (.invokevirtual 141, 3) := D_Mo_burn_0 (44, .invokevirtual 141, 3) (List.mem_of_getElem? (i := 24) rfl)
theorem d_Mo_burn_47 : decode Y_Mo_burn.2.1 47 = .ok (.ifCond .eq 7, 3) := D_Mo_burn_0 (47, .ifCond .eq 7, 3) (List.mem_of_getElem? (i := 25) rfl)
theorem d_Mo_burn_50 : decode Y_Mo_burn.2.1 50 = .ok (.iconst 0, 1) := D_Mo_burn_0 (50, .iconst 0, 1) (List.mem_of_getElem? (i := 26) rfl)
theorem d_Mo_burn_51 : decode Y_Mo_burn.2.1 51 = .ok (.goto 4, 3) := D_Mo_burn_0 (51, .goto 4, 3) (List.mem_of_getElem? (i := 27) rfl)
theorem d_Mo_burn_54 : decode Y_Mo_burn.2.1 54 = .ok (.iconst 3, 1) := D_Mo_burn_0 (54, .iconst 3, 1) (List.mem_of_getElem? (i := 28) rfl)
theorem d_Mo_burn_55 : decode Y_Mo_burn.2.1 55 = .ok (.putfield 62, 3) := D_Mo_burn_0 (55, .putfield 62, 3) (List.mem_of_getElem? (i := 29) rfl)
theorem d_Mo_burn_58 : decode Y_Mo_burn.2.1 58 = .ok (.aload_n 0, 1) := D_Mo_burn_0 (58, .aload_n 0, 1) (List.mem_of_getElem? (i := 30) rfl)
theorem d_Mo_burn_59 : decode Y_Mo_burn.2.1 59 = .ok (.getfield 62, 3) := D_Mo_burn_0 (59, .getfield 62, 3) (List.mem_of_getElem? (i := 31) rfl)
theorem d_Mo_burn_62 : decode Y_Mo_burn.2.1 62 = .ok (.ifCond .le 5, 3) := D_Mo_burn_0 (62, .ifCond .le 5, 3) (List.mem_of_getElem? (i := 32) rfl)
theorem d_Mo_burn_65 : decode Y_Mo_burn.2.1 65 = .ok (.lconst 0, 1) := D_Mo_burn_0 (65, .lconst 0, 1) (List.mem_of_getElem? (i := 33) rfl)
theorem d_Mo_burn_66 : decode Y_Mo_burn.2.1 66 = .ok (.lreturn, 1) := D_Mo_burn_0 (66, .lreturn, 1) (List.mem_of_getElem? (i := 34) rfl)
theorem d_Mo_burn_67 : decode Y_Mo_burn.2.1 67 = .ok (.aload_n 0, 1) := D_Mo_burn_0 (67, .aload_n 0, 1) (List.mem_of_getElem? (i := 35) rfl)
theorem d_Mo_burn_68 : decode Y_Mo_burn.2.1 68 = .ok (.iload_n 1, 1) := D_Mo_burn_0 (68, .iload_n 1, 1) (List.mem_of_getElem? (i := 36) rfl)
theorem d_Mo_burn_69 : decode Y_Mo_burn.2.1 69 = .ok (.iload_n 2, 1) := D_Mo_burn_0 (69, .iload_n 2, 1) (List.mem_of_getElem? (i := 37) rfl)
theorem d_Mo_burn_70 : decode Y_Mo_burn.2.1 70 = .ok (.invokevirtual 144, 3) := D_Mo_burn_0 (70, .invokevirtual 144, 3) (List.mem_of_getElem? (i := 38) rfl)
theorem d_Mo_burn_73 : decode Y_Mo_burn.2.1 73 = .ok (.aload_n 0, 1) := D_Mo_burn_0 (73, .aload_n 0, 1) (List.mem_of_getElem? (i := 39) rfl)
theorem d_Mo_burn_74 : decode Y_Mo_burn.2.1 74 = .ok (.iload_n 1, 1) := D_Mo_burn_0 (74, .iload_n 1, 1) (List.mem_of_getElem? (i := 40) rfl)
theorem d_Mo_burn_75 : decode Y_Mo_burn.2.1 75 = .ok (.invokevirtual 148, 3) := D_Mo_burn_0 (75, .invokevirtual 148, 3) (List.mem_of_getElem? (i := 41) rfl)
theorem d_Mo_burn_78 : decode Y_Mo_burn.2.1 78 = .ok (.ldc2_w 152, 3) := D_Mo_burn_0 (78, .ldc2_w 152, 3) (List.mem_of_getElem? (i := 42) rfl)
theorem d_Mo_burn_81 : decode Y_Mo_burn.2.1 81 = .ok (.lstore 4, 2) := D_Mo_burn_0 (81, .lstore 4, 2) (List.mem_of_getElem? (i := 43) rfl)
theorem d_Mo_burn_83 : decode Y_Mo_burn.2.1 83 = .ok (.iconst 0, 1) := D_Mo_burn_0 (83, .iconst 0, 1) (List.mem_of_getElem? (i := 44) rfl)
theorem d_Mo_burn_84 : decode Y_Mo_burn.2.1 84 = .ok (.istore 6, 2) := D_Mo_burn_0 (84, .istore 6, 2) (List.mem_of_getElem? (i := 45) rfl)
theorem d_Mo_burn_86 : decode Y_Mo_burn.2.1 86 = .ok (.iload 6, 2) := D_Mo_burn_0 (86, .iload 6, 2) (List.mem_of_getElem? (i := 46) rfl)
theorem d_Mo_burn_88 : decode Y_Mo_burn.2.1 88 = .ok (.aload_n 0, 1) := D_Mo_burn_0 (88, .aload_n 0, 1) (List.mem_of_getElem? (i := 47) rfl)
theorem d_Mo_burn_89 : decode Y_Mo_burn.2.1 89 = .ok (.getfield 130, 3) := D_Mo_burn_0 (89, .getfield 130, 3) (List.mem_of_getElem? (i := 48) rfl)
theorem d_Mo_burn_92 : decode Y_Mo_burn.2.1 92 = .ok (.if_icmp .ge 35, 3) := D_Mo_burn_0 (92, .if_icmp .ge 35, 3) (List.mem_of_getElem? (i := 49) rfl)
theorem d_Mo_burn_95 : decode Y_Mo_burn.2.1 95 = .ok (.aload_n 0, 1) := D_Mo_burn_0 (95, .aload_n 0, 1) (List.mem_of_getElem? (i := 50) rfl)
theorem d_Mo_burn_96 : decode Y_Mo_burn.2.1 96 = .ok (.getfield 56, 3) := D_Mo_burn_0 (96, .getfield 56, 3) (List.mem_of_getElem? (i := 51) rfl)
theorem d_Mo_burn_99 : decode Y_Mo_burn.2.1 99 = .ok (.iload 6, 2) := D_Mo_burn_0 (99, .iload 6, 2) (List.mem_of_getElem? (i := 52) rfl)
theorem d_Mo_burn_101 : decode Y_Mo_burn.2.1 101 = .ok (.iaload, 1) := D_Mo_burn_0 (101, .iaload, 1) (List.mem_of_getElem? (i := 53) rfl)
theorem d_Mo_burn_102 : decode Y_Mo_burn.2.1 102 = .ok (.iload_n 3, 1) := D_Mo_burn_0 (102, .iload_n 3, 1) (List.mem_of_getElem? (i := 54) rfl)
theorem d_Mo_burn_103 : decode Y_Mo_burn.2.1 103 = .ok (.if_icmp .gt 14, 3) := D_Mo_burn_0 (103, .if_icmp .gt 14, 3) (List.mem_of_getElem? (i := 55) rfl)
theorem d_Mo_burn_106 : decode Y_Mo_burn.2.1 106 = .ok (.aload_n 0, 1) := D_Mo_burn_0 (106, .aload_n 0, 1) (List.mem_of_getElem? (i := 56) rfl)
theorem d_Mo_burn_107 : decode Y_Mo_burn.2.1 107 = .ok (.getfield 59, 3) := D_Mo_burn_0 (107, .getfield 59, 3) (List.mem_of_getElem? (i := 57) rfl)
theorem d_Mo_burn_110 : decode Y_Mo_burn.2.1 110 = .ok (.iload 6, 2) := D_Mo_burn_0 (110, .iload 6, 2) (List.mem_of_getElem? (i := 58) rfl)
theorem d_Mo_burn_112 : decode Y_Mo_burn.2.1 112 = .ok (.iaload, 1) := D_Mo_burn_0 (112, .iaload, 1) (List.mem_of_getElem? (i := 59) rfl)
theorem D_Mo_burn_1 : ∀ q ∈ ([(113, .i2l, 1), (114, .goto 5, 3), (117, .lload 4, 2), (119, .lstore 4, 2), (121, .iinc 6 1, 3), (124, .goto (-38), 3), (127, .aload_n 0, 1), (128, .getfield 138, 3), (131, .ldc2_w 154, 3), (134, .lmul, 1), (135, .aload_n 0, 1), (136, .getfield 135, 3), (139, .ldc2_w 156, 3), (142, .lmul, 1), (143, .lsub, 1), (144, .lstore 6, 2), (146, .lload 6, 2), (148, .lconst 0, 1), (149, .lcmp, 1), (150, .ifCond .ge 7, 3), (153, .lconst 0, 1), (154, .goto 12, 3), (157, .lload 6, 2), (159, .lload 4, 2), (161, .lmul, 1), (162, .ldc2_w 152, 3), (165, .ldiv, 1), (166, .lreturn, 1)] : List (Nat × Instr × Nat)), decode prog_8_method_27_code q.1 = .ok (q.2.1, q.2.2) := by decide +kernel
theorem d_Mo_burn_113 : decode Y_Mo_burn.2.1 113 = .ok (.i2l, 1) := D_Mo_burn_1 (113, .i2l, 1) (List.mem_of_getElem? (i := 0) rfl)
theorem d_Mo_burn_114 : decode Y_Mo_burn.2.1 114 = .ok (.goto 5, 3) := D_Mo_burn_1 (114, .goto 5, 3) (List.mem_of_getElem? (i := 1) rfl)
theorem d_Mo_burn_117 : decode Y_Mo_burn.2.1 117 = .ok (.lload 4, 2) := D_Mo_burn_1 (117, .lload 4, 2) (List.mem_of_getElem? (i := 2) rfl)
theorem d_Mo_burn_119 : decode Y_Mo_burn.2.1 119 = .ok (.lstore 4, 2) := D_Mo_burn_1 (119, .lstore 4, 2) (List.mem_of_getElem? (i := 3) rfl)
theorem d_Mo_burn_121 : decode Y_Mo_burn.2.1 121 = .ok (.iinc 6 1, 3) := D_Mo_burn_1 (121, .iinc 6 1, 3) (List.mem_of_getElem? (i := 4) rfl)
theorem d_Mo_burn_124 : decode Y_Mo_burn.2.1 124 = .ok (.goto (-38), 3) := D_Mo_burn_1 (124, .goto (-38), 3) (List.mem_of_getElem? (i := 5) rfl)
theorem d_Mo_burn_127 : decode Y_Mo_burn.2.1 127 = .ok (.aload_n 0, 1) := D_Mo_burn_1 (127, .aload_n 0, 1) (List.mem_of_getElem? (i := 6) rfl)
theorem d_Mo_burn_128 : decode Y_Mo_burn.2.1 128 = .ok (.getfield 138, 3) := D_Mo_burn_1 (128, .getfield 138, 3) (List.mem_of_getElem? (i := 7) rfl)
theorem d_Mo_burn_131 : decode Y_Mo_burn.2.1 131 = .ok (.ldc2_w 154, 3) := D_Mo_burn_1 (131, .ldc2_w 154, 3) (List.mem_of_getElem? (i := 8) rfl)
theorem d_Mo_burn_134 : decode Y_Mo_burn.2.1 134 = .ok (.lmul, 1) := D_Mo_burn_1 (134, .lmul, 1) (List.mem_of_getElem? (i := 9) rfl)
theorem d_Mo_burn_135 : decode Y_Mo_burn.2.1 135 = .ok (.aload_n 0, 1) := D_Mo_burn_1 (135, .aload_n 0, 1) (List.mem_of_getElem? (i := 10) rfl)
theorem d_Mo_burn_136 : decode Y_Mo_burn.2.1 136 = .ok (.getfield 135, 3) := D_Mo_burn_1 (136, .getfield 135, 3) (List.mem_of_getElem? (i := 11) rfl)
theorem d_Mo_burn_139 : decode Y_Mo_burn.2.1 139 = .ok (.ldc2_w 156, 3) := D_Mo_burn_1 (139, .ldc2_w 156, 3) (List.mem_of_getElem? (i := 12) rfl)
theorem d_Mo_burn_142 : decode Y_Mo_burn.2.1 142 = .ok (.lmul, 1) := D_Mo_burn_1 (142, .lmul, 1) (List.mem_of_getElem? (i := 13) rfl)
theorem d_Mo_burn_143 : decode Y_Mo_burn.2.1 143 = .ok (.lsub, 1) := D_Mo_burn_1 (143, .lsub, 1) (List.mem_of_getElem? (i := 14) rfl)
theorem d_Mo_burn_144 : decode Y_Mo_burn.2.1 144 = .ok (.lstore 6, 2) := D_Mo_burn_1 (144, .lstore 6, 2) (List.mem_of_getElem? (i := 15) rfl)
theorem d_Mo_burn_146 : decode Y_Mo_burn.2.1 146 = .ok (.lload 6, 2) := D_Mo_burn_1 (146, .lload 6, 2) (List.mem_of_getElem? (i := 16) rfl)
theorem d_Mo_burn_148 : decode Y_Mo_burn.2.1 148 = .ok (.lconst 0, 1) := D_Mo_burn_1 (148, .lconst 0, 1) (List.mem_of_getElem? (i := 17) rfl)
theorem d_Mo_burn_149 : decode Y_Mo_burn.2.1 149 = .ok (.lcmp, 1) := D_Mo_burn_1 (149, .lcmp, 1) (List.mem_of_getElem? (i := 18) rfl)
theorem d_Mo_burn_150 : decode Y_Mo_burn.2.1 150 = .ok (.ifCond .ge 7, 3) := D_Mo_burn_1 (150, .ifCond .ge 7, 3) (List.mem_of_getElem? (i := 19) rfl)
theorem d_Mo_burn_153 : decode Y_Mo_burn.2.1 153 = .ok (.lconst 0, 1) := D_Mo_burn_1 (153, .lconst 0, 1) (List.mem_of_getElem? (i := 20) rfl)
theorem d_Mo_burn_154 : decode Y_Mo_burn.2.1 154 = .ok (.goto 12, 3) := D_Mo_burn_1 (154, .goto 12, 3) (List.mem_of_getElem? (i := 21) rfl)
theorem d_Mo_burn_157 : decode Y_Mo_burn.2.1 157 = .ok (.lload 6, 2) := D_Mo_burn_1 (157, .lload 6, 2) (List.mem_of_getElem? (i := 22) rfl)
theorem d_Mo_burn_159 : decode Y_Mo_burn.2.1 159 = .ok (.lload 4, 2) := D_Mo_burn_1 (159, .lload 4, 2) (List.mem_of_getElem? (i := 23) rfl)
theorem d_Mo_burn_161 : decode Y_Mo_burn.2.1 161 = .ok (.lmul, 1) := D_Mo_burn_1 (161, .lmul, 1) (List.mem_of_getElem? (i := 24) rfl)
theorem d_Mo_burn_162 : decode Y_Mo_burn.2.1 162 = .ok (.ldc2_w 152, 3) := D_Mo_burn_1 (162, .ldc2_w 152, 3) (List.mem_of_getElem? (i := 25) rfl)
theorem d_Mo_burn_165 : decode Y_Mo_burn.2.1 165 = .ok (.ldiv, 1) := D_Mo_burn_1 (165, .ldiv, 1) (List.mem_of_getElem? (i := 26) rfl)
theorem d_Mo_burn_166 : decode Y_Mo_burn.2.1 166 = .ok (.lreturn, 1) := D_Mo_burn_1 (166, .lreturn, 1) (List.mem_of_getElem? (i := 27) rfl)
theorem D_Mo_has_0 : ∀ q ∈ ([(0, .aload_n 0, 1), (1, .iload_n 1, 1), (2, .invokevirtual 86, 3), (5, .ldc2_w 75, 3), (8, .iload_n 2, 1), (9, .i2l, 1), (10, .lmul, 1), (11, .lcmp, 1), (12, .ifCond .lt 7, 3), (15, .iconst 1, 1), (16, .goto 4, 3), (19, .iconst 0, 1), (20, .ireturn, 1)] : List (Nat × Instr × Nat)), decode prog_8_method_24_code q.1 = .ok (q.2.1, q.2.2) := by decide +kernel
theorem d_Mo_has_0 : decode Y_Mo_has.2.1 0 = .ok (.aload_n 0, 1) := D_Mo_has_0 (0, .aload_n 0, 1) (List.mem_of_getElem? (i := 0) rfl)
theorem d_Mo_has_1 : decode Y_Mo_has.2.1 1 = .ok (.iload_n 1, 1) := D_Mo_has_0 (1, .iload_n 1, 1) (List.mem_of_getElem? (i := 1) rfl)
theorem d_Mo_has_2 : decode Y_Mo_has.2.1 2 = .ok (.invokevirtual 86, 3) := D_Mo_has_0 (2, .invokevirtual 86, 3) (List.mem_of_getElem? (i := 2) rfl)
theorem d_Mo_has_5 : decode Y_Mo_has.2.1 5 = .ok (.ldc2_w 75, 3) := D_Mo_has_0 (5, .ldc2_w 75, 3) (List.mem_of_getElem? (i := 3) rfl)
theorem d_Mo_has_8 : decode Y_Mo_has.2.1 8 = .ok (.iload_n 2, 1) := D_Mo_has_0 (8, .iload_n 2, 1) (List.mem_of_getElem? (i := 4) rfl)
theorem d_Mo_has_9 : decode Y_Mo_has.2.1 9 = .ok (.i2l, 1) := D_Mo_has_0 (9, .i2l, 1) (List.mem_of_getElem? (i := 5) rfl)
theorem d_Mo_has_10 : decode Y_Mo_has.2.1 10 = .ok (.lmul, 1) := D_Mo_has_0 (10, .lmul, 1) (List.mem_of_getElem? (i := 6) rfl)
theorem d_Mo_has_11 : decode Y_Mo_has.2.1 11 = .ok (.lcmp, 1) := D_Mo_has_0 (11, .lcmp, 1) (List.mem_of_getElem? (i := 7) rfl)
theorem d_Mo_has_12 : decode Y_Mo_has.2.1 12 = .ok (.ifCond .lt 7, 3) := D_Mo_has_0 (12, .ifCond .lt 7, 3) (List.mem_of_getElem? (i := 8) rfl)
theorem d_Mo_has_15 : decode Y_Mo_has.2.1 15 = .ok (.iconst 1, 1) := D_Mo_has_0 (15, .iconst 1, 1) (List.mem_of_getElem? (i := 9) rfl)
theorem d_Mo_has_16 : decode Y_Mo_has.2.1 16 = .ok (.goto 4, 3) := D_Mo_has_0 (16, .goto 4, 3) (List.mem_of_getElem? (i := 10) rfl)
theorem d_Mo_has_19 : decode Y_Mo_has.2.1 19 = .ok (.iconst 0, 1) := D_Mo_has_0 (19, .iconst 0, 1) (List.mem_of_getElem? (i := 11) rfl)
theorem d_Mo_has_20 : decode Y_Mo_has.2.1 20 = .ok (.ireturn, 1) := D_Mo_has_0 (20, .ireturn, 1) (List.mem_of_getElem? (i := 12) rfl)
theorem D_Mo_take_0 : ∀ q ∈ ([(0, .ldc2_w 75, 3), (3, .iload_n 2, 1), (4, .i2l, 1), (5, .lmul, 1), (6, .lstore_n 3, 1), (7, .aload_n 0, 1), (8, .aload_n 0, 1), (9, .getfield 32, 3), (12, .iload_n 1, 1), (13, .laload, 1), (14, .lload_n 3, 1), (15, .lmul, 1), (16, .aload_n 0, 1), (17, .iload_n 1, 1), (18, .invokevirtual 86, 3), (21, .ldiv, 1), (22, .putfield 135, 3), (25, .aload_n 0, 1), (26, .lload_n 3, 1), (27, .aload_n 0, 1), (28, .getfield 135, 3), (31, .lsub, 1), (32, .putfield 138, 3), (35, .return_, 1)] : List (Nat × Instr × Nat)), decode prog_8_method_25_code q.1 = .ok (q.2.1, q.2.2) := by decide +kernel
theorem d_Mo_take_0 : decode Y_Mo_take.2.1 0 = .ok (.ldc2_w 75, 3) := D_Mo_take_0 (0, .ldc2_w 75, 3) (List.mem_of_getElem? (i := 0) rfl)
theorem d_Mo_take_3 : decode Y_Mo_take.2.1 3 = .ok (.iload_n 2, 1) := D_Mo_take_0 (3, .iload_n 2, 1) (List.mem_of_getElem? (i := 1) rfl)
theorem d_Mo_take_4 : decode Y_Mo_take.2.1 4 = .ok (.i2l, 1) := D_Mo_take_0 (4, .i2l, 1) (List.mem_of_getElem? (i := 2) rfl)
theorem d_Mo_take_5 : decode Y_Mo_take.2.1 5 = .ok (.lmul, 1) := D_Mo_take_0 (5, .lmul, 1) (List.mem_of_getElem? (i := 3) rfl)
theorem d_Mo_take_6 : decode Y_Mo_take.2.1 6 = .ok (.lstore_n 3, 1) := D_Mo_take_0 (6, .lstore_n 3, 1) (List.mem_of_getElem? (i := 4) rfl)
theorem d_Mo_take_7 : decode Y_Mo_take.2.1 7 = .ok (.aload_n 0, 1) := D_Mo_take_0 (7, .aload_n 0, 1) (List.mem_of_getElem? (i := 5) rfl)
theorem d_Mo_take_8 : decode Y_Mo_take.2.1 8 = .ok (.aload_n 0, 1) := D_Mo_take_0 (8, .aload_n 0, 1) (List.mem_of_getElem? (i := 6) rfl)
theorem d_Mo_take_9 : decode Y_Mo_take.2.1 9 = .ok (.getfield 32, 3) := D_Mo_take_0 (9, .getfield 32, 3) (List.mem_of_getElem? (i := 7) rfl)
theorem d_Mo_take_12 : decode Y_Mo_take.2.1 12 = .ok (.iload_n 1, 1) := D_Mo_take_0 (12, .iload_n 1, 1) (List.mem_of_getElem? (i := 8) rfl)
theorem d_Mo_take_13 : decode Y_Mo_take.2.1 13 = .ok (.laload, 1) := D_Mo_take_0 (13, .laload, 1) (List.mem_of_getElem? (i := 9) rfl)
theorem d_Mo_take_14 : decode Y_Mo_take.2.1 14 = .ok (.lload_n 3, 1) := D_Mo_take_0 (14, .lload_n 3, 1) (List.mem_of_getElem? (i := 10) rfl)
theorem d_Mo_take_15 : decode Y_Mo_take.2.1 15 = .ok (.lmul, 1) := D_Mo_take_0 (15, .lmul, 1) (List.mem_of_getElem? (i := 11) rfl)
theorem d_Mo_take_16 : decode Y_Mo_take.2.1 16 = .ok (.aload_n 0, 1) := D_Mo_take_0 (16, .aload_n 0, 1) (List.mem_of_getElem? (i := 12) rfl)
theorem d_Mo_take_17 : decode Y_Mo_take.2.1 17 = .ok (.iload_n 1, 1) := D_Mo_take_0 (17, .iload_n 1, 1) (List.mem_of_getElem? (i := 13) rfl)
theorem d_Mo_take_18 : decode Y_Mo_take.2.1 18 = .ok (.invokevirtual 86, 3) := D_Mo_take_0 (18, .invokevirtual 86, 3) (List.mem_of_getElem? (i := 14) rfl)
theorem d_Mo_take_21 : decode Y_Mo_take.2.1 21 = .ok (.ldiv, 1) := D_Mo_take_0 (21, .ldiv, 1) (List.mem_of_getElem? (i := 15) rfl)
theorem d_Mo_take_22 : decode Y_Mo_take.2.1 22 = .ok (.putfield 135, 3) := D_Mo_take_0 (22, .putfield 135, 3) (List.mem_of_getElem? (i := 16) rfl)
theorem d_Mo_take_25 : decode Y_Mo_take.2.1 25 = .ok (.aload_n 0, 1) := D_Mo_take_0 (25, .aload_n 0, 1) (List.mem_of_getElem? (i := 17) rfl)
theorem d_Mo_take_26 : decode Y_Mo_take.2.1 26 = .ok (.lload_n 3, 1) := D_Mo_take_0 (26, .lload_n 3, 1) (List.mem_of_getElem? (i := 18) rfl)
theorem d_Mo_take_27 : decode Y_Mo_take.2.1 27 = .ok (.aload_n 0, 1) := D_Mo_take_0 (27, .aload_n 0, 1) (List.mem_of_getElem? (i := 19) rfl)
theorem d_Mo_take_28 : decode Y_Mo_take.2.1 28 = .ok (.getfield 135, 3) := D_Mo_take_0 (28, .getfield 135, 3) (List.mem_of_getElem? (i := 20) rfl)
theorem d_Mo_take_31 : decode Y_Mo_take.2.1 31 = .ok (.lsub, 1) := D_Mo_take_0 (31, .lsub, 1) (List.mem_of_getElem? (i := 21) rfl)
theorem d_Mo_take_32 : decode Y_Mo_take.2.1 32 = .ok (.putfield 138, 3) := D_Mo_take_0 (32, .putfield 138, 3) (List.mem_of_getElem? (i := 22) rfl)
theorem d_Mo_take_35 : decode Y_Mo_take.2.1 35 = .ok (.return_, 1) := D_Mo_take_0 (35, .return_, 1) (List.mem_of_getElem? (i := 23) rfl)
theorem D_Mo_goes_0 : ∀ q ∈ ([(0, .aload_n 0, 1), (1, .getfield 32, 3), (4, .iload_n 1, 1), (5, .aload_n 0, 1), (6, .getfield 32, 3), (9, .iload_n 1, 1), (10, .laload, 1), (11, .aload_n 0, 1), (12, .getfield 135, 3), (15, .lsub, 1), (16, .lastore, 1), (17, .aload_n 0, 1), (18, .getfield 29, 3), (21, .iload_n 1, 1), (22, .aload_n 0, 1), (23, .getfield 29, 3), (26, .iload_n 1, 1), (27, .laload, 1), (28, .aload_n 0, 1), (29, .getfield 138, 3), (32, .lsub, 1), (33, .lastore, 1), (34, .aload_n 0, 1), (35, .aload_n 0, 1), (36, .getfield 122, 3), (39, .aload_n 0, 1), (40, .getfield 138, 3), (43, .ladd, 1), (44, .aload_n 0, 1), (45, .getfield 135, 3), (48, .ladd, 1), (49, .putfield 122, 3), (52, .return_, 1)] : List (Nat × Instr × Nat)), decode prog_8_method_26_code q.1 = .ok (q.2.1, q.2.2) := by decide +kernel
theorem d_Mo_goes_0 : decode Y_Mo_goes.2.1 0 = .ok (.aload_n 0, 1) := D_Mo_goes_0 (0, .aload_n 0, 1) (List.mem_of_getElem? (i := 0) rfl)
theorem d_Mo_goes_1 : decode Y_Mo_goes.2.1 1 = .ok (.getfield 32, 3) := D_Mo_goes_0 (1, .getfield 32, 3) (List.mem_of_getElem? (i := 1) rfl)
theorem d_Mo_goes_4 : decode Y_Mo_goes.2.1 4 = .ok (.iload_n 1, 1) := D_Mo_goes_0 (4, .iload_n 1, 1) (List.mem_of_getElem? (i := 2) rfl)
theorem d_Mo_goes_5 : decode Y_Mo_goes.2.1 5 = .ok (.aload_n 0, 1) := D_Mo_goes_0 (5, .aload_n 0, 1) (List.mem_of_getElem? (i := 3) rfl)
theorem d_Mo_goes_6 : decode Y_Mo_goes.2.1 6 = .ok (.getfield 32, 3) := D_Mo_goes_0 (6, .getfield 32, 3) (List.mem_of_getElem? (i := 4) rfl)
theorem d_Mo_goes_9 : decode Y_Mo_goes.2.1 9 = .ok (.iload_n 1, 1) := D_Mo_goes_0 (9, .iload_n 1, 1) (List.mem_of_getElem? (i := 5) rfl)
theorem d_Mo_goes_10 : decode Y_Mo_goes.2.1 10 = .ok (.laload, 1) := D_Mo_goes_0 (10, .laload, 1) (List.mem_of_getElem? (i := 6) rfl)
theorem d_Mo_goes_11 : decode Y_Mo_goes.2.1 11 = .ok (.aload_n 0, 1) := D_Mo_goes_0 (11, .aload_n 0, 1) (List.mem_of_getElem? (i := 7) rfl)
theorem d_Mo_goes_12 : decode Y_Mo_goes.2.1 12 = .ok (.getfield 135, 3) := D_Mo_goes_0 (12, .getfield 135, 3) (List.mem_of_getElem? (i := 8) rfl)
theorem d_Mo_goes_15 : decode Y_Mo_goes.2.1 15 = .ok (.lsub, 1) := D_Mo_goes_0 (15, .lsub, 1) (List.mem_of_getElem? (i := 9) rfl)
theorem d_Mo_goes_16 : decode Y_Mo_goes.2.1 16 = .ok (.lastore, 1) := D_Mo_goes_0 (16, .lastore, 1) (List.mem_of_getElem? (i := 10) rfl)
theorem d_Mo_goes_17 : decode Y_Mo_goes.2.1 17 = .ok (.aload_n 0, 1) := D_Mo_goes_0 (17, .aload_n 0, 1) (List.mem_of_getElem? (i := 11) rfl)
theorem d_Mo_goes_18 : decode Y_Mo_goes.2.1 18 = .ok (.getfield 29, 3) := D_Mo_goes_0 (18, .getfield 29, 3) (List.mem_of_getElem? (i := 12) rfl)
theorem d_Mo_goes_21 : decode Y_Mo_goes.2.1 21 = .ok (.iload_n 1, 1) := D_Mo_goes_0 (21, .iload_n 1, 1) (List.mem_of_getElem? (i := 13) rfl)
theorem d_Mo_goes_22 : decode Y_Mo_goes.2.1 22 = .ok (.aload_n 0, 1) := D_Mo_goes_0 (22, .aload_n 0, 1) (List.mem_of_getElem? (i := 14) rfl)
theorem d_Mo_goes_23 : decode Y_Mo_goes.2.1 23 = .ok (.getfield 29, 3) := D_Mo_goes_0 (23, .getfield 29, 3) (List.mem_of_getElem? (i := 15) rfl)
theorem d_Mo_goes_26 : decode Y_Mo_goes.2.1 26 = .ok (.iload_n 1, 1) := D_Mo_goes_0 (26, .iload_n 1, 1) (List.mem_of_getElem? (i := 16) rfl)
theorem d_Mo_goes_27 : decode Y_Mo_goes.2.1 27 = .ok (.laload, 1) := D_Mo_goes_0 (27, .laload, 1) (List.mem_of_getElem? (i := 17) rfl)
theorem d_Mo_goes_28 : decode Y_Mo_goes.2.1 28 = .ok (.aload_n 0, 1) := D_Mo_goes_0 (28, .aload_n 0, 1) (List.mem_of_getElem? (i := 18) rfl)
theorem d_Mo_goes_29 : decode Y_Mo_goes.2.1 29 = .ok (.getfield 138, 3) := D_Mo_goes_0 (29, .getfield 138, 3) (List.mem_of_getElem? (i := 19) rfl)
theorem d_Mo_goes_32 : decode Y_Mo_goes.2.1 32 = .ok (.lsub, 1) := D_Mo_goes_0 (32, .lsub, 1) (List.mem_of_getElem? (i := 20) rfl)
theorem d_Mo_goes_33 : decode Y_Mo_goes.2.1 33 = .ok (.lastore, 1) := D_Mo_goes_0 (33, .lastore, 1) (List.mem_of_getElem? (i := 21) rfl)
theorem d_Mo_goes_34 : decode Y_Mo_goes.2.1 34 = .ok (.aload_n 0, 1) := D_Mo_goes_0 (34, .aload_n 0, 1) (List.mem_of_getElem? (i := 22) rfl)
theorem d_Mo_goes_35 : decode Y_Mo_goes.2.1 35 = .ok (.aload_n 0, 1) := D_Mo_goes_0 (35, .aload_n 0, 1) (List.mem_of_getElem? (i := 23) rfl)
theorem d_Mo_goes_36 : decode Y_Mo_goes.2.1 36 = .ok (.getfield 122, 3) := D_Mo_goes_0 (36, .getfield 122, 3) (List.mem_of_getElem? (i := 24) rfl)
theorem d_Mo_goes_39 : decode Y_Mo_goes.2.1 39 = .ok (.aload_n 0, 1) := D_Mo_goes_0 (39, .aload_n 0, 1) (List.mem_of_getElem? (i := 25) rfl)
theorem d_Mo_goes_40 : decode Y_Mo_goes.2.1 40 = .ok (.getfield 138, 3) := D_Mo_goes_0 (40, .getfield 138, 3) (List.mem_of_getElem? (i := 26) rfl)
theorem d_Mo_goes_43 : decode Y_Mo_goes.2.1 43 = .ok (.ladd, 1) := D_Mo_goes_0 (43, .ladd, 1) (List.mem_of_getElem? (i := 27) rfl)
theorem d_Mo_goes_44 : decode Y_Mo_goes.2.1 44 = .ok (.aload_n 0, 1) := D_Mo_goes_0 (44, .aload_n 0, 1) (List.mem_of_getElem? (i := 28) rfl)
theorem d_Mo_goes_45 : decode Y_Mo_goes.2.1 45 = .ok (.getfield 135, 3) := D_Mo_goes_0 (45, .getfield 135, 3) (List.mem_of_getElem? (i := 29) rfl)
theorem d_Mo_goes_48 : decode Y_Mo_goes.2.1 48 = .ok (.ladd, 1) := D_Mo_goes_0 (48, .ladd, 1) (List.mem_of_getElem? (i := 30) rfl)
theorem d_Mo_goes_49 : decode Y_Mo_goes.2.1 49 = .ok (.putfield 122, 3) := D_Mo_goes_0 (49, .putfield 122, 3) (List.mem_of_getElem? (i := 31) rfl)
theorem d_Mo_goes_52 : decode Y_Mo_goes.2.1 52 = .ok (.return_, 1) := D_Mo_goes_0 (52, .return_, 1) (List.mem_of_getElem? (i := 32) rfl)
theorem D_Mo_sell_0 : ∀ q ∈ ([(0, .aload_n 0, 1), (1, .aload_n 0, 1), (2, .iload_n 1, 1), (3, .invokevirtual 94, 3), (6, .ifCond .eq 7, 3), (9, .iconst 1, 1), (10, .goto 45, 3), (13, .iload_n 2, 1), (14, .i2l, 1), (15, .lconst 1, 1), (16, .ldc2_w 84, 3), (19, .invokestatic 71, 3), (22, .ifCond .eq 15, 3), (25, .iload_n 3, 1), (26, .i2l, 1), (27, .lconst 0, 1), (28, .ldc2_w 84, 3), (31, .invokestatic 71, 3), (34, .ifCond .ne 7, 3), (37, .iconst 2, 1), (38, .goto 17, 3), (41, .aload_n 0, 1), (42, .iload_n 1, 1), (43, .iload_n 2, 1), (44, .invokevirtual 141, 3), (47, .ifCond .eq 7, 3), (50, .iconst 0, 1), (51, .goto 4, 3), (54, .iconst 3, 1), (55, .putfield 62, 3), (58, .aload_n 0, 1), (59, .getfield 62, 3), (62, .ifCond .le 5, 3), (65, .lconst 0, 1), (66, .lreturn, 1), (67, .aload_n 0, 1), (68, .iload_n 1, 1), (69, .iload_n 2, 1), (70, .invokevirtual 144, 3), (73, .aload_n 0, 1), (74, .iload_n 1, 1), (75, .invokevirtual 148, 3), (78, .aload_n 0, 1), (79, .getfield 138, 3), (82, .iload_n 3, 1), (83, .i2l, 1), (84, .lmul, 1), (85, .ldc2_w 84, 3), (88, .ldiv, 1), (89, .lreturn, 1)] : List (Nat × Instr × Nat)), decode prog_8_method_28_code q.1 = .ok (q.2.1, q.2.2) := by decide +kernel
theorem d_Mo_sell_0 : decode Y_Mo_sell.2.1 0 = .ok (.aload_n 0, 1) := D_Mo_sell_0 (0, .aload_n 0, 1) (List.mem_of_getElem? (i := 0) rfl)
theorem d_Mo_sell_1 : decode Y_Mo_sell.2.1 1 = .ok (.aload_n 0, 1) := D_Mo_sell_0 (1, .aload_n 0, 1) (List.mem_of_getElem? (i := 1) rfl)
theorem d_Mo_sell_2 : decode Y_Mo_sell.2.1 2 = .ok (.iload_n 1, 1) := D_Mo_sell_0 (2, .iload_n 1, 1) (List.mem_of_getElem? (i := 2) rfl)
theorem d_Mo_sell_3 : decode Y_Mo_sell.2.1 3 = .ok (.invokevirtual 94, 3) := D_Mo_sell_0 (3, .invokevirtual 94, 3) (List.mem_of_getElem? (i := 3) rfl)
theorem d_Mo_sell_6 : decode Y_Mo_sell.2.1 6 = .ok (.ifCond .eq 7, 3) := D_Mo_sell_0 (6, .ifCond .eq 7, 3) (List.mem_of_getElem? (i := 4) rfl)
theorem d_Mo_sell_9 : decode Y_Mo_sell.2.1 9 = .ok (.iconst 1, 1) := D_Mo_sell_0 (9, .iconst 1, 1) (List.mem_of_getElem? (i := 5) rfl)
theorem d_Mo_sell_10 : decode Y_Mo_sell.2.1 10 = .ok (.goto 45, 3) := D_Mo_sell_0 (10, .goto 45, 3) (List.mem_of_getElem? (i := 6) rfl)
theorem d_Mo_sell_13 : decode Y_Mo_sell.2.1 13 = .ok (.iload_n 2, 1) := D_Mo_sell_0 (13, .iload_n 2, 1) (List.mem_of_getElem? (i := 7) rfl)
theorem d_Mo_sell_14 : decode Y_Mo_sell.2.1 14 = .ok (.i2l, 1) := D_Mo_sell_0 (14, .i2l, 1) (List.mem_of_getElem? (i := 8) rfl)
theorem d_Mo_sell_15 : decode Y_Mo_sell.2.1 15 = .ok (.lconst 1, 1) := D_Mo_sell_0 (15, .lconst 1, 1) (List.mem_of_getElem? (i := 9) rfl)
theorem d_Mo_sell_16 : decode Y_Mo_sell.2.1 16 = .ok (.ldc2_w 84, 3) := D_Mo_sell_0 (16, .ldc2_w 84, 3) (List.mem_of_getElem? (i := 10) rfl)
theorem d_Mo_sell_19 : decode Y_Mo_sell.2.1 19 = .ok (.invokestatic 71, 3) := D_Mo_sell_0 (19, .invokestatic 71, 3) (List.mem_of_getElem? (i := 11) rfl)
theorem d_Mo_sell_22 : decode Y_Mo_sell.2.1 22 = .ok (.ifCond .eq 15, 3) := D_Mo_sell_0 (22, .ifCond .eq 15, 3) (List.mem_of_getElem? (i := 12) rfl)
theorem d_Mo_sell_25 : decode Y_Mo_sell.2.1 25 = .ok (.iload_n 3, 1) := D_Mo_sell_0 (25, .iload_n 3, 1) (List.mem_of_getElem? (i := 13) rfl)
theorem d_Mo_sell_26 : decode Y_Mo_sell.2.1 26 = .ok (.i2l, 1) := D_Mo_sell_0 (26, .i2l, 1) (List.mem_of_getElem? (i := 14) rfl)
theorem d_Mo_sell_27 : decode Y_Mo_sell.2.1 27 = .ok (.lconst 0, 1) := D_Mo_sell_0 (27, .lconst 0, 1) (List.mem_of_getElem? (i := 15) rfl)
theorem d_Mo_sell_28 : decode Y_Mo_sell.2.1 28 = .ok (.ldc2_w 84, 3) := D_Mo_sell_0 (28, .ldc2_w 84, 3) (List.mem_of_getElem? (i := 16) rfl)
theorem d_Mo_sell_31 : decode Y_Mo_sell.2.1 31 = .ok (.invokestatic 71, 3) := D_Mo_sell_0 (31, .invokestatic 71, 3) (List.mem_of_getElem? (i := 17) rfl)
theorem d_Mo_sell_34 : decode Y_Mo_sell.2.1 34 = .ok (.ifCond .ne 7, 3) := D_Mo_sell_0 (34, .ifCond .ne 7, 3) (List.mem_of_getElem? (i := 18) rfl)
theorem d_Mo_sell_37 : decode Y_Mo_sell.2.1 37 = .ok (.iconst 2, 1) := D_Mo_sell_0 (37, .iconst 2, 1) (List.mem_of_getElem? (i := 19) rfl)
theorem d_Mo_sell_38 : decode Y_Mo_sell.2.1 38 = .ok (.goto 17, 3) := D_Mo_sell_0 (38, .goto 17, 3) (List.mem_of_getElem? (i := 20) rfl)
theorem d_Mo_sell_41 : decode Y_Mo_sell.2.1 41 = .ok (.aload_n 0, 1) := D_Mo_sell_0 (41, .aload_n 0, 1) (List.mem_of_getElem? (i := 21) rfl)
theorem d_Mo_sell_42 : decode Y_Mo_sell.2.1 42 = .ok (.iload_n 1, 1) := D_Mo_sell_0 (42, .iload_n 1, 1) (List.mem_of_getElem? (i := 22) rfl)
theorem d_Mo_sell_43 : decode Y_Mo_sell.2.1 43 = .ok (.iload_n 2, 1) := D_Mo_sell_0 (43, .iload_n 2, 1) (List.mem_of_getElem? (i := 23) rfl)
theorem d_Mo_sell_44 : decode Y_Mo_sell.2.1 44 = .ok (.invokevirtual 141, 3) := D_Mo_sell_0 (44, .invokevirtual 141, 3) (List.mem_of_getElem? (i := 24) rfl)
theorem d_Mo_sell_47 : decode Y_Mo_sell.2.1 47 = .ok (.ifCond .eq 7, 3) := D_Mo_sell_0 (47, .ifCond .eq 7, 3) (List.mem_of_getElem? (i := 25) rfl)
theorem d_Mo_sell_50 : decode Y_Mo_sell.2.1 50 = .ok (.iconst 0, 1) := D_Mo_sell_0 (50, .iconst 0, 1) (List.mem_of_getElem? (i := 26) rfl)
theorem d_Mo_sell_51 : decode Y_Mo_sell.2.1 51 = .ok (.goto 4, 3) := D_Mo_sell_0 (51, .goto 4, 3) (List.mem_of_getElem? (i := 27) rfl)
theorem d_Mo_sell_54 : decode Y_Mo_sell.2.1 54 = .ok (.iconst 3, 1) := D_Mo_sell_0 (54, .iconst 3, 1) (List.mem_of_getElem? (i := 28) rfl)
theorem d_Mo_sell_55 : decode Y_Mo_sell.2.1 55 = .ok (.putfield 62, 3) := D_Mo_sell_0 (55, .putfield 62, 3) (List.mem_of_getElem? (i := 29) rfl)
theorem d_Mo_sell_58 : decode Y_Mo_sell.2.1 58 = .ok (.aload_n 0, 1) := D_Mo_sell_0 (58, .aload_n 0, 1) (List.mem_of_getElem? (i := 30) rfl)
theorem d_Mo_sell_59 : decode Y_Mo_sell.2.1 59 = .ok (.getfield 62, 3) := D_Mo_sell_0 (59, .getfield 62, 3) (List.mem_of_getElem? (i := 31) rfl)
theorem d_Mo_sell_62 : decode Y_Mo_sell.2.1 62 = .ok (.ifCond .le 5, 3) := D_Mo_sell_0 (62, .ifCond .le 5, 3) (List.mem_of_getElem? (i := 32) rfl)
theorem d_Mo_sell_65 : decode Y_Mo_sell.2.1 65 = .ok (.lconst 0, 1) := D_Mo_sell_0 (65, .lconst 0, 1) (List.mem_of_getElem? (i := 33) rfl)
theorem d_Mo_sell_66 : decode Y_Mo_sell.2.1 66 = .ok (.lreturn, 1) := D_Mo_sell_0 (66, .lreturn, 1) (List.mem_of_getElem? (i := 34) rfl)
theorem d_Mo_sell_67 : decode Y_Mo_sell.2.1 67 = .ok (.aload_n 0, 1) := D_Mo_sell_0 (67, .aload_n 0, 1) (List.mem_of_getElem? (i := 35) rfl)
theorem d_Mo_sell_68 : decode Y_Mo_sell.2.1 68 = .ok (.iload_n 1, 1) := D_Mo_sell_0 (68, .iload_n 1, 1) (List.mem_of_getElem? (i := 36) rfl)
theorem d_Mo_sell_69 : decode Y_Mo_sell.2.1 69 = .ok (.iload_n 2, 1) := D_Mo_sell_0 (69, .iload_n 2, 1) (List.mem_of_getElem? (i := 37) rfl)
theorem d_Mo_sell_70 : decode Y_Mo_sell.2.1 70 = .ok (.invokevirtual 144, 3) := D_Mo_sell_0 (70, .invokevirtual 144, 3) (List.mem_of_getElem? (i := 38) rfl)
theorem d_Mo_sell_73 : decode Y_Mo_sell.2.1 73 = .ok (.aload_n 0, 1) := D_Mo_sell_0 (73, .aload_n 0, 1) (List.mem_of_getElem? (i := 39) rfl)
theorem d_Mo_sell_74 : decode Y_Mo_sell.2.1 74 = .ok (.iload_n 1, 1) := D_Mo_sell_0 (74, .iload_n 1, 1) (List.mem_of_getElem? (i := 40) rfl)
theorem d_Mo_sell_75 : decode Y_Mo_sell.2.1 75 = .ok (.invokevirtual 148, 3) := D_Mo_sell_0 (75, .invokevirtual 148, 3) (List.mem_of_getElem? (i := 41) rfl)
theorem d_Mo_sell_78 : decode Y_Mo_sell.2.1 78 = .ok (.aload_n 0, 1) := D_Mo_sell_0 (78, .aload_n 0, 1) (List.mem_of_getElem? (i := 42) rfl)
theorem d_Mo_sell_79 : decode Y_Mo_sell.2.1 79 = .ok (.getfield 138, 3) := D_Mo_sell_0 (79, .getfield 138, 3) (List.mem_of_getElem? (i := 43) rfl)
theorem d_Mo_sell_82 : decode Y_Mo_sell.2.1 82 = .ok (.iload_n 3, 1) := D_Mo_sell_0 (82, .iload_n 3, 1) (List.mem_of_getElem? (i := 44) rfl)
theorem d_Mo_sell_83 : decode Y_Mo_sell.2.1 83 = .ok (.i2l, 1) := D_Mo_sell_0 (83, .i2l, 1) (List.mem_of_getElem? (i := 45) rfl)
theorem d_Mo_sell_84 : decode Y_Mo_sell.2.1 84 = .ok (.lmul, 1) := D_Mo_sell_0 (84, .lmul, 1) (List.mem_of_getElem? (i := 46) rfl)
theorem d_Mo_sell_85 : decode Y_Mo_sell.2.1 85 = .ok (.ldc2_w 84, 3) := D_Mo_sell_0 (85, .ldc2_w 84, 3) (List.mem_of_getElem? (i := 47) rfl)
theorem d_Mo_sell_88 : decode Y_Mo_sell.2.1 88 = .ok (.ldiv, 1) := D_Mo_sell_0 (88, .ldiv, 1) (List.mem_of_getElem? (i := 48) rfl)
theorem d_Mo_sell_89 : decode Y_Mo_sell.2.1 89 = .ok (.lreturn, 1) := D_Mo_sell_0 (89, .lreturn, 1) (List.mem_of_getElem? (i := 49) rfl)
theorem D_Mo_span_0 : ∀ q ∈ ([(0, .aload_n 0, 1), (1, .aload_n 0, 1), (2, .iload_n 1, 1), (3, .invokevirtual 94, 3), (6, .ifCond .eq 7, 3), (9, .iconst 1, 1), (10, .goto 25, 3), (13, .iload_n 2, 1), (14, .ifCond .lt 20, 3), (17, .iload_n 3, 1), (18, .i2l, 1), (19, .iload_n 2, 1), (20, .i2l, 1), (21, .ldc2_w 75, 3), (24, .invokestatic 71, 3), (27, .ifCond .eq 7, 3), (30, .iconst 0, 1), (31, .goto 4, 3), (34, .iconst 2, 1), (35, .putfield 62, 3), (38, .aload_n 0, 1), (39, .getfield 62, 3), (42, .ifCond .ne 17, 3), (45, .aload_n 0, 1), (46, .getfield 40, 3), (49, .iload_n 1, 1), (50, .iload_n 2, 1), (51, .iastore, 1), (52, .aload_n 0, 1), (53, .getfield 43, 3), (56, .iload_n 1, 1), (57, .iload_n 3, 1), (58, .iastore, 1), (59, .return_, 1)] : List (Nat × Instr × Nat)), decode prog_8_method_29_code q.1 = .ok (q.2.1, q.2.2) := by decide +kernel
theorem d_Mo_span_0 : decode Y_Mo_span.2.1 0 = .ok (.aload_n 0, 1) := D_Mo_span_0 (0, .aload_n 0, 1) (List.mem_of_getElem? (i := 0) rfl)
theorem d_Mo_span_1 : decode Y_Mo_span.2.1 1 = .ok (.aload_n 0, 1) := D_Mo_span_0 (1, .aload_n 0, 1) (List.mem_of_getElem? (i := 1) rfl)
theorem d_Mo_span_2 : decode Y_Mo_span.2.1 2 = .ok (.iload_n 1, 1) := D_Mo_span_0 (2, .iload_n 1, 1) (List.mem_of_getElem? (i := 2) rfl)
theorem d_Mo_span_3 : decode Y_Mo_span.2.1 3 = .ok (.invokevirtual 94, 3) := D_Mo_span_0 (3, .invokevirtual 94, 3) (List.mem_of_getElem? (i := 3) rfl)
theorem d_Mo_span_6 : decode Y_Mo_span.2.1 6 = .ok (.ifCond .eq 7, 3) := D_Mo_span_0 (6, .ifCond .eq 7, 3) (List.mem_of_getElem? (i := 4) rfl)
theorem d_Mo_span_9 : decode Y_Mo_span.2.1 9 = .ok (.iconst 1, 1) := D_Mo_span_0 (9, .iconst 1, 1) (List.mem_of_getElem? (i := 5) rfl)
theorem d_Mo_span_10 : decode Y_Mo_span.2.1 10 = .ok (.goto 25, 3) := D_Mo_span_0 (10, .goto 25, 3) (List.mem_of_getElem? (i := 6) rfl)
theorem d_Mo_span_13 : decode Y_Mo_span.2.1 13 = .ok (.iload_n 2, 1) := D_Mo_span_0 (13, .iload_n 2, 1) (List.mem_of_getElem? (i := 7) rfl)
theorem d_Mo_span_14 : decode Y_Mo_span.2.1 14 = .ok (.ifCond .lt 20, 3) := D_Mo_span_0 (14, .ifCond .lt 20, 3) (List.mem_of_getElem? (i := 8) rfl)
theorem d_Mo_span_17 : decode Y_Mo_span.2.1 17 = .ok (.iload_n 3, 1) := D_Mo_span_0 (17, .iload_n 3, 1) (List.mem_of_getElem? (i := 9) rfl)
theorem d_Mo_span_18 : decode Y_Mo_span.2.1 18 = .ok (.i2l, 1) := D_Mo_span_0 (18, .i2l, 1) (List.mem_of_getElem? (i := 10) rfl)
theorem d_Mo_span_19 : decode Y_Mo_span.2.1 19 = .ok (.iload_n 2, 1) := D_Mo_span_0 (19, .iload_n 2, 1) (List.mem_of_getElem? (i := 11) rfl)
theorem d_Mo_span_20 : decode Y_Mo_span.2.1 20 = .ok (.i2l, 1) := D_Mo_span_0 (20, .i2l, 1) (List.mem_of_getElem? (i := 12) rfl)
theorem d_Mo_span_21 : decode Y_Mo_span.2.1 21 = .ok (.ldc2_w 75, 3) := D_Mo_span_0 (21, .ldc2_w 75, 3) (List.mem_of_getElem? (i := 13) rfl)
theorem d_Mo_span_24 : decode Y_Mo_span.2.1 24 = .ok (.invokestatic 71, 3) := D_Mo_span_0 (24, .invokestatic 71, 3) (List.mem_of_getElem? (i := 14) rfl)
theorem d_Mo_span_27 : decode Y_Mo_span.2.1 27 = .ok (.ifCond .eq 7, 3) := D_Mo_span_0 (27, .ifCond .eq 7, 3) (List.mem_of_getElem? (i := 15) rfl)
theorem d_Mo_span_30 : decode Y_Mo_span.2.1 30 = .ok (.iconst 0, 1) := D_Mo_span_0 (30, .iconst 0, 1) (List.mem_of_getElem? (i := 16) rfl)
theorem d_Mo_span_31 : decode Y_Mo_span.2.1 31 = .ok (.goto 4, 3) := D_Mo_span_0 (31, .goto 4, 3) (List.mem_of_getElem? (i := 17) rfl)
theorem d_Mo_span_34 : decode Y_Mo_span.2.1 34 = .ok (.iconst 2, 1) := D_Mo_span_0 (34, .iconst 2, 1) (List.mem_of_getElem? (i := 18) rfl)
theorem d_Mo_span_35 : decode Y_Mo_span.2.1 35 = .ok (.putfield 62, 3) := D_Mo_span_0 (35, .putfield 62, 3) (List.mem_of_getElem? (i := 19) rfl)
theorem d_Mo_span_38 : decode Y_Mo_span.2.1 38 = .ok (.aload_n 0, 1) := D_Mo_span_0 (38, .aload_n 0, 1) (List.mem_of_getElem? (i := 20) rfl)
theorem d_Mo_span_39 : decode Y_Mo_span.2.1 39 = .ok (.getfield 62, 3) := D_Mo_span_0 (39, .getfield 62, 3) (List.mem_of_getElem? (i := 21) rfl)
theorem d_Mo_span_42 : decode Y_Mo_span.2.1 42 = .ok (.ifCond .ne 17, 3) := D_Mo_span_0 (42, .ifCond .ne 17, 3) (List.mem_of_getElem? (i := 22) rfl)
theorem d_Mo_span_45 : decode Y_Mo_span.2.1 45 = .ok (.aload_n 0, 1) := D_Mo_span_0 (45, .aload_n 0, 1) (List.mem_of_getElem? (i := 23) rfl)
theorem d_Mo_span_46 : decode Y_Mo_span.2.1 46 = .ok (.getfield 40, 3) := D_Mo_span_0 (46, .getfield 40, 3) (List.mem_of_getElem? (i := 24) rfl)
theorem d_Mo_span_49 : decode Y_Mo_span.2.1 49 = .ok (.iload_n 1, 1) := D_Mo_span_0 (49, .iload_n 1, 1) (List.mem_of_getElem? (i := 25) rfl)
theorem d_Mo_span_50 : decode Y_Mo_span.2.1 50 = .ok (.iload_n 2, 1) := D_Mo_span_0 (50, .iload_n 2, 1) (List.mem_of_getElem? (i := 26) rfl)
theorem d_Mo_span_51 : decode Y_Mo_span.2.1 51 = .ok (.iastore, 1) := D_Mo_span_0 (51, .iastore, 1) (List.mem_of_getElem? (i := 27) rfl)
theorem d_Mo_span_52 : decode Y_Mo_span.2.1 52 = .ok (.aload_n 0, 1) := D_Mo_span_0 (52, .aload_n 0, 1) (List.mem_of_getElem? (i := 28) rfl)
theorem d_Mo_span_53 : decode Y_Mo_span.2.1 53 = .ok (.getfield 43, 3) := D_Mo_span_0 (53, .getfield 43, 3) (List.mem_of_getElem? (i := 29) rfl)
theorem d_Mo_span_56 : decode Y_Mo_span.2.1 56 = .ok (.iload_n 1, 1) := D_Mo_span_0 (56, .iload_n 1, 1) (List.mem_of_getElem? (i := 30) rfl)
theorem d_Mo_span_57 : decode Y_Mo_span.2.1 57 = .ok (.iload_n 3, 1) := D_Mo_span_0 (57, .iload_n 3, 1) (List.mem_of_getElem? (i := 31) rfl)
theorem d_Mo_span_58 : decode Y_Mo_span.2.1 58 = .ok (.iastore, 1) := D_Mo_span_0 (58, .iastore, 1) (List.mem_of_getElem? (i := 32) rfl)
theorem d_Mo_span_59 : decode Y_Mo_span.2.1 59 = .ok (.return_, 1) := D_Mo_span_0 (59, .return_, 1) (List.mem_of_getElem? (i := 33) rfl)
theorem D_Mo_mix_0 : ∀ q ∈ ([(0, .aload_n 0, 1), (1, .aload_n 0, 1), (2, .iload_n 1, 1), (3, .invokevirtual 94, 3), (6, .ifCond .ne 11, 3), (9, .aload_n 0, 1), (10, .iload_n 2, 1), (11, .invokevirtual 94, 3), (14, .ifCond .eq 7, 3), (17, .iconst 1, 1), (18, .goto 38, 3), (21, .iload_n 1, 1), (22, .iload_n 2, 1), (23, .if_icmp .eq 15, 3), (26, .iload_n 3, 1), (27, .i2l, 1), (28, .lconst 1, 1), (29, .ldc2_w 84, 3), (32, .invokestatic 71, 3), (35, .ifCond .ne 7, 3), (38, .iconst 2, 1), (39, .goto 17, 3), (42, .aload_n 0, 1), (43, .iload_n 1, 1), (44, .iload_n 3, 1), (45, .invokevirtual 141, 3), (48, .ifCond .eq 7, 3), (51, .iconst 0, 1), (52, .goto 4, 3), (55, .iconst 3, 1), (56, .putfield 62, 3), (59, .aload_n 0, 1), (60, .getfield 62, 3), (63, .ifCond .le 5, 3), (66, .iconst 0, 1), (67, .ireturn, 1), (68, .aload_n 0, 1), (69, .iload_n 1, 1), (70, .iload_n 3, 1), (71, .invokevirtual 144, 3), (74, .aload_n 0, 1), (75, .getfield 32, 3), (78, .iload_n 2, 1), (79, .laload, 1), (80, .aload_n 0, 1), (81, .getfield 135, 3), (84, .ladd, 1), (85, .lstore 4, 2), (87, .lload 4, 2), (89, .ldc2_w 75, 3), (92, .lmul, 1), (93, .aload_n 0, 1), (94, .iload_n 2, 1), (95, .invokevirtual 86, 3), (98, .ldc2_w 75, 3), (101, .iload_n 3, 1), (102, .i2l, 1), (103, .lmul, 1), (104, .ladd, 1), (105, .ldiv, 1)] : List (Nat × Instr × Nat)), decode prog_8_method_30_code q.1 = .ok (q.2.1, q.2.2) := by decide +kernel
theorem d_Mo_mix_0 : decode Y_Mo_mix.2.1 0 = .ok (.aload_n 0, 1) := D_Mo_mix_0 (0, .aload_n 0, 1) (List.mem_of_getElem? (i := 0) rfl)
theorem d_Mo_mix_1 : decode Y_Mo_mix.2.1 1 = .ok (.aload_n 0, 1) := D_Mo_mix_0 (1, .aload_n 0, 1) (List.mem_of_getElem? (i := 1) rfl)
theorem d_Mo_mix_2 : decode Y_Mo_mix.2.1 2 = .ok (.iload_n 1, 1) := D_Mo_mix_0 (2, .iload_n 1, 1) (List.mem_of_getElem? (i := 2) rfl)
theorem d_Mo_mix_3 : decode Y_Mo_mix.2.1 3 = .ok (.invokevirtual 94, 3) := D_Mo_mix_0 (3, .invokevirtual 94, 3) (List.mem_of_getElem? (i := 3) rfl)
theorem d_Mo_mix_6 : decode Y_Mo_mix.2.1 6 = .ok (.ifCond .ne 11, 3) := D_Mo_mix_0 (6, .ifCond .ne 11, 3) (List.mem_of_getElem? (i := 4) rfl)
theorem d_Mo_mix_9 : decode Y_Mo_mix.2.1 9 = .ok (.aload_n 0, 1) := D_Mo_mix_0 (9, .aload_n 0, 1) (List.mem_of_getElem? (i := 5) rfl)
theorem d_Mo_mix_10 : decode Y_Mo_mix.2.1 10 = .ok (.iload_n 2, 1) := D_Mo_mix_0 (10, .iload_n 2, 1) (List.mem_of_getElem? (i := 6) rfl)
theorem d_Mo_mix_11 : decode Y_Mo_mix.2.1 11 = .ok (.invokevirtual 94, 3) := D_Mo_mix_0 (11, .invokevirtual 94, 3) (List.mem_of_getElem? (i := 7) rfl)
theorem d_Mo_mix_14 : decode Y_Mo_mix.2.1 14 = .ok (.ifCond .eq 7, 3) := D_Mo_mix_0 (14, .ifCond .eq 7, 3) (List.mem_of_getElem? (i := 8) rfl)
theorem d_Mo_mix_17 : decode Y_Mo_mix.2.1 17 = .ok (.iconst 1, 1) := D_Mo_mix_0 (17, .iconst 1, 1) (List.mem_of_getElem? (i := 9) rfl)
theorem d_Mo_mix_18 : decode Y_Mo_mix.2.1 18 = .ok (.goto 38, 3) := D_Mo_mix_0 (18, .goto 38, 3) (List.mem_of_getElem? (i := 10) rfl)
theorem d_Mo_mix_21 : decode Y_Mo_mix.2.1 21 = .ok (.iload_n 1, 1) := D_Mo_mix_0 (21, .iload_n 1, 1) (List.mem_of_getElem? (i := 11) rfl)
theorem d_Mo_mix_22 : decode Y_Mo_mix.2.1 22 = .ok (.iload_n 2, 1) := D_Mo_mix_0 (22, .iload_n 2, 1) (List.mem_of_getElem? (i := 12) rfl)
theorem d_Mo_mix_23 : decode Y_Mo_mix.2.1 23 = .ok (.if_icmp .eq 15, 3) := D_Mo_mix_0 (23, .if_icmp .eq 15, 3) (List.mem_of_getElem? (i := 13) rfl)
theorem d_Mo_mix_26 : decode Y_Mo_mix.2.1 26 = .ok (.iload_n 3, 1) := D_Mo_mix_0 (26, .iload_n 3, 1) (List.mem_of_getElem? (i := 14) rfl)
theorem d_Mo_mix_27 : decode Y_Mo_mix.2.1 27 = .ok (.i2l, 1) := D_Mo_mix_0 (27, .i2l, 1) (List.mem_of_getElem? (i := 15) rfl)
theorem d_Mo_mix_28 : decode Y_Mo_mix.2.1 28 = .ok (.lconst 1, 1) := D_Mo_mix_0 (28, .lconst 1, 1) (List.mem_of_getElem? (i := 16) rfl)
theorem d_Mo_mix_29 : decode Y_Mo_mix.2.1 29 = .ok (.ldc2_w 84, 3) := D_Mo_mix_0 (29, .ldc2_w 84, 3) (List.mem_of_getElem? (i := 17) rfl)
theorem d_Mo_mix_32 : decode Y_Mo_mix.2.1 32 = .ok (.invokestatic 71, 3) := D_Mo_mix_0 (32, .invokestatic 71, 3) (List.mem_of_getElem? (i := 18) rfl)
theorem d_Mo_mix_35 : decode Y_Mo_mix.2.1 35 = .ok (.ifCond .ne 7, 3) := D_Mo_mix_0 (35, .ifCond .ne 7, 3) (List.mem_of_getElem? (i := 19) rfl)
theorem d_Mo_mix_38 : decode Y_Mo_mix.2.1 38 = .ok (.iconst 2, 1) := D_Mo_mix_0 (38, .iconst 2, 1) (List.mem_of_getElem? (i := 20) rfl)
theorem d_Mo_mix_39 : decode Y_Mo_mix.2.1 39 = .ok (.goto 17, 3) := D_Mo_mix_0 (39, .goto 17, 3) (List.mem_of_getElem? (i := 21) rfl)
theorem d_Mo_mix_42 : decode Y_Mo_mix.2.1 42 = .ok (.aload_n 0, 1) := D_Mo_mix_0 (42, .aload_n 0, 1) (List.mem_of_getElem? (i := 22) rfl)
theorem d_Mo_mix_43 : decode Y_Mo_mix.2.1 43 = .ok (.iload_n 1, 1) := D_Mo_mix_0 (43, .iload_n 1, 1) (List.mem_of_getElem? (i := 23) rfl)
theorem d_Mo_mix_44 : decode Y_Mo_mix.2.1 44 = .ok (.iload_n 3, 1) := D_Mo_mix_0 (44, .iload_n 3, 1) (List.mem_of_getElem? (i := 24) rfl)
theorem d_Mo_mix_45 : decode Y_Mo_mix.2.1 45 = .ok (.invokevirtual 141, 3) := D_Mo_mix_0 (45, .invokevirtual 141, 3) (List.mem_of_getElem? (i := 25) rfl)
theorem d_Mo_mix_48 : decode Y_Mo_mix.2.1 48 = .ok (.ifCond .eq 7, 3) := D_Mo_mix_0 (48, .ifCond .eq 7, 3) (List.mem_of_getElem? (i := 26) rfl)
theorem d_Mo_mix_51 : decode Y_Mo_mix.2.1 51 = .ok (.iconst 0, 1) := D_Mo_mix_0 (51, .iconst 0, 1) (List.mem_of_getElem? (i := 27) rfl)
theorem d_Mo_mix_52 : decode Y_Mo_mix.2.1 52 = .ok (.goto 4, 3) := D_Mo_mix_0 (52, .goto 4, 3) (List.mem_of_getElem? (i := 28) rfl)
theorem d_Mo_mix_55 : decode Y_Mo_mix.2.1 55 = .ok (.iconst 3, 1) := D_Mo_mix_0 (55, .iconst 3, 1) (List.mem_of_getElem? (i := 29) rfl)
theorem d_Mo_mix_56 : decode Y_Mo_mix.2.1 56 = .ok (.putfield 62, 3) := D_Mo_mix_0 (56, .putfield 62, 3) (List.mem_of_getElem? (i := 30) rfl)
theorem d_Mo_mix_59 : decode Y_Mo_mix.2.1 59 = .ok (.aload_n 0, 1) := D_Mo_mix_0 (59, .aload_n 0, 1) (List.mem_of_getElem? (i := 31) rfl)
theorem d_Mo_mix_60 : decode Y_Mo_mix.2.1 60 = .ok (.getfield 62, 3) := D_Mo_mix_0 (60, .getfield 62, 3) (List.mem_of_getElem? (i := 32) rfl)
theorem d_Mo_mix_63 : decode Y_Mo_mix.2.1 63 = .ok (.ifCond .le 5, 3) := D_Mo_mix_0 (63, .ifCond .le 5, 3) (List.mem_of_getElem? (i := 33) rfl)
theorem d_Mo_mix_66 : decode Y_Mo_mix.2.1 66 = .ok (.iconst 0, 1) := D_Mo_mix_0 (66, .iconst 0, 1) (List.mem_of_getElem? (i := 34) rfl)
theorem d_Mo_mix_67 : decode Y_Mo_mix.2.1 67 = .ok (.ireturn, 1) := D_Mo_mix_0 (67, .ireturn, 1) (List.mem_of_getElem? (i := 35) rfl)
theorem d_Mo_mix_68 : decode Y_Mo_mix.2.1 68 = .ok (.aload_n 0, 1) := D_Mo_mix_0 (68, .aload_n 0, 1) (List.mem_of_getElem? (i := 36) rfl)
theorem d_Mo_mix_69 : decode Y_Mo_mix.2.1 69 = .ok (.iload_n 1, 1) := D_Mo_mix_0 (69, .iload_n 1, 1) (List.mem_of_getElem? (i := 37) rfl)
theorem d_Mo_mix_70 : decode Y_Mo_mix.2.1 70 = .ok (.iload_n 3, 1) := D_Mo_mix_0 (70, .iload_n 3, 1) (List.mem_of_getElem? (i := 38) rfl)
theorem d_Mo_mix_71 : decode Y_Mo_mix.2.1 71 = .ok (.invokevirtual 144, 3) := D_Mo_mix_0 (71, .invokevirtual 144, 3) (List.mem_of_getElem? (i := 39) rfl)
theorem d_Mo_mix_74 : decode Y_Mo_mix.2.1 74 = .ok (.aload_n 0, 1) := D_Mo_mix_0 (74, .aload_n 0, 1) (List.mem_of_getElem? (i := 40) rfl)
theorem d_Mo_mix_75 : decode Y_Mo_mix.2.1 75 = .ok (.getfield 32, 3) := D_Mo_mix_0 (75, .getfield 32, 3) (List.mem_of_getElem? (i := 41) rfl)
theorem d_Mo_mix_78 : decode Y_Mo_mix.2.1 78 = .ok (.iload_n 2, 1) := D_Mo_mix_0 (78, .iload_n 2, 1) (List.mem_of_getElem? (i := 42) rfl)
theorem d_Mo_mix_79 : decode Y_Mo_mix.2.1 79 = .ok (.laload, 1) := D_Mo_mix_0 (79, .laload, 1) (List.mem_of_getElem? (i := 43) rfl)
theorem d_Mo_mix_80 : decode Y_Mo_mix.2.1 80 = .ok (.aload_n 0, 1) := D_Mo_mix_0 (80, .aload_n 0, 1) (List.mem_of_getElem? (i := 44) rfl)
theorem d_Mo_mix_81 : decode Y_Mo_mix.2.1 81 = .ok (.getfield 135, 3) := D_Mo_mix_0 (81, .getfield 135, 3) (List.mem_of_getElem? (i := 45) rfl)
theorem d_Mo_mix_84 : decode Y_Mo_mix.2.1 84 = .ok (.ladd, 1) := D_Mo_mix_0 (84, .ladd, 1) (List.mem_of_getElem? (i := 46) rfl)
theorem d_Mo_mix_85 : decode Y_Mo_mix.2.1 85 = .ok (.lstore 4, 2) := D_Mo_mix_0 (85, .lstore 4, 2) (List.mem_of_getElem? (i := 47) rfl)
theorem d_Mo_mix_87 : decode Y_Mo_mix.2.1 87 = .ok (.lload 4, 2) := D_Mo_mix_0 (87, .lload 4, 2) (List.mem_of_getElem? (i := 48) rfl)
theorem d_Mo_mix_89 : decode Y_Mo_mix.2.1 89 = .ok (.ldc2_w 75, 3) := D_Mo_mix_0 (89, .ldc2_w 75, 3) (List.mem_of_getElem? (i := 49) rfl)
theorem d_Mo_mix_92 : decode Y_Mo_mix.2.1 92 = .ok (.lmul, 1) := D_Mo_mix_0 (92, .lmul, 1) (List.mem_of_getElem? (i := 50) rfl)
theorem d_Mo_mix_93 : decode Y_Mo_mix.2.1 93 = .ok (.aload_n 0, 1) := D_Mo_mix_0 (93, .aload_n 0, 1) (List.mem_of_getElem? (i := 51) rfl)
theorem d_Mo_mix_94 : decode Y_Mo_mix.2.1 94 = .ok (.iload_n 2, 1) := D_Mo_mix_0 (94, .iload_n 2, 1) (List.mem_of_getElem? (i := 52) rfl)
theorem d_Mo_mix_95 : decode Y_Mo_mix.2.1 95 = .ok (.invokevirtual 86, 3) := D_Mo_mix_0 (95, .invokevirtual 86, 3) (List.mem_of_getElem? (i := 53) rfl)
theorem d_Mo_mix_98 : decode Y_Mo_mix.2.1 98 = .ok (.ldc2_w 75, 3) := D_Mo_mix_0 (98, .ldc2_w 75, 3) (List.mem_of_getElem? (i := 54) rfl)
theorem d_Mo_mix_101 : decode Y_Mo_mix.2.1 101 = .ok (.iload_n 3, 1) := D_Mo_mix_0 (101, .iload_n 3, 1) (List.mem_of_getElem? (i := 55) rfl)
theorem d_Mo_mix_102 : decode Y_Mo_mix.2.1 102 = .ok (.i2l, 1) := D_Mo_mix_0 (102, .i2l, 1) (List.mem_of_getElem? (i := 56) rfl)
theorem d_Mo_mix_103 : decode Y_Mo_mix.2.1 103 = .ok (.lmul, 1) := D_Mo_mix_0 (103, .lmul, 1) (List.mem_of_getElem? (i := 57) rfl)
theorem d_Mo_mix_104 : decode Y_Mo_mix.2.1 104 = .ok (.ladd, 1) := D_Mo_mix_0 (104, .ladd, 1) (List.mem_of_getElem? (i := 58) rfl)
theorem d_Mo_mix_105 : decode Y_Mo_mix.2.1 105 = .ok (.ldiv, 1) := D_Mo_mix_0 (105, .ldiv, 1) (List.mem_of_getElem? (i := 59) rfl)
theorem D_Mo_mix_1 : ∀ q ∈ ([(106, .lstore 6, 2), (108, .lload 6, 2), (110, .aload_n 0, 1), (111, .getfield 40, 3), (114, .iload_n 2, 1), (115, .iaload, 1), (116, .i2l, 1), (117, .lcmp, 1), (118, .ifCond .lt 26, 3), (121, .lload 6, 2), (123, .aload_n 0, 1), (124, .getfield 43, 3), (127, .iload_n 2, 1), (128, .iaload, 1), (129, .i2l, 1), (130, .lcmp, 1), (131, .ifCond .gt 13, 3), (134, .aload_n 0, 1), (135, .iload_n 2, 1), (136, .iload_n 3, 1), (137, .i2l, 1), (138, .invokevirtual 102, 3), (141, .ifCond .ne 5, 3), (144, .iconst 0, 1), (145, .ireturn, 1), (146, .aload_n 0, 1), (147, .iload_n 1, 1), (148, .invokevirtual 148, 3), (151, .aload_n 0, 1), (152, .getfield 32, 3), (155, .iload_n 2, 1), (156, .lload 4, 2), (158, .lastore, 1), (159, .aload_n 0, 1), (160, .getfield 29, 3), (163, .iload_n 2, 1), (164, .aload_n 0, 1), (165, .getfield 29, 3), (168, .iload_n 2, 1), (169, .laload, 1), (170, .aload_n 0, 1), (171, .getfield 138, 3), (174, .ladd, 1), (175, .lastore, 1), (176, .iconst 1, 1), (177, .ireturn, 1)] : List (Nat × Instr × Nat)), decode prog_8_method_30_code q.1 = .ok (q.2.1, q.2.2) := by decide +kernel
theorem d_Mo_mix_106 : decode Y_Mo_mix.2.1 106 = .ok (.lstore 6, 2) := D_Mo_mix_1 (106, .lstore 6, 2) (List.mem_of_getElem? (i := 0) rfl)
theorem d_Mo_mix_108 : decode Y_Mo_mix.2.1 108 = .ok (.lload 6, 2) := D_Mo_mix_1 (108, .lload 6, 2) (List.mem_of_getElem? (i := 1) rfl)
theorem d_Mo_mix_110 : decode Y_Mo_mix.2.1 110 = .ok (.aload_n 0, 1) := D_Mo_mix_1 (110, .aload_n 0, 1) (List.mem_of_getElem? (i := 2) rfl)
theorem d_Mo_mix_111 : decode Y_Mo_mix.2.1 111 = .ok (.getfield 40, 3) := D_Mo_mix_1 (111, .getfield 40, 3) (List.mem_of_getElem? (i := 3) rfl)
theorem d_Mo_mix_114 : decode Y_Mo_mix.2.1 114 = .ok (.iload_n 2, 1) := D_Mo_mix_1 (114, .iload_n 2, 1) (List.mem_of_getElem? (i := 4) rfl)
theorem d_Mo_mix_115 : decode Y_Mo_mix.2.1 115 = .ok (.iaload, 1) := D_Mo_mix_1 (115, .iaload, 1) (List.mem_of_getElem? (i := 5) rfl)
theorem d_Mo_mix_116 : decode Y_Mo_mix.2.1 116 = .ok (.i2l, 1) := D_Mo_mix_1 (116, .i2l, 1) (List.mem_of_getElem? (i := 6) rfl)
theorem d_Mo_mix_117 : decode Y_Mo_mix.2.1 117 = .ok (.lcmp, 1) := D_Mo_mix_1 (117, .lcmp, 1) (List.mem_of_getElem? (i := 7) rfl)
theorem d_Mo_mix_118 : decode Y_Mo_mix.2.1 118 = .ok (.ifCond .lt 26, 3) := D_Mo_mix_1 (118, .ifCond .lt 26, 3) (List.mem_of_getElem? (i := 8) rfl)
theorem d_Mo_mix_121 : decode Y_Mo_mix.2.1 121 = .ok (.lload 6, 2) := D_Mo_mix_1 (121, .lload 6, 2) (List.mem_of_getElem? (i := 9) rfl)
theorem d_Mo_mix_123 : decode Y_Mo_mix.2.1 123 = .ok (.aload_n 0, 1) := D_Mo_mix_1 (123, .aload_n 0, 1) (List.mem_of_getElem? (i := 10) rfl)
theorem d_Mo_mix_124 : decode Y_Mo_mix.2.1 124 = .ok (.getfield 43, 3) := D_Mo_mix_1 (124, .getfield 43, 3) (List.mem_of_getElem? (i := 11) rfl)
theorem d_Mo_mix_127 : decode Y_Mo_mix.2.1 127 = .ok (.iload_n 2, 1) := D_Mo_mix_1 (127, .iload_n 2, 1) (List.mem_of_getElem? (i := 12) rfl)
theorem d_Mo_mix_128 : decode Y_Mo_mix.2.1 128 = .ok (.iaload, 1) := D_Mo_mix_1 (128, .iaload, 1) (List.mem_of_getElem? (i := 13) rfl)
theorem d_Mo_mix_129 : decode Y_Mo_mix.2.1 129 = .ok (.i2l, 1) := D_Mo_mix_1 (129, .i2l, 1) (List.mem_of_getElem? (i := 14) rfl)
theorem d_Mo_mix_130 : decode Y_Mo_mix.2.1 130 = .ok (.lcmp, 1) := D_Mo_mix_1 (130, .lcmp, 1) (List.mem_of_getElem? (i := 15) rfl)
theorem d_Mo_mix_131 : decode Y_Mo_mix.2.1 131 = .ok (.ifCond .gt 13, 3) := D_Mo_mix_1 (131, .ifCond .gt 13, 3) (List.mem_of_getElem? (i := 16) rfl)
theorem d_Mo_mix_134 : decode Y_Mo_mix.2.1 134 = .ok (.aload_n 0, 1) := D_Mo_mix_1 (134, .aload_n 0, 1) (List.mem_of_getElem? (i := 17) rfl)
theorem d_Mo_mix_135 : decode Y_Mo_mix.2.1 135 = .ok (.iload_n 2, 1) := D_Mo_mix_1 (135, .iload_n 2, 1) (List.mem_of_getElem? (i := 18) rfl)
theorem d_Mo_mix_136 : decode Y_Mo_mix.2.1 136 = .ok (.iload_n 3, 1) := D_Mo_mix_1 (136, .iload_n 3, 1) (List.mem_of_getElem? (i := 19) rfl)
theorem d_Mo_mix_137 : decode Y_Mo_mix.2.1 137 = .ok (.i2l, 1) := D_Mo_mix_1 (137, .i2l, 1) (List.mem_of_getElem? (i := 20) rfl)
theorem d_Mo_mix_138 : decode Y_Mo_mix.2.1 138 = .ok (.invokevirtual 102, 3) := D_Mo_mix_1 (138, .invokevirtual 102, 3) (List.mem_of_getElem? (i := 21) rfl)
theorem d_Mo_mix_141 : decode Y_Mo_mix.2.1 141 = .ok (.ifCond .ne 5, 3) := D_Mo_mix_1 (141, .ifCond .ne 5, 3) (List.mem_of_getElem? (i := 22) rfl)
theorem d_Mo_mix_144 : decode Y_Mo_mix.2.1 144 = .ok (.iconst 0, 1) := D_Mo_mix_1 (144, .iconst 0, 1) (List.mem_of_getElem? (i := 23) rfl)
theorem d_Mo_mix_145 : decode Y_Mo_mix.2.1 145 = .ok (.ireturn, 1) := D_Mo_mix_1 (145, .ireturn, 1) (List.mem_of_getElem? (i := 24) rfl)
theorem d_Mo_mix_146 : decode Y_Mo_mix.2.1 146 = .ok (.aload_n 0, 1) := D_Mo_mix_1 (146, .aload_n 0, 1) (List.mem_of_getElem? (i := 25) rfl)
theorem d_Mo_mix_147 : decode Y_Mo_mix.2.1 147 = .ok (.iload_n 1, 1) := D_Mo_mix_1 (147, .iload_n 1, 1) (List.mem_of_getElem? (i := 26) rfl)
theorem d_Mo_mix_148 : decode Y_Mo_mix.2.1 148 = .ok (.invokevirtual 148, 3) := D_Mo_mix_1 (148, .invokevirtual 148, 3) (List.mem_of_getElem? (i := 27) rfl)
theorem d_Mo_mix_151 : decode Y_Mo_mix.2.1 151 = .ok (.aload_n 0, 1) := D_Mo_mix_1 (151, .aload_n 0, 1) (List.mem_of_getElem? (i := 28) rfl)
theorem d_Mo_mix_152 : decode Y_Mo_mix.2.1 152 = .ok (.getfield 32, 3) := D_Mo_mix_1 (152, .getfield 32, 3) (List.mem_of_getElem? (i := 29) rfl)
theorem d_Mo_mix_155 : decode Y_Mo_mix.2.1 155 = .ok (.iload_n 2, 1) := D_Mo_mix_1 (155, .iload_n 2, 1) (List.mem_of_getElem? (i := 30) rfl)
theorem d_Mo_mix_156 : decode Y_Mo_mix.2.1 156 = .ok (.lload 4, 2) := D_Mo_mix_1 (156, .lload 4, 2) (List.mem_of_getElem? (i := 31) rfl)
theorem d_Mo_mix_158 : decode Y_Mo_mix.2.1 158 = .ok (.lastore, 1) := D_Mo_mix_1 (158, .lastore, 1) (List.mem_of_getElem? (i := 32) rfl)
theorem d_Mo_mix_159 : decode Y_Mo_mix.2.1 159 = .ok (.aload_n 0, 1) := D_Mo_mix_1 (159, .aload_n 0, 1) (List.mem_of_getElem? (i := 33) rfl)
theorem d_Mo_mix_160 : decode Y_Mo_mix.2.1 160 = .ok (.getfield 29, 3) := D_Mo_mix_1 (160, .getfield 29, 3) (List.mem_of_getElem? (i := 34) rfl)
theorem d_Mo_mix_163 : decode Y_Mo_mix.2.1 163 = .ok (.iload_n 2, 1) := D_Mo_mix_1 (163, .iload_n 2, 1) (List.mem_of_getElem? (i := 35) rfl)
theorem d_Mo_mix_164 : decode Y_Mo_mix.2.1 164 = .ok (.aload_n 0, 1) := D_Mo_mix_1 (164, .aload_n 0, 1) (List.mem_of_getElem? (i := 36) rfl)
theorem d_Mo_mix_165 : decode Y_Mo_mix.2.1 165 = .ok (.getfield 29, 3) := D_Mo_mix_1 (165, .getfield 29, 3) (List.mem_of_getElem? (i := 37) rfl)
theorem d_Mo_mix_168 : decode Y_Mo_mix.2.1 168 = .ok (.iload_n 2, 1) := D_Mo_mix_1 (168, .iload_n 2, 1) (List.mem_of_getElem? (i := 38) rfl)
theorem d_Mo_mix_169 : decode Y_Mo_mix.2.1 169 = .ok (.laload, 1) := D_Mo_mix_1 (169, .laload, 1) (List.mem_of_getElem? (i := 39) rfl)
theorem d_Mo_mix_170 : decode Y_Mo_mix.2.1 170 = .ok (.aload_n 0, 1) := D_Mo_mix_1 (170, .aload_n 0, 1) (List.mem_of_getElem? (i := 40) rfl)
theorem d_Mo_mix_171 : decode Y_Mo_mix.2.1 171 = .ok (.getfield 138, 3) := D_Mo_mix_1 (171, .getfield 138, 3) (List.mem_of_getElem? (i := 41) rfl)
theorem d_Mo_mix_174 : decode Y_Mo_mix.2.1 174 = .ok (.ladd, 1) := D_Mo_mix_1 (174, .ladd, 1) (List.mem_of_getElem? (i := 42) rfl)
theorem d_Mo_mix_175 : decode Y_Mo_mix.2.1 175 = .ok (.lastore, 1) := D_Mo_mix_1 (175, .lastore, 1) (List.mem_of_getElem? (i := 43) rfl)
theorem d_Mo_mix_176 : decode Y_Mo_mix.2.1 176 = .ok (.iconst 1, 1) := D_Mo_mix_1 (176, .iconst 1, 1) (List.mem_of_getElem? (i := 44) rfl)
theorem d_Mo_mix_177 : decode Y_Mo_mix.2.1 177 = .ok (.ireturn, 1) := D_Mo_mix_1 (177, .ireturn, 1) (List.mem_of_getElem? (i := 45) rfl)
theorem D_Mo_carbon_0 : ∀ q ∈ ([(0, .aload_n 0, 1), (1, .iconst 0, 1), (2, .putfield 62, 3), (5, .lconst 0, 1), (6, .lstore_n 1, 1), (7, .iconst 0, 1), (8, .istore_n 3, 1), (9, .iload_n 3, 1), (10, .aload_n 0, 1), (11, .getfield 66, 3), (14, .if_icmp .ge 18, 3), (17, .lload_n 1, 1), (18, .aload_n 0, 1), (19, .getfield 29, 3), (22, .iload_n 3, 1), (23, .laload, 1), (24, .ladd, 1), (25, .lstore_n 1, 1), (26, .iinc 3 1, 3), (29, .goto (-20), 3), (32, .lload_n 1, 1), (33, .ldc2_w 158, 3), (36, .ldiv, 1), (37, .lreturn, 1)] : List (Nat × Instr × Nat)), decode prog_8_method_31_code q.1 = .ok (q.2.1, q.2.2) := by decide +kernel
theorem d_Mo_carbon_0 : decode Y_Mo_carbon.2.1 0 = .ok (.aload_n 0, 1) := D_Mo_carbon_0 (0, .aload_n 0, 1) (List.mem_of_getElem? (i := 0) rfl)
theorem d_Mo_carbon_1 : decode Y_Mo_carbon.2.1 1 = .ok (.iconst 0, 1) := D_Mo_carbon_0 (1, .iconst 0, 1) (List.mem_of_getElem? (i := 1) rfl)
theorem d_Mo_carbon_2 : decode Y_Mo_carbon.2.1 2 = .ok (.putfield 62, 3) := D_Mo_carbon_0 (2, .putfield 62, 3) (List.mem_of_getElem? (i := 2) rfl)
theorem d_Mo_carbon_5 : decode Y_Mo_carbon.2.1 5 = .ok (.lconst 0, 1) := D_Mo_carbon_0 (5, .lconst 0, 1) (List.mem_of_getElem? (i := 3) rfl)
theorem d_Mo_carbon_6 : decode Y_Mo_carbon.2.1 6 = .ok (.lstore_n 1, 1) := D_Mo_carbon_0 (6, .lstore_n 1, 1) (List.mem_of_getElem? (i := 4) rfl)
theorem d_Mo_carbon_7 : decode Y_Mo_carbon.2.1 7 = .ok (.iconst 0, 1) := D_Mo_carbon_0 (7, .iconst 0, 1) (List.mem_of_getElem? (i := 5) rfl)
theorem d_Mo_carbon_8 : decode Y_Mo_carbon.2.1 8 = .ok (.istore_n 3, 1) := D_Mo_carbon_0 (8, .istore_n 3, 1) (List.mem_of_getElem? (i := 6) rfl)
theorem d_Mo_carbon_9 : decode Y_Mo_carbon.2.1 9 = .ok (.iload_n 3, 1) := D_Mo_carbon_0 (9, .iload_n 3, 1) (List.mem_of_getElem? (i := 7) rfl)
theorem d_Mo_carbon_10 : decode Y_Mo_carbon.2.1 10 = .ok (.aload_n 0, 1) := D_Mo_carbon_0 (10, .aload_n 0, 1) (List.mem_of_getElem? (i := 8) rfl)
theorem d_Mo_carbon_11 : decode Y_Mo_carbon.2.1 11 = .ok (.getfield 66, 3) := D_Mo_carbon_0 (11, .getfield 66, 3) (List.mem_of_getElem? (i := 9) rfl)
theorem d_Mo_carbon_14 : decode Y_Mo_carbon.2.1 14 = .ok (.if_icmp .ge 18, 3) := D_Mo_carbon_0 (14, .if_icmp .ge 18, 3) (List.mem_of_getElem? (i := 10) rfl)
theorem d_Mo_carbon_17 : decode Y_Mo_carbon.2.1 17 = .ok (.lload_n 1, 1) := D_Mo_carbon_0 (17, .lload_n 1, 1) (List.mem_of_getElem? (i := 11) rfl)
theorem d_Mo_carbon_18 : decode Y_Mo_carbon.2.1 18 = .ok (.aload_n 0, 1) := D_Mo_carbon_0 (18, .aload_n 0, 1) (List.mem_of_getElem? (i := 12) rfl)
theorem d_Mo_carbon_19 : decode Y_Mo_carbon.2.1 19 = .ok (.getfield 29, 3) := D_Mo_carbon_0 (19, .getfield 29, 3) (List.mem_of_getElem? (i := 13) rfl)
theorem d_Mo_carbon_22 : decode Y_Mo_carbon.2.1 22 = .ok (.iload_n 3, 1) := D_Mo_carbon_0 (22, .iload_n 3, 1) (List.mem_of_getElem? (i := 14) rfl)
theorem d_Mo_carbon_23 : decode Y_Mo_carbon.2.1 23 = .ok (.laload, 1) := D_Mo_carbon_0 (23, .laload, 1) (List.mem_of_getElem? (i := 15) rfl)
theorem d_Mo_carbon_24 : decode Y_Mo_carbon.2.1 24 = .ok (.ladd, 1) := D_Mo_carbon_0 (24, .ladd, 1) (List.mem_of_getElem? (i := 16) rfl)
theorem d_Mo_carbon_25 : decode Y_Mo_carbon.2.1 25 = .ok (.lstore_n 1, 1) := D_Mo_carbon_0 (25, .lstore_n 1, 1) (List.mem_of_getElem? (i := 17) rfl)
theorem d_Mo_carbon_26 : decode Y_Mo_carbon.2.1 26 = .ok (.iinc 3 1, 3) := D_Mo_carbon_0 (26, .iinc 3 1, 3) (List.mem_of_getElem? (i := 18) rfl)
theorem d_Mo_carbon_29 : decode Y_Mo_carbon.2.1 29 = .ok (.goto (-20), 3) := D_Mo_carbon_0 (29, .goto (-20), 3) (List.mem_of_getElem? (i := 19) rfl)
theorem d_Mo_carbon_32 : decode Y_Mo_carbon.2.1 32 = .ok (.lload_n 1, 1) := D_Mo_carbon_0 (32, .lload_n 1, 1) (List.mem_of_getElem? (i := 20) rfl)
theorem d_Mo_carbon_33 : decode Y_Mo_carbon.2.1 33 = .ok (.ldc2_w 158, 3) := D_Mo_carbon_0 (33, .ldc2_w 158, 3) (List.mem_of_getElem? (i := 21) rfl)
theorem d_Mo_carbon_36 : decode Y_Mo_carbon.2.1 36 = .ok (.ldiv, 1) := D_Mo_carbon_0 (36, .ldiv, 1) (List.mem_of_getElem? (i := 22) rfl)
theorem d_Mo_carbon_37 : decode Y_Mo_carbon.2.1 37 = .ok (.lreturn, 1) := D_Mo_carbon_0 (37, .lreturn, 1) (List.mem_of_getElem? (i := 23) rfl)
end
section
theorem D_La_share_0 : ∀ q ∈ ([(0, .aload_n 0, 1), (1, .iload_n 1, 1), (2, .iload_n 2, 1), (3, .iload_n 3, 1), (4, .invokevirtual 7, 3), (7, .goto 11, 3), (10, .astore 4, 2), (12, .iconst 1, 1), (13, .ireturn, 1), (14, .astore 4, 2), (16, .iconst 2, 1), (17, .ireturn, 1), (18, .iconst 0, 1), (19, .ireturn, 1)] : List (Nat × Instr × Nat)), decode method_3_code q.1 = .ok (q.2.1, q.2.2) := by decide +kernel
theorem d_La_share_0 : decode Y_La_share.2.1 0 = .ok (.aload_n 0, 1) := D_La_share_0 (0, .aload_n 0, 1) (List.mem_of_getElem? (i := 0) rfl)
theorem d_La_share_1 : decode Y_La_share.2.1 1 = .ok (.iload_n 1, 1) := D_La_share_0 (1, .iload_n 1, 1) (List.mem_of_getElem? (i := 1) rfl)
theorem d_La_share_2 : decode Y_La_share.2.1 2 = .ok (.iload_n 2, 1) := D_La_share_0 (2, .iload_n 2, 1) (List.mem_of_getElem? (i := 2) rfl)
theorem d_La_share_3 : decode Y_La_share.2.1 3 = .ok (.iload_n 3, 1) := D_La_share_0 (3, .iload_n 3, 1) (List.mem_of_getElem? (i := 3) rfl)
theorem d_La_share_4 : decode Y_La_share.2.1 4 = .ok (.invokevirtual 7, 3) := D_La_share_0 (4, .invokevirtual 7, 3) (List.mem_of_getElem? (i := 4) rfl)
theorem d_La_share_7 : decode Y_La_share.2.1 7 = .ok (.goto 11, 3) := D_La_share_0 (7, .goto 11, 3) (List.mem_of_getElem? (i := 5) rfl)
theorem d_La_share_10 : decode Y_La_share.2.1 10 = .ok (.astore 4, 2) := D_La_share_0 (10, .astore 4, 2) (List.mem_of_getElem? (i := 6) rfl)
theorem d_La_share_12 : decode Y_La_share.2.1 12 = .ok (.iconst 1, 1) := D_La_share_0 (12, .iconst 1, 1) (List.mem_of_getElem? (i := 7) rfl)
theorem d_La_share_13 : decode Y_La_share.2.1 13 = .ok (.ireturn, 1) := D_La_share_0 (13, .ireturn, 1) (List.mem_of_getElem? (i := 8) rfl)
theorem d_La_share_14 : decode Y_La_share.2.1 14 = .ok (.astore 4, 2) := D_La_share_0 (14, .astore 4, 2) (List.mem_of_getElem? (i := 9) rfl)
theorem d_La_share_16 : decode Y_La_share.2.1 16 = .ok (.iconst 2, 1) := D_La_share_0 (16, .iconst 2, 1) (List.mem_of_getElem? (i := 10) rfl)
theorem d_La_share_17 : decode Y_La_share.2.1 17 = .ok (.ireturn, 1) := D_La_share_0 (17, .ireturn, 1) (List.mem_of_getElem? (i := 11) rfl)
theorem d_La_share_18 : decode Y_La_share.2.1 18 = .ok (.iconst 0, 1) := D_La_share_0 (18, .iconst 0, 1) (List.mem_of_getElem? (i := 12) rfl)
theorem d_La_share_19 : decode Y_La_share.2.1 19 = .ok (.ireturn, 1) := D_La_share_0 (19, .ireturn, 1) (List.mem_of_getElem? (i := 13) rfl)
theorem D_La_log_0 : ∀ q ∈ ([(0, .aload 4, 2), (2, .iconst 0, 1), (3, .aload_n 0, 1), (4, .iload_n 1, 1), (5, .iload_n 2, 1), (6, .iload_n 3, 1), (7, .invokevirtual 17, 3), (10, .i2l, 1), (11, .lastore, 1), (12, .goto 7, 3), (15, .astore 5, 2), (17, .iconst 1, 1), (18, .ireturn, 1), (19, .iconst 0, 1), (20, .ireturn, 1)] : List (Nat × Instr × Nat)), decode method_4_code q.1 = .ok (q.2.1, q.2.2) := by decide +kernel
theorem d_La_log_0 : decode Y_La_log.2.1 0 = .ok (.aload 4, 2) := D_La_log_0 (0, .aload 4, 2) (List.mem_of_getElem? (i := 0) rfl)
theorem d_La_log_2 : decode Y_La_log.2.1 2 = .ok (.iconst 0, 1) := D_La_log_0 (2, .iconst 0, 1) (List.mem_of_getElem? (i := 1) rfl)
theorem d_La_log_3 : decode Y_La_log.2.1 3 = .ok (.aload_n 0, 1) := D_La_log_0 (3, .aload_n 0, 1) (List.mem_of_getElem? (i := 2) rfl)
theorem d_La_log_4 : decode Y_La_log.2.1 4 = .ok (.iload_n 1, 1) := D_La_log_0 (4, .iload_n 1, 1) (List.mem_of_getElem? (i := 3) rfl)
theorem d_La_log_5 : decode Y_La_log.2.1 5 = .ok (.iload_n 2, 1) := D_La_log_0 (5, .iload_n 2, 1) (List.mem_of_getElem? (i := 4) rfl)
theorem d_La_log_6 : decode Y_La_log.2.1 6 = .ok (.iload_n 3, 1) := D_La_log_0 (6, .iload_n 3, 1) (List.mem_of_getElem? (i := 5) rfl)
theorem d_La_log_7 : decode Y_La_log.2.1 7 = .ok (.invokevirtual 17, 3) := D_La_log_0 (7, .invokevirtual 17, 3) (List.mem_of_getElem? (i := 6) rfl)
theorem d_La_log_10 : decode Y_La_log.2.1 10 = .ok (.i2l, 1) := D_La_log_0 (10, .i2l, 1) (List.mem_of_getElem? (i := 7) rfl)
theorem d_La_log_11 : decode Y_La_log.2.1 11 = .ok (.lastore, 1) := D_La_log_0 (11, .lastore, 1) (List.mem_of_getElem? (i := 8) rfl)
theorem d_La_log_12 : decode Y_La_log.2.1 12 = .ok (.goto 7, 3) := D_La_log_0 (12, .goto 7, 3) (List.mem_of_getElem? (i := 9) rfl)
theorem d_La_log_15 : decode Y_La_log.2.1 15 = .ok (.astore 5, 2) := D_La_log_0 (15, .astore 5, 2) (List.mem_of_getElem? (i := 10) rfl)
theorem d_La_log_17 : decode Y_La_log.2.1 17 = .ok (.iconst 1, 1) := D_La_log_0 (17, .iconst 1, 1) (List.mem_of_getElem? (i := 11) rfl)
theorem d_La_log_18 : decode Y_La_log.2.1 18 = .ok (.ireturn, 1) := D_La_log_0 (18, .ireturn, 1) (List.mem_of_getElem? (i := 12) rfl)
theorem d_La_log_19 : decode Y_La_log.2.1 19 = .ok (.iconst 0, 1) := D_La_log_0 (19, .iconst 0, 1) (List.mem_of_getElem? (i := 13) rfl)
theorem d_La_log_20 : decode Y_La_log.2.1 20 = .ok (.ireturn, 1) := D_La_log_0 (20, .ireturn, 1) (List.mem_of_getElem? (i := 14) rfl)
theorem D_La_volume_0 : ∀ q ∈ ([(0, .aload_n 3, 1), (1, .iconst 0, 1), (2, .aload_n 0, 1), (3, .iload_n 1, 1), (4, .iload_n 2, 1), (5, .invokevirtual 21, 3), (8, .lastore, 1), (9, .goto 11, 3), (12, .astore 4, 2), (14, .iconst 1, 1), (15, .ireturn, 1), (16, .astore 4, 2), (18, .iconst 2, 1), (19, .ireturn, 1), (20, .iconst 0, 1), (21, .ireturn, 1)] : List (Nat × Instr × Nat)), decode method_5_code q.1 = .ok (q.2.1, q.2.2) := by decide +kernel
theorem d_La_volume_0 : decode Y_La_volume.2.1 0 = .ok (.aload_n 3, 1) := D_La_volume_0 (0, .aload_n 3, 1) (List.mem_of_getElem? (i := 0) rfl)
theorem d_La_volume_1 : decode Y_La_volume.2.1 1 = .ok (.iconst 0, 1) := D_La_volume_0 (1, .iconst 0, 1) (List.mem_of_getElem? (i := 1) rfl)
theorem d_La_volume_2 : decode Y_La_volume.2.1 2 = .ok (.aload_n 0, 1) := D_La_volume_0 (2, .aload_n 0, 1) (List.mem_of_getElem? (i := 2) rfl)
theorem d_La_volume_3 : decode Y_La_volume.2.1 3 = .ok (.iload_n 1, 1) := D_La_volume_0 (3, .iload_n 1, 1) (List.mem_of_getElem? (i := 3) rfl)
theorem d_La_volume_4 : decode Y_La_volume.2.1 4 = .ok (.iload_n 2, 1) := D_La_volume_0 (4, .iload_n 2, 1) (List.mem_of_getElem? (i := 4) rfl)
theorem d_La_volume_5 : decode Y_La_volume.2.1 5 = .ok (.invokevirtual 21, 3) := D_La_volume_0 (5, .invokevirtual 21, 3) (List.mem_of_getElem? (i := 5) rfl)
theorem d_La_volume_8 : decode Y_La_volume.2.1 8 = .ok (.lastore, 1) := D_La_volume_0 (8, .lastore, 1) (List.mem_of_getElem? (i := 6) rfl)
theorem d_La_volume_9 : decode Y_La_volume.2.1 9 = .ok (.goto 11, 3) := D_La_volume_0 (9, .goto 11, 3) (List.mem_of_getElem? (i := 7) rfl)
theorem d_La_volume_12 : decode Y_La_volume.2.1 12 = .ok (.astore 4, 2) := D_La_volume_0 (12, .astore 4, 2) (List.mem_of_getElem? (i := 8) rfl)
theorem d_La_volume_14 : decode Y_La_volume.2.1 14 = .ok (.iconst 1, 1) := D_La_volume_0 (14, .iconst 1, 1) (List.mem_of_getElem? (i := 9) rfl)
theorem d_La_volume_15 : decode Y_La_volume.2.1 15 = .ok (.ireturn, 1) := D_La_volume_0 (15, .ireturn, 1) (List.mem_of_getElem? (i := 10) rfl)
theorem d_La_volume_16 : decode Y_La_volume.2.1 16 = .ok (.astore 4, 2) := D_La_volume_0 (16, .astore 4, 2) (List.mem_of_getElem? (i := 11) rfl)
theorem d_La_volume_18 : decode Y_La_volume.2.1 18 = .ok (.iconst 2, 1) := D_La_volume_0 (18, .iconst 2, 1) (List.mem_of_getElem? (i := 12) rfl)
theorem d_La_volume_19 : decode Y_La_volume.2.1 19 = .ok (.ireturn, 1) := D_La_volume_0 (19, .ireturn, 1) (List.mem_of_getElem? (i := 13) rfl)
theorem d_La_volume_20 : decode Y_La_volume.2.1 20 = .ok (.iconst 0, 1) := D_La_volume_0 (20, .iconst 0, 1) (List.mem_of_getElem? (i := 14) rfl)
theorem d_La_volume_21 : decode Y_La_volume.2.1 21 = .ok (.ireturn, 1) := D_La_volume_0 (21, .ireturn, 1) (List.mem_of_getElem? (i := 15) rfl)
theorem D_La_boards_0 : ∀ q ∈ ([(0, .aload_n 2, 1), (1, .iconst 0, 1), (2, .aload_n 0, 1), (3, .iload_n 1, 1), (4, .invokevirtual 27, 3), (7, .lastore, 1), (8, .goto 6, 3), (11, .astore_n 3, 1), (12, .iconst 1, 1), (13, .ireturn, 1), (14, .iconst 0, 1), (15, .ireturn, 1)] : List (Nat × Instr × Nat)), decode method_6_code q.1 = .ok (q.2.1, q.2.2) := by decide +kernel
theorem d_La_boards_0 : decode Y_La_boards.2.1 0 = .ok (.aload_n 2, 1) := D_La_boards_0 (0, .aload_n 2, 1) (List.mem_of_getElem? (i := 0) rfl)
theorem d_La_boards_1 : decode Y_La_boards.2.1 1 = .ok (.iconst 0, 1) := D_La_boards_0 (1, .iconst 0, 1) (List.mem_of_getElem? (i := 1) rfl)
theorem d_La_boards_2 : decode Y_La_boards.2.1 2 = .ok (.aload_n 0, 1) := D_La_boards_0 (2, .aload_n 0, 1) (List.mem_of_getElem? (i := 2) rfl)
theorem d_La_boards_3 : decode Y_La_boards.2.1 3 = .ok (.iload_n 1, 1) := D_La_boards_0 (3, .iload_n 1, 1) (List.mem_of_getElem? (i := 3) rfl)
theorem d_La_boards_4 : decode Y_La_boards.2.1 4 = .ok (.invokevirtual 27, 3) := D_La_boards_0 (4, .invokevirtual 27, 3) (List.mem_of_getElem? (i := 4) rfl)
theorem d_La_boards_7 : decode Y_La_boards.2.1 7 = .ok (.lastore, 1) := D_La_boards_0 (7, .lastore, 1) (List.mem_of_getElem? (i := 5) rfl)
theorem d_La_boards_8 : decode Y_La_boards.2.1 8 = .ok (.goto 6, 3) := D_La_boards_0 (8, .goto 6, 3) (List.mem_of_getElem? (i := 6) rfl)
theorem d_La_boards_11 : decode Y_La_boards.2.1 11 = .ok (.astore_n 3, 1) := D_La_boards_0 (11, .astore_n 3, 1) (List.mem_of_getElem? (i := 7) rfl)
theorem d_La_boards_12 : decode Y_La_boards.2.1 12 = .ok (.iconst 1, 1) := D_La_boards_0 (12, .iconst 1, 1) (List.mem_of_getElem? (i := 8) rfl)
theorem d_La_boards_13 : decode Y_La_boards.2.1 13 = .ok (.ireturn, 1) := D_La_boards_0 (13, .ireturn, 1) (List.mem_of_getElem? (i := 9) rfl)
theorem d_La_boards_14 : decode Y_La_boards.2.1 14 = .ok (.iconst 0, 1) := D_La_boards_0 (14, .iconst 0, 1) (List.mem_of_getElem? (i := 10) rfl)
theorem d_La_boards_15 : decode Y_La_boards.2.1 15 = .ok (.ireturn, 1) := D_La_boards_0 (15, .ireturn, 1) (List.mem_of_getElem? (i := 11) rfl)
theorem D_La_bin_0 : ∀ q ∈ ([(0, .aload_n 3, 1), (1, .iconst 0, 1), (2, .aload_n 0, 1), (3, .iload_n 1, 1), (4, .iload_n 2, 1), (5, .invokevirtual 31, 3), (8, .i2l, 1), (9, .lastore, 1), (10, .goto 15, 3), (13, .astore 4, 2), (15, .iconst 1, 1), (16, .ireturn, 1), (17, .astore 4, 2), (19, .iconst 2, 1), (20, .ireturn, 1), (21, .astore 4, 2), (23, .iconst 3, 1), (24, .ireturn, 1), (25, .iconst 0, 1), (26, .ireturn, 1)] : List (Nat × Instr × Nat)), decode method_7_code q.1 = .ok (q.2.1, q.2.2) := by decide +kernel
theorem d_La_bin_0 : decode Y_La_bin.2.1 0 = .ok (.aload_n 3, 1) := D_La_bin_0 (0, .aload_n 3, 1) (List.mem_of_getElem? (i := 0) rfl)
theorem d_La_bin_1 : decode Y_La_bin.2.1 1 = .ok (.iconst 0, 1) := D_La_bin_0 (1, .iconst 0, 1) (List.mem_of_getElem? (i := 1) rfl)
theorem d_La_bin_2 : decode Y_La_bin.2.1 2 = .ok (.aload_n 0, 1) := D_La_bin_0 (2, .aload_n 0, 1) (List.mem_of_getElem? (i := 2) rfl)
theorem d_La_bin_3 : decode Y_La_bin.2.1 3 = .ok (.iload_n 1, 1) := D_La_bin_0 (3, .iload_n 1, 1) (List.mem_of_getElem? (i := 3) rfl)
theorem d_La_bin_4 : decode Y_La_bin.2.1 4 = .ok (.iload_n 2, 1) := D_La_bin_0 (4, .iload_n 2, 1) (List.mem_of_getElem? (i := 4) rfl)
theorem d_La_bin_5 : decode Y_La_bin.2.1 5 = .ok (.invokevirtual 31, 3) := D_La_bin_0 (5, .invokevirtual 31, 3) (List.mem_of_getElem? (i := 5) rfl)
theorem d_La_bin_8 : decode Y_La_bin.2.1 8 = .ok (.i2l, 1) := D_La_bin_0 (8, .i2l, 1) (List.mem_of_getElem? (i := 6) rfl)
theorem d_La_bin_9 : decode Y_La_bin.2.1 9 = .ok (.lastore, 1) := D_La_bin_0 (9, .lastore, 1) (List.mem_of_getElem? (i := 7) rfl)
theorem d_La_bin_10 : decode Y_La_bin.2.1 10 = .ok (.goto 15, 3) := D_La_bin_0 (10, .goto 15, 3) (List.mem_of_getElem? (i := 8) rfl)
theorem d_La_bin_13 : decode Y_La_bin.2.1 13 = .ok (.astore 4, 2) := D_La_bin_0 (13, .astore 4, 2) (List.mem_of_getElem? (i := 9) rfl)
theorem d_La_bin_15 : decode Y_La_bin.2.1 15 = .ok (.iconst 1, 1) := D_La_bin_0 (15, .iconst 1, 1) (List.mem_of_getElem? (i := 10) rfl)
theorem d_La_bin_16 : decode Y_La_bin.2.1 16 = .ok (.ireturn, 1) := D_La_bin_0 (16, .ireturn, 1) (List.mem_of_getElem? (i := 11) rfl)
theorem d_La_bin_17 : decode Y_La_bin.2.1 17 = .ok (.astore 4, 2) := D_La_bin_0 (17, .astore 4, 2) (List.mem_of_getElem? (i := 12) rfl)
theorem d_La_bin_19 : decode Y_La_bin.2.1 19 = .ok (.iconst 2, 1) := D_La_bin_0 (19, .iconst 2, 1) (List.mem_of_getElem? (i := 13) rfl)
theorem d_La_bin_20 : decode Y_La_bin.2.1 20 = .ok (.ireturn, 1) := D_La_bin_0 (20, .ireturn, 1) (List.mem_of_getElem? (i := 14) rfl)
theorem d_La_bin_21 : decode Y_La_bin.2.1 21 = .ok (.astore 4, 2) := D_La_bin_0 (21, .astore 4, 2) (List.mem_of_getElem? (i := 15) rfl)
theorem d_La_bin_23 : decode Y_La_bin.2.1 23 = .ok (.iconst 3, 1) := D_La_bin_0 (23, .iconst 3, 1) (List.mem_of_getElem? (i := 16) rfl)
theorem d_La_bin_24 : decode Y_La_bin.2.1 24 = .ok (.ireturn, 1) := D_La_bin_0 (24, .ireturn, 1) (List.mem_of_getElem? (i := 17) rfl)
theorem d_La_bin_25 : decode Y_La_bin.2.1 25 = .ok (.iconst 0, 1) := D_La_bin_0 (25, .iconst 0, 1) (List.mem_of_getElem? (i := 18) rfl)
theorem d_La_bin_26 : decode Y_La_bin.2.1 26 = .ok (.ireturn, 1) := D_La_bin_0 (26, .ireturn, 1) (List.mem_of_getElem? (i := 19) rfl)
theorem D_La_pour_0 : ∀ q ∈ ([(0, .aload 4, 2), (2, .iconst 0, 1), (3, .aload_n 0, 1), (4, .iload_n 1, 1), (5, .iload_n 2, 1), (6, .iload_n 3, 1), (7, .invokevirtual 35, 3), (10, .ifCond .eq 7, 3), (13, .lconst 1, 1), (14, .goto 4, 3), (17, .lconst 0, 1), (18, .lastore, 1), (19, .goto 11, 3), (22, .astore 5, 2), (24, .iconst 1, 1), (25, .ireturn, 1), (26, .astore 5, 2), (28, .iconst 2, 1), (29, .ireturn, 1), (30, .iconst 0, 1), (31, .ireturn, 1)] : List (Nat × Instr × Nat)), decode method_8_code q.1 = .ok (q.2.1, q.2.2) := by decide +kernel
theorem d_La_pour_0 : decode Y_La_pour.2.1 0 = .ok (.aload 4, 2) := D_La_pour_0 (0, .aload 4, 2) (List.mem_of_getElem? (i := 0) rfl)
theorem d_La_pour_2 : decode Y_La_pour.2.1 2 = .ok (.iconst 0, 1) := D_La_pour_0 (2, .iconst 0, 1) (List.mem_of_getElem? (i := 1) rfl)
theorem d_La_pour_3 : decode Y_La_pour.2.1 3 = .ok (.aload_n 0, 1) := D_La_pour_0 (3, .aload_n 0, 1) (List.mem_of_getElem? (i := 2) rfl)
theorem d_La_pour_4 : decode Y_La_pour.2.1 4 = .ok (.iload_n 1, 1) := D_La_pour_0 (4, .iload_n 1, 1) (List.mem_of_getElem? (i := 3) rfl)
theorem d_La_pour_5 : decode Y_La_pour.2.1 5 = .ok (.iload_n 2, 1) := D_La_pour_0 (5, .iload_n 2, 1) (List.mem_of_getElem? (i := 4) rfl)
theorem d_La_pour_6 : decode Y_La_pour.2.1 6 = .ok (.iload_n 3, 1) := D_La_pour_0 (6, .iload_n 3, 1) (List.mem_of_getElem? (i := 5) rfl)
theorem d_La_pour_7 : decode Y_La_pour.2.1 7 = .ok (.invokevirtual 35, 3) := D_La_pour_0 (7, .invokevirtual 35, 3) (List.mem_of_getElem? (i := 6) rfl)
theorem d_La_pour_10 : decode Y_La_pour.2.1 10 = .ok (.ifCond .eq 7, 3) := D_La_pour_0 (10, .ifCond .eq 7, 3) (List.mem_of_getElem? (i := 7) rfl)
theorem d_La_pour_13 : decode Y_La_pour.2.1 13 = .ok (.lconst 1, 1) := D_La_pour_0 (13, .lconst 1, 1) (List.mem_of_getElem? (i := 8) rfl)
theorem d_La_pour_14 : decode Y_La_pour.2.1 14 = .ok (.goto 4, 3) := D_La_pour_0 (14, .goto 4, 3) (List.mem_of_getElem? (i := 9) rfl)
theorem d_La_pour_17 : decode Y_La_pour.2.1 17 = .ok (.lconst 0, 1) := D_La_pour_0 (17, .lconst 0, 1) (List.mem_of_getElem? (i := 10) rfl)
theorem d_La_pour_18 : decode Y_La_pour.2.1 18 = .ok (.lastore, 1) := D_La_pour_0 (18, .lastore, 1) (List.mem_of_getElem? (i := 11) rfl)
theorem d_La_pour_19 : decode Y_La_pour.2.1 19 = .ok (.goto 11, 3) := D_La_pour_0 (19, .goto 11, 3) (List.mem_of_getElem? (i := 12) rfl)
theorem d_La_pour_22 : decode Y_La_pour.2.1 22 = .ok (.astore 5, 2) := D_La_pour_0 (22, .astore 5, 2) (List.mem_of_getElem? (i := 13) rfl)
theorem d_La_pour_24 : decode Y_La_pour.2.1 24 = .ok (.iconst 1, 1) := D_La_pour_0 (24, .iconst 1, 1) (List.mem_of_getElem? (i := 14) rfl)
theorem d_La_pour_25 : decode Y_La_pour.2.1 25 = .ok (.ireturn, 1) := D_La_pour_0 (25, .ireturn, 1) (List.mem_of_getElem? (i := 15) rfl)
theorem d_La_pour_26 : decode Y_La_pour.2.1 26 = .ok (.astore 5, 2) := D_La_pour_0 (26, .astore 5, 2) (List.mem_of_getElem? (i := 16) rfl)
theorem d_La_pour_28 : decode Y_La_pour.2.1 28 = .ok (.iconst 2, 1) := D_La_pour_0 (28, .iconst 2, 1) (List.mem_of_getElem? (i := 17) rfl)
theorem d_La_pour_29 : decode Y_La_pour.2.1 29 = .ok (.ireturn, 1) := D_La_pour_0 (29, .ireturn, 1) (List.mem_of_getElem? (i := 18) rfl)
theorem d_La_pour_30 : decode Y_La_pour.2.1 30 = .ok (.iconst 0, 1) := D_La_pour_0 (30, .iconst 0, 1) (List.mem_of_getElem? (i := 19) rfl)
theorem d_La_pour_31 : decode Y_La_pour.2.1 31 = .ok (.ireturn, 1) := D_La_pour_0 (31, .ireturn, 1) (List.mem_of_getElem? (i := 20) rfl)
theorem D_La_about_0 : ∀ q ∈ ([(0, .aload_n 3, 1), (1, .iconst 0, 1), (2, .aload_n 0, 1), (3, .iload_n 1, 1), (4, .iload_n 2, 1), (5, .invokevirtual 39, 3), (8, .lastore, 1), (9, .goto 7, 3), (12, .astore 4, 2), (14, .iconst 1, 1), (15, .ireturn, 1), (16, .iconst 0, 1), (17, .ireturn, 1)] : List (Nat × Instr × Nat)), decode method_9_code q.1 = .ok (q.2.1, q.2.2) := by decide +kernel
theorem d_La_about_0 : decode Y_La_about.2.1 0 = .ok (.aload_n 3, 1) := D_La_about_0 (0, .aload_n 3, 1) (List.mem_of_getElem? (i := 0) rfl)
theorem d_La_about_1 : decode Y_La_about.2.1 1 = .ok (.iconst 0, 1) := D_La_about_0 (1, .iconst 0, 1) (List.mem_of_getElem? (i := 1) rfl)
theorem d_La_about_2 : decode Y_La_about.2.1 2 = .ok (.aload_n 0, 1) := D_La_about_0 (2, .aload_n 0, 1) (List.mem_of_getElem? (i := 2) rfl)
theorem d_La_about_3 : decode Y_La_about.2.1 3 = .ok (.iload_n 1, 1) := D_La_about_0 (3, .iload_n 1, 1) (List.mem_of_getElem? (i := 3) rfl)
theorem d_La_about_4 : decode Y_La_about.2.1 4 = .ok (.iload_n 2, 1) := D_La_about_0 (4, .iload_n 2, 1) (List.mem_of_getElem? (i := 4) rfl)
theorem d_La_about_5 : decode Y_La_about.2.1 5 = .ok (.invokevirtual 39, 3) := D_La_about_0 (5, .invokevirtual 39, 3) (List.mem_of_getElem? (i := 5) rfl)
theorem d_La_about_8 : decode Y_La_about.2.1 8 = .ok (.lastore, 1) := D_La_about_0 (8, .lastore, 1) (List.mem_of_getElem? (i := 6) rfl)
theorem d_La_about_9 : decode Y_La_about.2.1 9 = .ok (.goto 7, 3) := D_La_about_0 (9, .goto 7, 3) (List.mem_of_getElem? (i := 7) rfl)
theorem d_La_about_12 : decode Y_La_about.2.1 12 = .ok (.astore 4, 2) := D_La_about_0 (12, .astore 4, 2) (List.mem_of_getElem? (i := 8) rfl)
theorem d_La_about_14 : decode Y_La_about.2.1 14 = .ok (.iconst 1, 1) := D_La_about_0 (14, .iconst 1, 1) (List.mem_of_getElem? (i := 9) rfl)
theorem d_La_about_15 : decode Y_La_about.2.1 15 = .ok (.ireturn, 1) := D_La_about_0 (15, .ireturn, 1) (List.mem_of_getElem? (i := 10) rfl)
theorem d_La_about_16 : decode Y_La_about.2.1 16 = .ok (.iconst 0, 1) := D_La_about_0 (16, .iconst 0, 1) (List.mem_of_getElem? (i := 11) rfl)
theorem d_La_about_17 : decode Y_La_about.2.1 17 = .ok (.ireturn, 1) := D_La_about_0 (17, .ireturn, 1) (List.mem_of_getElem? (i := 12) rfl)
theorem D_La_screen_0 : ∀ q ∈ ([(0, .aload_n 0, 1), (1, .iload_n 1, 1), (2, .iload_n 2, 1), (3, .iload_n 3, 1), (4, .iload 4, 2), (6, .iload 5, 2), (8, .iload 6, 2), (10, .invokevirtual 43, 3), (13, .goto 11, 3), (16, .astore 7, 2), (18, .iconst 1, 1), (19, .ireturn, 1), (20, .astore 7, 2), (22, .iconst 2, 1), (23, .ireturn, 1), (24, .iconst 0, 1), (25, .ireturn, 1)] : List (Nat × Instr × Nat)), decode method_10_code q.1 = .ok (q.2.1, q.2.2) := by decide +kernel
theorem d_La_screen_0 : decode Y_La_screen.2.1 0 = .ok (.aload_n 0, 1) := D_La_screen_0 (0, .aload_n 0, 1) (List.mem_of_getElem? (i := 0) rfl)
theorem d_La_screen_1 : decode Y_La_screen.2.1 1 = .ok (.iload_n 1, 1) := D_La_screen_0 (1, .iload_n 1, 1) (List.mem_of_getElem? (i := 1) rfl)
theorem d_La_screen_2 : decode Y_La_screen.2.1 2 = .ok (.iload_n 2, 1) := D_La_screen_0 (2, .iload_n 2, 1) (List.mem_of_getElem? (i := 2) rfl)
theorem d_La_screen_3 : decode Y_La_screen.2.1 3 = .ok (.iload_n 3, 1) := D_La_screen_0 (3, .iload_n 3, 1) (List.mem_of_getElem? (i := 3) rfl)
theorem d_La_screen_4 : decode Y_La_screen.2.1 4 = .ok (.iload 4, 2) := D_La_screen_0 (4, .iload 4, 2) (List.mem_of_getElem? (i := 4) rfl)
theorem d_La_screen_6 : decode Y_La_screen.2.1 6 = .ok (.iload 5, 2) := D_La_screen_0 (6, .iload 5, 2) (List.mem_of_getElem? (i := 5) rfl)
theorem d_La_screen_8 : decode Y_La_screen.2.1 8 = .ok (.iload 6, 2) := D_La_screen_0 (8, .iload 6, 2) (List.mem_of_getElem? (i := 6) rfl)
theorem d_La_screen_10 : decode Y_La_screen.2.1 10 = .ok (.invokevirtual 43, 3) := D_La_screen_0 (10, .invokevirtual 43, 3) (List.mem_of_getElem? (i := 7) rfl)
theorem d_La_screen_13 : decode Y_La_screen.2.1 13 = .ok (.goto 11, 3) := D_La_screen_0 (13, .goto 11, 3) (List.mem_of_getElem? (i := 8) rfl)
theorem d_La_screen_16 : decode Y_La_screen.2.1 16 = .ok (.astore 7, 2) := D_La_screen_0 (16, .astore 7, 2) (List.mem_of_getElem? (i := 9) rfl)
theorem d_La_screen_18 : decode Y_La_screen.2.1 18 = .ok (.iconst 1, 1) := D_La_screen_0 (18, .iconst 1, 1) (List.mem_of_getElem? (i := 10) rfl)
theorem d_La_screen_19 : decode Y_La_screen.2.1 19 = .ok (.ireturn, 1) := D_La_screen_0 (19, .ireturn, 1) (List.mem_of_getElem? (i := 11) rfl)
theorem d_La_screen_20 : decode Y_La_screen.2.1 20 = .ok (.astore 7, 2) := D_La_screen_0 (20, .astore 7, 2) (List.mem_of_getElem? (i := 12) rfl)
theorem d_La_screen_22 : decode Y_La_screen.2.1 22 = .ok (.iconst 2, 1) := D_La_screen_0 (22, .iconst 2, 1) (List.mem_of_getElem? (i := 13) rfl)
theorem d_La_screen_23 : decode Y_La_screen.2.1 23 = .ok (.ireturn, 1) := D_La_screen_0 (23, .ireturn, 1) (List.mem_of_getElem? (i := 14) rfl)
theorem d_La_screen_24 : decode Y_La_screen.2.1 24 = .ok (.iconst 0, 1) := D_La_screen_0 (24, .iconst 0, 1) (List.mem_of_getElem? (i := 15) rfl)
theorem d_La_screen_25 : decode Y_La_screen.2.1 25 = .ok (.ireturn, 1) := D_La_screen_0 (25, .ireturn, 1) (List.mem_of_getElem? (i := 16) rfl)
theorem D_La_send_0 : ∀ q ∈ ([(0, .aload 4, 2), (2, .iconst 0, 1), (3, .aload_n 0, 1), (4, .iload_n 1, 1), (5, .iload_n 2, 1), (6, .iload_n 3, 1), (7, .invokevirtual 47, 3), (10, .ifCond .eq 7, 3), (13, .lconst 1, 1), (14, .goto 4, 3), (17, .lconst 0, 1), (18, .lastore, 1), (19, .goto 15, 3), (22, .astore 5, 2), (24, .iconst 1, 1), (25, .ireturn, 1), (26, .astore 5, 2), (28, .iconst 2, 1), (29, .ireturn, 1), (30, .astore 5, 2), (32, .iconst 3, 1), (33, .ireturn, 1), (34, .iconst 0, 1), (35, .ireturn, 1)] : List (Nat × Instr × Nat)), decode method_11_code q.1 = .ok (q.2.1, q.2.2) := by decide +kernel
theorem d_La_send_0 : decode Y_La_send.2.1 0 = .ok (.aload 4, 2) := D_La_send_0 (0, .aload 4, 2) (List.mem_of_getElem? (i := 0) rfl)
theorem d_La_send_2 : decode Y_La_send.2.1 2 = .ok (.iconst 0, 1) := D_La_send_0 (2, .iconst 0, 1) (List.mem_of_getElem? (i := 1) rfl)
theorem d_La_send_3 : decode Y_La_send.2.1 3 = .ok (.aload_n 0, 1) := D_La_send_0 (3, .aload_n 0, 1) (List.mem_of_getElem? (i := 2) rfl)
theorem d_La_send_4 : decode Y_La_send.2.1 4 = .ok (.iload_n 1, 1) := D_La_send_0 (4, .iload_n 1, 1) (List.mem_of_getElem? (i := 3) rfl)
theorem d_La_send_5 : decode Y_La_send.2.1 5 = .ok (.iload_n 2, 1) := D_La_send_0 (5, .iload_n 2, 1) (List.mem_of_getElem? (i := 4) rfl)
theorem d_La_send_6 : decode Y_La_send.2.1 6 = .ok (.iload_n 3, 1) := D_La_send_0 (6, .iload_n 3, 1) (List.mem_of_getElem? (i := 5) rfl)
theorem d_La_send_7 : decode Y_La_send.2.1 7 = .ok (.invokevirtual 47, 3) := D_La_send_0 (7, .invokevirtual 47, 3) (List.mem_of_getElem? (i := 6) rfl)
theorem d_La_send_10 : decode Y_La_send.2.1 10 = .ok (.ifCond .eq 7, 3) := D_La_send_0 (10, .ifCond .eq 7, 3) (List.mem_of_getElem? (i := 7) rfl)
theorem d_La_send_13 : decode Y_La_send.2.1 13 = .ok (.lconst 1, 1) := D_La_send_0 (13, .lconst 1, 1) (List.mem_of_getElem? (i := 8) rfl)
theorem d_La_send_14 : decode Y_La_send.2.1 14 = .ok (.goto 4, 3) := D_La_send_0 (14, .goto 4, 3) (List.mem_of_getElem? (i := 9) rfl)
theorem d_La_send_17 : decode Y_La_send.2.1 17 = .ok (.lconst 0, 1) := D_La_send_0 (17, .lconst 0, 1) (List.mem_of_getElem? (i := 10) rfl)
theorem d_La_send_18 : decode Y_La_send.2.1 18 = .ok (.lastore, 1) := D_La_send_0 (18, .lastore, 1) (List.mem_of_getElem? (i := 11) rfl)
theorem d_La_send_19 : decode Y_La_send.2.1 19 = .ok (.goto 15, 3) := D_La_send_0 (19, .goto 15, 3) (List.mem_of_getElem? (i := 12) rfl)
theorem d_La_send_22 : decode Y_La_send.2.1 22 = .ok (.astore 5, 2) := D_La_send_0 (22, .astore 5, 2) (List.mem_of_getElem? (i := 13) rfl)
theorem d_La_send_24 : decode Y_La_send.2.1 24 = .ok (.iconst 1, 1) := D_La_send_0 (24, .iconst 1, 1) (List.mem_of_getElem? (i := 14) rfl)
theorem d_La_send_25 : decode Y_La_send.2.1 25 = .ok (.ireturn, 1) := D_La_send_0 (25, .ireturn, 1) (List.mem_of_getElem? (i := 15) rfl)
theorem d_La_send_26 : decode Y_La_send.2.1 26 = .ok (.astore 5, 2) := D_La_send_0 (26, .astore 5, 2) (List.mem_of_getElem? (i := 16) rfl)
theorem d_La_send_28 : decode Y_La_send.2.1 28 = .ok (.iconst 2, 1) := D_La_send_0 (28, .iconst 2, 1) (List.mem_of_getElem? (i := 17) rfl)
theorem d_La_send_29 : decode Y_La_send.2.1 29 = .ok (.ireturn, 1) := D_La_send_0 (29, .ireturn, 1) (List.mem_of_getElem? (i := 18) rfl)
theorem d_La_send_30 : decode Y_La_send.2.1 30 = .ok (.astore 5, 2) := D_La_send_0 (30, .astore 5, 2) (List.mem_of_getElem? (i := 19) rfl)
theorem d_La_send_32 : decode Y_La_send.2.1 32 = .ok (.iconst 3, 1) := D_La_send_0 (32, .iconst 3, 1) (List.mem_of_getElem? (i := 20) rfl)
theorem d_La_send_33 : decode Y_La_send.2.1 33 = .ok (.ireturn, 1) := D_La_send_0 (33, .ireturn, 1) (List.mem_of_getElem? (i := 21) rfl)
theorem d_La_send_34 : decode Y_La_send.2.1 34 = .ok (.iconst 0, 1) := D_La_send_0 (34, .iconst 0, 1) (List.mem_of_getElem? (i := 22) rfl)
theorem d_La_send_35 : decode Y_La_send.2.1 35 = .ok (.ireturn, 1) := D_La_send_0 (35, .ireturn, 1) (List.mem_of_getElem? (i := 23) rfl)
theorem D_La_scale_0 : ∀ q ∈ ([(0, .aload_n 0, 1), (1, .iload_n 1, 1), (2, .lload_n 2, 1), (3, .invokevirtual 50, 3), (6, .goto 11, 3), (9, .astore 4, 2), (11, .iconst 1, 1), (12, .ireturn, 1), (13, .astore 4, 2), (15, .iconst 2, 1), (16, .ireturn, 1), (17, .iconst 0, 1), (18, .ireturn, 1)] : List (Nat × Instr × Nat)), decode method_12_code q.1 = .ok (q.2.1, q.2.2) := by decide +kernel
theorem d_La_scale_0 : decode Y_La_scale.2.1 0 = .ok (.aload_n 0, 1) := D_La_scale_0 (0, .aload_n 0, 1) (List.mem_of_getElem? (i := 0) rfl)
theorem d_La_scale_1 : decode Y_La_scale.2.1 1 = .ok (.iload_n 1, 1) := D_La_scale_0 (1, .iload_n 1, 1) (List.mem_of_getElem? (i := 1) rfl)
theorem d_La_scale_2 : decode Y_La_scale.2.1 2 = .ok (.lload_n 2, 1) := D_La_scale_0 (2, .lload_n 2, 1) (List.mem_of_getElem? (i := 2) rfl)
theorem d_La_scale_3 : decode Y_La_scale.2.1 3 = .ok (.invokevirtual 50, 3) := D_La_scale_0 (3, .invokevirtual 50, 3) (List.mem_of_getElem? (i := 3) rfl)
theorem d_La_scale_6 : decode Y_La_scale.2.1 6 = .ok (.goto 11, 3) := D_La_scale_0 (6, .goto 11, 3) (List.mem_of_getElem? (i := 4) rfl)
theorem d_La_scale_9 : decode Y_La_scale.2.1 9 = .ok (.astore 4, 2) := D_La_scale_0 (9, .astore 4, 2) (List.mem_of_getElem? (i := 5) rfl)
theorem d_La_scale_11 : decode Y_La_scale.2.1 11 = .ok (.iconst 1, 1) := D_La_scale_0 (11, .iconst 1, 1) (List.mem_of_getElem? (i := 6) rfl)
theorem d_La_scale_12 : decode Y_La_scale.2.1 12 = .ok (.ireturn, 1) := D_La_scale_0 (12, .ireturn, 1) (List.mem_of_getElem? (i := 7) rfl)
theorem d_La_scale_13 : decode Y_La_scale.2.1 13 = .ok (.astore 4, 2) := D_La_scale_0 (13, .astore 4, 2) (List.mem_of_getElem? (i := 8) rfl)
theorem d_La_scale_15 : decode Y_La_scale.2.1 15 = .ok (.iconst 2, 1) := D_La_scale_0 (15, .iconst 2, 1) (List.mem_of_getElem? (i := 9) rfl)
theorem d_La_scale_16 : decode Y_La_scale.2.1 16 = .ok (.ireturn, 1) := D_La_scale_0 (16, .ireturn, 1) (List.mem_of_getElem? (i := 10) rfl)
theorem d_La_scale_17 : decode Y_La_scale.2.1 17 = .ok (.iconst 0, 1) := D_La_scale_0 (17, .iconst 0, 1) (List.mem_of_getElem? (i := 11) rfl)
theorem d_La_scale_18 : decode Y_La_scale.2.1 18 = .ok (.ireturn, 1) := D_La_scale_0 (18, .ireturn, 1) (List.mem_of_getElem? (i := 12) rfl)
theorem D_La_shift_0 : ∀ q ∈ ([(0, .aload_n 2, 1), (1, .iconst 0, 1), (2, .aload_n 0, 1), (3, .iload_n 1, 1), (4, .invokevirtual 54, 3), (7, .lastore, 1), (8, .goto 6, 3), (11, .astore_n 3, 1), (12, .iconst 1, 1), (13, .ireturn, 1), (14, .iconst 0, 1), (15, .ireturn, 1)] : List (Nat × Instr × Nat)), decode method_13_code q.1 = .ok (q.2.1, q.2.2) := by decide +kernel
theorem d_La_shift_0 : decode Y_La_shift.2.1 0 = .ok (.aload_n 2, 1) := D_La_shift_0 (0, .aload_n 2, 1) (List.mem_of_getElem? (i := 0) rfl)
theorem d_La_shift_1 : decode Y_La_shift.2.1 1 = .ok (.iconst 0, 1) := D_La_shift_0 (1, .iconst 0, 1) (List.mem_of_getElem? (i := 1) rfl)
theorem d_La_shift_2 : decode Y_La_shift.2.1 2 = .ok (.aload_n 0, 1) := D_La_shift_0 (2, .aload_n 0, 1) (List.mem_of_getElem? (i := 2) rfl)
theorem d_La_shift_3 : decode Y_La_shift.2.1 3 = .ok (.iload_n 1, 1) := D_La_shift_0 (3, .iload_n 1, 1) (List.mem_of_getElem? (i := 3) rfl)
theorem d_La_shift_4 : decode Y_La_shift.2.1 4 = .ok (.invokevirtual 54, 3) := D_La_shift_0 (4, .invokevirtual 54, 3) (List.mem_of_getElem? (i := 4) rfl)
theorem d_La_shift_7 : decode Y_La_shift.2.1 7 = .ok (.lastore, 1) := D_La_shift_0 (7, .lastore, 1) (List.mem_of_getElem? (i := 5) rfl)
theorem d_La_shift_8 : decode Y_La_shift.2.1 8 = .ok (.goto 6, 3) := D_La_shift_0 (8, .goto 6, 3) (List.mem_of_getElem? (i := 6) rfl)
theorem d_La_shift_11 : decode Y_La_shift.2.1 11 = .ok (.astore_n 3, 1) := D_La_shift_0 (11, .astore_n 3, 1) (List.mem_of_getElem? (i := 7) rfl)
theorem d_La_shift_12 : decode Y_La_shift.2.1 12 = .ok (.iconst 1, 1) := D_La_shift_0 (12, .iconst 1, 1) (List.mem_of_getElem? (i := 8) rfl)
theorem d_La_shift_13 : decode Y_La_shift.2.1 13 = .ok (.ireturn, 1) := D_La_shift_0 (13, .ireturn, 1) (List.mem_of_getElem? (i := 9) rfl)
theorem d_La_shift_14 : decode Y_La_shift.2.1 14 = .ok (.iconst 0, 1) := D_La_shift_0 (14, .iconst 0, 1) (List.mem_of_getElem? (i := 10) rfl)
theorem d_La_shift_15 : decode Y_La_shift.2.1 15 = .ok (.ireturn, 1) := D_La_shift_0 (15, .ireturn, 1) (List.mem_of_getElem? (i := 11) rfl)
theorem D_La_row_0 : ∀ q ∈ ([(0, .aload_n 3, 1), (1, .iconst 0, 1), (2, .aload_n 0, 1), (3, .iload_n 1, 1), (4, .iload_n 2, 1), (5, .invokevirtual 58, 3), (8, .i2l, 1), (9, .lastore, 1), (10, .goto 11, 3), (13, .astore 4, 2), (15, .iconst 1, 1), (16, .ireturn, 1), (17, .astore 4, 2), (19, .iconst 2, 1), (20, .ireturn, 1), (21, .iconst 0, 1), (22, .ireturn, 1)] : List (Nat × Instr × Nat)), decode method_14_code q.1 = .ok (q.2.1, q.2.2) := by decide +kernel
theorem d_La_row_0 : decode Y_La_row.2.1 0 = .ok (.aload_n 3, 1) := D_La_row_0 (0, .aload_n 3, 1) (List.mem_of_getElem? (i := 0) rfl)
theorem d_La_row_1 : decode Y_La_row.2.1 1 = .ok (.iconst 0, 1) := D_La_row_0 (1, .iconst 0, 1) (List.mem_of_getElem? (i := 1) rfl)
theorem d_La_row_2 : decode Y_La_row.2.1 2 = .ok (.aload_n 0, 1) := D_La_row_0 (2, .aload_n 0, 1) (List.mem_of_getElem? (i := 2) rfl)
theorem d_La_row_3 : decode Y_La_row.2.1 3 = .ok (.iload_n 1, 1) := D_La_row_0 (3, .iload_n 1, 1) (List.mem_of_getElem? (i := 3) rfl)
theorem d_La_row_4 : decode Y_La_row.2.1 4 = .ok (.iload_n 2, 1) := D_La_row_0 (4, .iload_n 2, 1) (List.mem_of_getElem? (i := 4) rfl)
theorem d_La_row_5 : decode Y_La_row.2.1 5 = .ok (.invokevirtual 58, 3) := D_La_row_0 (5, .invokevirtual 58, 3) (List.mem_of_getElem? (i := 5) rfl)
theorem d_La_row_8 : decode Y_La_row.2.1 8 = .ok (.i2l, 1) := D_La_row_0 (8, .i2l, 1) (List.mem_of_getElem? (i := 6) rfl)
theorem d_La_row_9 : decode Y_La_row.2.1 9 = .ok (.lastore, 1) := D_La_row_0 (9, .lastore, 1) (List.mem_of_getElem? (i := 7) rfl)
theorem d_La_row_10 : decode Y_La_row.2.1 10 = .ok (.goto 11, 3) := D_La_row_0 (10, .goto 11, 3) (List.mem_of_getElem? (i := 8) rfl)
theorem d_La_row_13 : decode Y_La_row.2.1 13 = .ok (.astore 4, 2) := D_La_row_0 (13, .astore 4, 2) (List.mem_of_getElem? (i := 9) rfl)
theorem d_La_row_15 : decode Y_La_row.2.1 15 = .ok (.iconst 1, 1) := D_La_row_0 (15, .iconst 1, 1) (List.mem_of_getElem? (i := 10) rfl)
theorem d_La_row_16 : decode Y_La_row.2.1 16 = .ok (.ireturn, 1) := D_La_row_0 (16, .ireturn, 1) (List.mem_of_getElem? (i := 11) rfl)
theorem d_La_row_17 : decode Y_La_row.2.1 17 = .ok (.astore 4, 2) := D_La_row_0 (17, .astore 4, 2) (List.mem_of_getElem? (i := 12) rfl)
theorem d_La_row_19 : decode Y_La_row.2.1 19 = .ok (.iconst 2, 1) := D_La_row_0 (19, .iconst 2, 1) (List.mem_of_getElem? (i := 13) rfl)
theorem d_La_row_20 : decode Y_La_row.2.1 20 = .ok (.ireturn, 1) := D_La_row_0 (20, .ireturn, 1) (List.mem_of_getElem? (i := 14) rfl)
theorem d_La_row_21 : decode Y_La_row.2.1 21 = .ok (.iconst 0, 1) := D_La_row_0 (21, .iconst 0, 1) (List.mem_of_getElem? (i := 15) rfl)
theorem d_La_row_22 : decode Y_La_row.2.1 22 = .ok (.ireturn, 1) := D_La_row_0 (22, .ireturn, 1) (List.mem_of_getElem? (i := 16) rfl)
theorem D_La_burn_0 : ∀ q ∈ ([(0, .aload 4, 2), (2, .iconst 0, 1), (3, .aload_n 0, 1), (4, .iload_n 1, 1), (5, .iload_n 2, 1), (6, .iload_n 3, 1), (7, .invokevirtual 61, 3), (10, .lastore, 1), (11, .goto 15, 3), (14, .astore 5, 2), (16, .iconst 1, 1), (17, .ireturn, 1), (18, .astore 5, 2), (20, .iconst 2, 1), (21, .ireturn, 1), (22, .astore 5, 2), (24, .iconst 3, 1), (25, .ireturn, 1), (26, .iconst 0, 1), (27, .ireturn, 1)] : List (Nat × Instr × Nat)), decode method_15_code q.1 = .ok (q.2.1, q.2.2) := by decide +kernel
theorem d_La_burn_0 : decode Y_La_burn.2.1 0 = .ok (.aload 4, 2) := D_La_burn_0 (0, .aload 4, 2) (List.mem_of_getElem? (i := 0) rfl)
theorem d_La_burn_2 : decode Y_La_burn.2.1 2 = .ok (.iconst 0, 1) := D_La_burn_0 (2, .iconst 0, 1) (List.mem_of_getElem? (i := 1) rfl)
theorem d_La_burn_3 : decode Y_La_burn.2.1 3 = .ok (.aload_n 0, 1) := D_La_burn_0 (3, .aload_n 0, 1) (List.mem_of_getElem? (i := 2) rfl)
theorem d_La_burn_4 : decode Y_La_burn.2.1 4 = .ok (.iload_n 1, 1) := D_La_burn_0 (4, .iload_n 1, 1) (List.mem_of_getElem? (i := 3) rfl)
theorem d_La_burn_5 : decode Y_La_burn.2.1 5 = .ok (.iload_n 2, 1) := D_La_burn_0 (5, .iload_n 2, 1) (List.mem_of_getElem? (i := 4) rfl)
theorem d_La_burn_6 : decode Y_La_burn.2.1 6 = .ok (.iload_n 3, 1) := D_La_burn_0 (6, .iload_n 3, 1) (List.mem_of_getElem? (i := 5) rfl)
theorem d_La_burn_7 : decode Y_La_burn.2.1 7 = .ok (.invokevirtual 61, 3) := D_La_burn_0 (7, .invokevirtual 61, 3) (List.mem_of_getElem? (i := 6) rfl)
theorem d_La_burn_10 : decode Y_La_burn.2.1 10 = .ok (.lastore, 1) := D_La_burn_0 (10, .lastore, 1) (List.mem_of_getElem? (i := 7) rfl)
theorem d_La_burn_11 : decode Y_La_burn.2.1 11 = .ok (.goto 15, 3) := D_La_burn_0 (11, .goto 15, 3) (List.mem_of_getElem? (i := 8) rfl)
theorem d_La_burn_14 : decode Y_La_burn.2.1 14 = .ok (.astore 5, 2) := D_La_burn_0 (14, .astore 5, 2) (List.mem_of_getElem? (i := 9) rfl)
theorem d_La_burn_16 : decode Y_La_burn.2.1 16 = .ok (.iconst 1, 1) := D_La_burn_0 (16, .iconst 1, 1) (List.mem_of_getElem? (i := 10) rfl)
theorem d_La_burn_17 : decode Y_La_burn.2.1 17 = .ok (.ireturn, 1) := D_La_burn_0 (17, .ireturn, 1) (List.mem_of_getElem? (i := 11) rfl)
theorem d_La_burn_18 : decode Y_La_burn.2.1 18 = .ok (.astore 5, 2) := D_La_burn_0 (18, .astore 5, 2) (List.mem_of_getElem? (i := 12) rfl)
theorem d_La_burn_20 : decode Y_La_burn.2.1 20 = .ok (.iconst 2, 1) := D_La_burn_0 (20, .iconst 2, 1) (List.mem_of_getElem? (i := 13) rfl)
theorem d_La_burn_21 : decode Y_La_burn.2.1 21 = .ok (.ireturn, 1) := D_La_burn_0 (21, .ireturn, 1) (List.mem_of_getElem? (i := 14) rfl)
theorem d_La_burn_22 : decode Y_La_burn.2.1 22 = .ok (.astore 5, 2) := D_La_burn_0 (22, .astore 5, 2) (List.mem_of_getElem? (i := 15) rfl)
theorem d_La_burn_24 : decode Y_La_burn.2.1 24 = .ok (.iconst 3, 1) := D_La_burn_0 (24, .iconst 3, 1) (List.mem_of_getElem? (i := 16) rfl)
theorem d_La_burn_25 : decode Y_La_burn.2.1 25 = .ok (.ireturn, 1) := D_La_burn_0 (25, .ireturn, 1) (List.mem_of_getElem? (i := 17) rfl)
theorem d_La_burn_26 : decode Y_La_burn.2.1 26 = .ok (.iconst 0, 1) := D_La_burn_0 (26, .iconst 0, 1) (List.mem_of_getElem? (i := 18) rfl)
theorem d_La_burn_27 : decode Y_La_burn.2.1 27 = .ok (.ireturn, 1) := D_La_burn_0 (27, .ireturn, 1) (List.mem_of_getElem? (i := 19) rfl)
theorem D_La_sell_0 : ∀ q ∈ ([(0, .aload 4, 2), (2, .iconst 0, 1), (3, .aload_n 0, 1), (4, .iload_n 1, 1), (5, .iload_n 2, 1), (6, .iload_n 3, 1), (7, .invokevirtual 65, 3), (10, .lastore, 1), (11, .goto 15, 3), (14, .astore 5, 2), (16, .iconst 1, 1), (17, .ireturn, 1), (18, .astore 5, 2), (20, .iconst 2, 1), (21, .ireturn, 1), (22, .astore 5, 2), (24, .iconst 3, 1), (25, .ireturn, 1), (26, .iconst 0, 1), (27, .ireturn, 1)] : List (Nat × Instr × Nat)), decode method_16_code q.1 = .ok (q.2.1, q.2.2) := by decide +kernel
theorem d_La_sell_0 : decode Y_La_sell.2.1 0 = .ok (.aload 4, 2) := D_La_sell_0 (0, .aload 4, 2) (List.mem_of_getElem? (i := 0) rfl)
theorem d_La_sell_2 : decode Y_La_sell.2.1 2 = .ok (.iconst 0, 1) := D_La_sell_0 (2, .iconst 0, 1) (List.mem_of_getElem? (i := 1) rfl)
theorem d_La_sell_3 : decode Y_La_sell.2.1 3 = .ok (.aload_n 0, 1) := D_La_sell_0 (3, .aload_n 0, 1) (List.mem_of_getElem? (i := 2) rfl)
theorem d_La_sell_4 : decode Y_La_sell.2.1 4 = .ok (.iload_n 1, 1) := D_La_sell_0 (4, .iload_n 1, 1) (List.mem_of_getElem? (i := 3) rfl)
theorem d_La_sell_5 : decode Y_La_sell.2.1 5 = .ok (.iload_n 2, 1) := D_La_sell_0 (5, .iload_n 2, 1) (List.mem_of_getElem? (i := 4) rfl)
theorem d_La_sell_6 : decode Y_La_sell.2.1 6 = .ok (.iload_n 3, 1) := D_La_sell_0 (6, .iload_n 3, 1) (List.mem_of_getElem? (i := 5) rfl)
theorem d_La_sell_7 : decode Y_La_sell.2.1 7 = .ok (.invokevirtual 65, 3) := D_La_sell_0 (7, .invokevirtual 65, 3) (List.mem_of_getElem? (i := 6) rfl)
theorem d_La_sell_10 : decode Y_La_sell.2.1 10 = .ok (.lastore, 1) := D_La_sell_0 (10, .lastore, 1) (List.mem_of_getElem? (i := 7) rfl)
theorem d_La_sell_11 : decode Y_La_sell.2.1 11 = .ok (.goto 15, 3) := D_La_sell_0 (11, .goto 15, 3) (List.mem_of_getElem? (i := 8) rfl)
theorem d_La_sell_14 : decode Y_La_sell.2.1 14 = .ok (.astore 5, 2) := D_La_sell_0 (14, .astore 5, 2) (List.mem_of_getElem? (i := 9) rfl)
theorem d_La_sell_16 : decode Y_La_sell.2.1 16 = .ok (.iconst 1, 1) := D_La_sell_0 (16, .iconst 1, 1) (List.mem_of_getElem? (i := 10) rfl)
theorem d_La_sell_17 : decode Y_La_sell.2.1 17 = .ok (.ireturn, 1) := D_La_sell_0 (17, .ireturn, 1) (List.mem_of_getElem? (i := 11) rfl)
theorem d_La_sell_18 : decode Y_La_sell.2.1 18 = .ok (.astore 5, 2) := D_La_sell_0 (18, .astore 5, 2) (List.mem_of_getElem? (i := 12) rfl)
theorem d_La_sell_20 : decode Y_La_sell.2.1 20 = .ok (.iconst 2, 1) := D_La_sell_0 (20, .iconst 2, 1) (List.mem_of_getElem? (i := 13) rfl)
theorem d_La_sell_21 : decode Y_La_sell.2.1 21 = .ok (.ireturn, 1) := D_La_sell_0 (21, .ireturn, 1) (List.mem_of_getElem? (i := 14) rfl)
theorem d_La_sell_22 : decode Y_La_sell.2.1 22 = .ok (.astore 5, 2) := D_La_sell_0 (22, .astore 5, 2) (List.mem_of_getElem? (i := 15) rfl)
theorem d_La_sell_24 : decode Y_La_sell.2.1 24 = .ok (.iconst 3, 1) := D_La_sell_0 (24, .iconst 3, 1) (List.mem_of_getElem? (i := 16) rfl)
theorem d_La_sell_25 : decode Y_La_sell.2.1 25 = .ok (.ireturn, 1) := D_La_sell_0 (25, .ireturn, 1) (List.mem_of_getElem? (i := 17) rfl)
theorem d_La_sell_26 : decode Y_La_sell.2.1 26 = .ok (.iconst 0, 1) := D_La_sell_0 (26, .iconst 0, 1) (List.mem_of_getElem? (i := 18) rfl)
theorem d_La_sell_27 : decode Y_La_sell.2.1 27 = .ok (.ireturn, 1) := D_La_sell_0 (27, .ireturn, 1) (List.mem_of_getElem? (i := 19) rfl)
theorem D_La_span_0 : ∀ q ∈ ([(0, .aload_n 0, 1), (1, .iload_n 1, 1), (2, .iload_n 2, 1), (3, .iload_n 3, 1), (4, .invokevirtual 68, 3), (7, .goto 11, 3), (10, .astore 4, 2), (12, .iconst 1, 1), (13, .ireturn, 1), (14, .astore 4, 2), (16, .iconst 2, 1), (17, .ireturn, 1), (18, .iconst 0, 1), (19, .ireturn, 1)] : List (Nat × Instr × Nat)), decode method_17_code q.1 = .ok (q.2.1, q.2.2) := by decide +kernel
theorem d_La_span_0 : decode Y_La_span.2.1 0 = .ok (.aload_n 0, 1) := D_La_span_0 (0, .aload_n 0, 1) (List.mem_of_getElem? (i := 0) rfl)
theorem d_La_span_1 : decode Y_La_span.2.1 1 = .ok (.iload_n 1, 1) := D_La_span_0 (1, .iload_n 1, 1) (List.mem_of_getElem? (i := 1) rfl)
theorem d_La_span_2 : decode Y_La_span.2.1 2 = .ok (.iload_n 2, 1) := D_La_span_0 (2, .iload_n 2, 1) (List.mem_of_getElem? (i := 2) rfl)
theorem d_La_span_3 : decode Y_La_span.2.1 3 = .ok (.iload_n 3, 1) := D_La_span_0 (3, .iload_n 3, 1) (List.mem_of_getElem? (i := 3) rfl)
theorem d_La_span_4 : decode Y_La_span.2.1 4 = .ok (.invokevirtual 68, 3) := D_La_span_0 (4, .invokevirtual 68, 3) (List.mem_of_getElem? (i := 4) rfl)
theorem d_La_span_7 : decode Y_La_span.2.1 7 = .ok (.goto 11, 3) := D_La_span_0 (7, .goto 11, 3) (List.mem_of_getElem? (i := 5) rfl)
theorem d_La_span_10 : decode Y_La_span.2.1 10 = .ok (.astore 4, 2) := D_La_span_0 (10, .astore 4, 2) (List.mem_of_getElem? (i := 6) rfl)
theorem d_La_span_12 : decode Y_La_span.2.1 12 = .ok (.iconst 1, 1) := D_La_span_0 (12, .iconst 1, 1) (List.mem_of_getElem? (i := 7) rfl)
theorem d_La_span_13 : decode Y_La_span.2.1 13 = .ok (.ireturn, 1) := D_La_span_0 (13, .ireturn, 1) (List.mem_of_getElem? (i := 8) rfl)
theorem d_La_span_14 : decode Y_La_span.2.1 14 = .ok (.astore 4, 2) := D_La_span_0 (14, .astore 4, 2) (List.mem_of_getElem? (i := 9) rfl)
theorem d_La_span_16 : decode Y_La_span.2.1 16 = .ok (.iconst 2, 1) := D_La_span_0 (16, .iconst 2, 1) (List.mem_of_getElem? (i := 10) rfl)
theorem d_La_span_17 : decode Y_La_span.2.1 17 = .ok (.ireturn, 1) := D_La_span_0 (17, .ireturn, 1) (List.mem_of_getElem? (i := 11) rfl)
theorem d_La_span_18 : decode Y_La_span.2.1 18 = .ok (.iconst 0, 1) := D_La_span_0 (18, .iconst 0, 1) (List.mem_of_getElem? (i := 12) rfl)
theorem d_La_span_19 : decode Y_La_span.2.1 19 = .ok (.ireturn, 1) := D_La_span_0 (19, .ireturn, 1) (List.mem_of_getElem? (i := 13) rfl)
theorem D_La_mix_0 : ∀ q ∈ ([(0, .aload 4, 2), (2, .iconst 0, 1), (3, .aload_n 0, 1), (4, .iload_n 1, 1), (5, .iload_n 2, 1), (6, .iload_n 3, 1), (7, .invokevirtual 71, 3), (10, .ifCond .eq 7, 3), (13, .lconst 1, 1), (14, .goto 4, 3), (17, .lconst 0, 1), (18, .lastore, 1), (19, .goto 15, 3), (22, .astore 5, 2), (24, .iconst 1, 1), (25, .ireturn, 1), (26, .astore 5, 2), (28, .iconst 2, 1), (29, .ireturn, 1), (30, .astore 5, 2), (32, .iconst 3, 1), (33, .ireturn, 1), (34, .iconst 0, 1), (35, .ireturn, 1)] : List (Nat × Instr × Nat)), decode method_18_code q.1 = .ok (q.2.1, q.2.2) := by decide +kernel
theorem d_La_mix_0 : decode Y_La_mix.2.1 0 = .ok (.aload 4, 2) := D_La_mix_0 (0, .aload 4, 2) (List.mem_of_getElem? (i := 0) rfl)
theorem d_La_mix_2 : decode Y_La_mix.2.1 2 = .ok (.iconst 0, 1) := D_La_mix_0 (2, .iconst 0, 1) (List.mem_of_getElem? (i := 1) rfl)
theorem d_La_mix_3 : decode Y_La_mix.2.1 3 = .ok (.aload_n 0, 1) := D_La_mix_0 (3, .aload_n 0, 1) (List.mem_of_getElem? (i := 2) rfl)
theorem d_La_mix_4 : decode Y_La_mix.2.1 4 = .ok (.iload_n 1, 1) := D_La_mix_0 (4, .iload_n 1, 1) (List.mem_of_getElem? (i := 3) rfl)
theorem d_La_mix_5 : decode Y_La_mix.2.1 5 = .ok (.iload_n 2, 1) := D_La_mix_0 (5, .iload_n 2, 1) (List.mem_of_getElem? (i := 4) rfl)
theorem d_La_mix_6 : decode Y_La_mix.2.1 6 = .ok (.iload_n 3, 1) := D_La_mix_0 (6, .iload_n 3, 1) (List.mem_of_getElem? (i := 5) rfl)
theorem d_La_mix_7 : decode Y_La_mix.2.1 7 = .ok (.invokevirtual 71, 3) := D_La_mix_0 (7, .invokevirtual 71, 3) (List.mem_of_getElem? (i := 6) rfl)
theorem d_La_mix_10 : decode Y_La_mix.2.1 10 = .ok (.ifCond .eq 7, 3) := D_La_mix_0 (10, .ifCond .eq 7, 3) (List.mem_of_getElem? (i := 7) rfl)
theorem d_La_mix_13 : decode Y_La_mix.2.1 13 = .ok (.lconst 1, 1) := D_La_mix_0 (13, .lconst 1, 1) (List.mem_of_getElem? (i := 8) rfl)
theorem d_La_mix_14 : decode Y_La_mix.2.1 14 = .ok (.goto 4, 3) := D_La_mix_0 (14, .goto 4, 3) (List.mem_of_getElem? (i := 9) rfl)
theorem d_La_mix_17 : decode Y_La_mix.2.1 17 = .ok (.lconst 0, 1) := D_La_mix_0 (17, .lconst 0, 1) (List.mem_of_getElem? (i := 10) rfl)
theorem d_La_mix_18 : decode Y_La_mix.2.1 18 = .ok (.lastore, 1) := D_La_mix_0 (18, .lastore, 1) (List.mem_of_getElem? (i := 11) rfl)
theorem d_La_mix_19 : decode Y_La_mix.2.1 19 = .ok (.goto 15, 3) := D_La_mix_0 (19, .goto 15, 3) (List.mem_of_getElem? (i := 12) rfl)
theorem d_La_mix_22 : decode Y_La_mix.2.1 22 = .ok (.astore 5, 2) := D_La_mix_0 (22, .astore 5, 2) (List.mem_of_getElem? (i := 13) rfl)
theorem d_La_mix_24 : decode Y_La_mix.2.1 24 = .ok (.iconst 1, 1) := D_La_mix_0 (24, .iconst 1, 1) (List.mem_of_getElem? (i := 14) rfl)
theorem d_La_mix_25 : decode Y_La_mix.2.1 25 = .ok (.ireturn, 1) := D_La_mix_0 (25, .ireturn, 1) (List.mem_of_getElem? (i := 15) rfl)
theorem d_La_mix_26 : decode Y_La_mix.2.1 26 = .ok (.astore 5, 2) := D_La_mix_0 (26, .astore 5, 2) (List.mem_of_getElem? (i := 16) rfl)
theorem d_La_mix_28 : decode Y_La_mix.2.1 28 = .ok (.iconst 2, 1) := D_La_mix_0 (28, .iconst 2, 1) (List.mem_of_getElem? (i := 17) rfl)
theorem d_La_mix_29 : decode Y_La_mix.2.1 29 = .ok (.ireturn, 1) := D_La_mix_0 (29, .ireturn, 1) (List.mem_of_getElem? (i := 18) rfl)
theorem d_La_mix_30 : decode Y_La_mix.2.1 30 = .ok (.astore 5, 2) := D_La_mix_0 (30, .astore 5, 2) (List.mem_of_getElem? (i := 19) rfl)
theorem d_La_mix_32 : decode Y_La_mix.2.1 32 = .ok (.iconst 3, 1) := D_La_mix_0 (32, .iconst 3, 1) (List.mem_of_getElem? (i := 20) rfl)
theorem d_La_mix_33 : decode Y_La_mix.2.1 33 = .ok (.ireturn, 1) := D_La_mix_0 (33, .ireturn, 1) (List.mem_of_getElem? (i := 21) rfl)
theorem d_La_mix_34 : decode Y_La_mix.2.1 34 = .ok (.iconst 0, 1) := D_La_mix_0 (34, .iconst 0, 1) (List.mem_of_getElem? (i := 22) rfl)
theorem d_La_mix_35 : decode Y_La_mix.2.1 35 = .ok (.ireturn, 1) := D_La_mix_0 (35, .ireturn, 1) (List.mem_of_getElem? (i := 23) rfl)
end
section
theorem D_La_law_0 : ∀ q ∈ ([(0, .new 8, 3), (3, .dup, 1), (4, .invokespecial 74, 3), (7, .astore_n 1, 1), (8, .new 75, 3), (11, .dup, 1), (12, .invokespecial 77, 3), (15, .astore_n 2, 1), (16, .iconst 1, 1), (17, .newarray .long, 2), (19, .astore_n 3, 1), (20, .iconst 0, 1), (21, .istore 4, 2), (23, .iload 4, 2), (25, .aload_n 0, 1), (26, .arraylength, 1), (27, .bipush 7, 2), (29, .isub, 1), (30, .if_icmp .gt 1338, 3), (33, .aload_n 0, 1), (34, .iload 4, 2), (36, .iaload, 1), (37, .bipush 31, 2), (39, .iand, 1), (40, .tableswitch 1322 0 17 #[88, 148, 228, 311, 382, 450, 537, 604, 702, 789, 869, 924, 935, 1003, 1082, 1161, 1221, 1308], 88), (128, .aload_n 1, 1), (129, .aload_n 0, 1), (130, .iload 4, 2), (132, .iconst 1, 1), (133, .iadd, 1), (134, .iaload, 1), (135, .aload_n 0, 1), (136, .iload 4, 2), (138, .iconst 2, 1), (139, .iadd, 1), (140, .iaload, 1), (141, .aload_n 0, 1), (142, .iload 4, 2), (144, .iconst 3, 1), (145, .iadd, 1), (146, .iaload, 1), (147, .invokestatic 78, 3), (150, .istore 5, 2), (152, .aload_n 2, 1), (153, .aload_n 0, 1), (154, .iload 4, 2), (156, .iconst 1, 1), (157, .iadd, 1), (158, .iaload, 1), (159, .aload_n 0, 1), (160, .iload 4, 2), (162, .iconst 2, 1), (163, .iadd, 1), (164, .iaload, 1), (165, .aload_n 0, 1), (166, .iload 4, 2), (168, .iconst 3, 1), (169, .iadd, 1), (170, .iaload, 1), (171, .invokevirtual 83, 3)] : List (Nat × Instr × Nat)), decode code q.1 = .ok (q.2.1, q.2.2) := by decide +kernel
theorem d_La_law_0 : decode Y_La_law.2.1 0 = .ok (.new 8, 3) := D_La_law_0 (0, .new 8, 3) (List.mem_of_getElem? (i := 0) rfl)
theorem d_La_law_3 : decode Y_La_law.2.1 3 = .ok (.dup, 1) := D_La_law_0 (3, .dup, 1) (List.mem_of_getElem? (i := 1) rfl)
theorem d_La_law_4 : decode Y_La_law.2.1 4 = .ok (.invokespecial 74, 3) := D_La_law_0 (4, .invokespecial 74, 3) (List.mem_of_getElem? (i := 2) rfl)
theorem d_La_law_7 : decode Y_La_law.2.1 7 = .ok (.astore_n 1, 1) := D_La_law_0 (7, .astore_n 1, 1) (List.mem_of_getElem? (i := 3) rfl)
theorem d_La_law_8 : decode Y_La_law.2.1 8 = .ok (.new 75, 3) := D_La_law_0 (8, .new 75, 3) (List.mem_of_getElem? (i := 4) rfl)
theorem d_La_law_11 : decode Y_La_law.2.1 11 = .ok (.dup, 1) := D_La_law_0 (11, .dup, 1) (List.mem_of_getElem? (i := 5) rfl)
theorem d_La_law_12 : decode Y_La_law.2.1 12 = .ok (.invokespecial 77, 3) := D_La_law_0 (12, .invokespecial 77, 3) (List.mem_of_getElem? (i := 6) rfl)
theorem d_La_law_15 : decode Y_La_law.2.1 15 = .ok (.astore_n 2, 1) := D_La_law_0 (15, .astore_n 2, 1) (List.mem_of_getElem? (i := 7) rfl)
theorem d_La_law_16 : decode Y_La_law.2.1 16 = .ok (.iconst 1, 1) := D_La_law_0 (16, .iconst 1, 1) (List.mem_of_getElem? (i := 8) rfl)
theorem d_La_law_17 : decode Y_La_law.2.1 17 = .ok (.newarray .long, 2) := D_La_law_0 (17, .newarray .long, 2) (List.mem_of_getElem? (i := 9) rfl)
theorem d_La_law_19 : decode Y_La_law.2.1 19 = .ok (.astore_n 3, 1) := D_La_law_0 (19, .astore_n 3, 1) (List.mem_of_getElem? (i := 10) rfl)
theorem d_La_law_20 : decode Y_La_law.2.1 20 = .ok (.iconst 0, 1) := D_La_law_0 (20, .iconst 0, 1) (List.mem_of_getElem? (i := 11) rfl)
theorem d_La_law_21 : decode Y_La_law.2.1 21 = .ok (.istore 4, 2) := D_La_law_0 (21, .istore 4, 2) (List.mem_of_getElem? (i := 12) rfl)
theorem d_La_law_23 : decode Y_La_law.2.1 23 = .ok (.iload 4, 2) := D_La_law_0 (23, .iload 4, 2) (List.mem_of_getElem? (i := 13) rfl)
theorem d_La_law_25 : decode Y_La_law.2.1 25 = .ok (.aload_n 0, 1) := D_La_law_0 (25, .aload_n 0, 1) (List.mem_of_getElem? (i := 14) rfl)
theorem d_La_law_26 : decode Y_La_law.2.1 26 = .ok (.arraylength, 1) := D_La_law_0 (26, .arraylength, 1) (List.mem_of_getElem? (i := 15) rfl)
theorem d_La_law_27 : decode Y_La_law.2.1 27 = .ok (.bipush 7, 2) := D_La_law_0 (27, .bipush 7, 2) (List.mem_of_getElem? (i := 16) rfl)
theorem d_La_law_29 : decode Y_La_law.2.1 29 = .ok (.isub, 1) := D_La_law_0 (29, .isub, 1) (List.mem_of_getElem? (i := 17) rfl)
theorem d_La_law_30 : decode Y_La_law.2.1 30 = .ok (.if_icmp .gt 1338, 3) := D_La_law_0 (30, .if_icmp .gt 1338, 3) (List.mem_of_getElem? (i := 18) rfl)
theorem d_La_law_33 : decode Y_La_law.2.1 33 = .ok (.aload_n 0, 1) := D_La_law_0 (33, .aload_n 0, 1) (List.mem_of_getElem? (i := 19) rfl)
theorem d_La_law_34 : decode Y_La_law.2.1 34 = .ok (.iload 4, 2) := D_La_law_0 (34, .iload 4, 2) (List.mem_of_getElem? (i := 20) rfl)
theorem d_La_law_36 : decode Y_La_law.2.1 36 = .ok (.iaload, 1) := D_La_law_0 (36, .iaload, 1) (List.mem_of_getElem? (i := 21) rfl)
theorem d_La_law_37 : decode Y_La_law.2.1 37 = .ok (.bipush 31, 2) := D_La_law_0 (37, .bipush 31, 2) (List.mem_of_getElem? (i := 22) rfl)
theorem d_La_law_39 : decode Y_La_law.2.1 39 = .ok (.iand, 1) := D_La_law_0 (39, .iand, 1) (List.mem_of_getElem? (i := 23) rfl)
theorem d_La_law_40 : decode Y_La_law.2.1 40 = .ok (.tableswitch 1322 0 17 #[88, 148, 228, 311, 382, 450, 537, 604, 702, 789, 869, 924, 935, 1003, 1082, 1161, 1221, 1308], 88) := D_La_law_0 (40, .tableswitch 1322 0 17 #[88, 148, 228, 311, 382, 450, 537, 604, 702, 789, 869, 924, 935, 1003, 1082, 1161, 1221, 1308], 88) (List.mem_of_getElem? (i := 24) rfl)
theorem d_La_law_128 : decode Y_La_law.2.1 128 = .ok (.aload_n 1, 1) := D_La_law_0 (128, .aload_n 1, 1) (List.mem_of_getElem? (i := 25) rfl)
theorem d_La_law_129 : decode Y_La_law.2.1 129 = .ok (.aload_n 0, 1) := D_La_law_0 (129, .aload_n 0, 1) (List.mem_of_getElem? (i := 26) rfl)
theorem d_La_law_130 : decode Y_La_law.2.1 130 = .ok (.iload 4, 2) := D_La_law_0 (130, .iload 4, 2) (List.mem_of_getElem? (i := 27) rfl)
theorem d_La_law_132 : decode Y_La_law.2.1 132 = .ok (.iconst 1, 1) := D_La_law_0 (132, .iconst 1, 1) (List.mem_of_getElem? (i := 28) rfl)
theorem d_La_law_133 : decode Y_La_law.2.1 133 = .ok (.iadd, 1) := D_La_law_0 (133, .iadd, 1) (List.mem_of_getElem? (i := 29) rfl)
theorem d_La_law_134 : decode Y_La_law.2.1 134 = .ok (.iaload, 1) := D_La_law_0 (134, .iaload, 1) (List.mem_of_getElem? (i := 30) rfl)
theorem d_La_law_135 : decode Y_La_law.2.1 135 = .ok (.aload_n 0, 1) := D_La_law_0 (135, .aload_n 0, 1) (List.mem_of_getElem? (i := 31) rfl)
theorem d_La_law_136 : decode Y_La_law.2.1 136 = .ok (.iload 4, 2) := D_La_law_0 (136, .iload 4, 2) (List.mem_of_getElem? (i := 32) rfl)
theorem d_La_law_138 : decode Y_La_law.2.1 138 = .ok (.iconst 2, 1) := D_La_law_0 (138, .iconst 2, 1) (List.mem_of_getElem? (i := 33) rfl)
theorem d_La_law_139 : decode Y_La_law.2.1 139 = .ok (.iadd, 1) := D_La_law_0 (139, .iadd, 1) (List.mem_of_getElem? (i := 34) rfl)
theorem d_La_law_140 : decode Y_La_law.2.1 140 = .ok (.iaload, 1) := D_La_law_0 (140, .iaload, 1) (List.mem_of_getElem? (i := 35) rfl)
theorem d_La_law_141 : decode Y_La_law.2.1 141 = .ok (.aload_n 0, 1) := D_La_law_0 (141, .aload_n 0, 1) (List.mem_of_getElem? (i := 36) rfl)
theorem d_La_law_142 : decode Y_La_law.2.1 142 = .ok (.iload 4, 2) := D_La_law_0 (142, .iload 4, 2) (List.mem_of_getElem? (i := 37) rfl)
theorem d_La_law_144 : decode Y_La_law.2.1 144 = .ok (.iconst 3, 1) := D_La_law_0 (144, .iconst 3, 1) (List.mem_of_getElem? (i := 38) rfl)
theorem d_La_law_145 : decode Y_La_law.2.1 145 = .ok (.iadd, 1) := D_La_law_0 (145, .iadd, 1) (List.mem_of_getElem? (i := 39) rfl)
theorem d_La_law_146 : decode Y_La_law.2.1 146 = .ok (.iaload, 1) := D_La_law_0 (146, .iaload, 1) (List.mem_of_getElem? (i := 40) rfl)
theorem d_La_law_147 : decode Y_La_law.2.1 147 = .ok (.invokestatic 78, 3) := D_La_law_0 (147, .invokestatic 78, 3) (List.mem_of_getElem? (i := 41) rfl)
theorem d_La_law_150 : decode Y_La_law.2.1 150 = .ok (.istore 5, 2) := D_La_law_0 (150, .istore 5, 2) (List.mem_of_getElem? (i := 42) rfl)
theorem d_La_law_152 : decode Y_La_law.2.1 152 = .ok (.aload_n 2, 1) := D_La_law_0 (152, .aload_n 2, 1) (List.mem_of_getElem? (i := 43) rfl)
theorem d_La_law_153 : decode Y_La_law.2.1 153 = .ok (.aload_n 0, 1) := D_La_law_0 (153, .aload_n 0, 1) (List.mem_of_getElem? (i := 44) rfl)
theorem d_La_law_154 : decode Y_La_law.2.1 154 = .ok (.iload 4, 2) := D_La_law_0 (154, .iload 4, 2) (List.mem_of_getElem? (i := 45) rfl)
theorem d_La_law_156 : decode Y_La_law.2.1 156 = .ok (.iconst 1, 1) := D_La_law_0 (156, .iconst 1, 1) (List.mem_of_getElem? (i := 46) rfl)
theorem d_La_law_157 : decode Y_La_law.2.1 157 = .ok (.iadd, 1) := D_La_law_0 (157, .iadd, 1) (List.mem_of_getElem? (i := 47) rfl)
theorem d_La_law_158 : decode Y_La_law.2.1 158 = .ok (.iaload, 1) := D_La_law_0 (158, .iaload, 1) (List.mem_of_getElem? (i := 48) rfl)
theorem d_La_law_159 : decode Y_La_law.2.1 159 = .ok (.aload_n 0, 1) := D_La_law_0 (159, .aload_n 0, 1) (List.mem_of_getElem? (i := 49) rfl)
theorem d_La_law_160 : decode Y_La_law.2.1 160 = .ok (.iload 4, 2) := D_La_law_0 (160, .iload 4, 2) (List.mem_of_getElem? (i := 50) rfl)
theorem d_La_law_162 : decode Y_La_law.2.1 162 = .ok (.iconst 2, 1) := D_La_law_0 (162, .iconst 2, 1) (List.mem_of_getElem? (i := 51) rfl)
theorem d_La_law_163 : decode Y_La_law.2.1 163 = .ok (.iadd, 1) := D_La_law_0 (163, .iadd, 1) (List.mem_of_getElem? (i := 52) rfl)
theorem d_La_law_164 : decode Y_La_law.2.1 164 = .ok (.iaload, 1) := D_La_law_0 (164, .iaload, 1) (List.mem_of_getElem? (i := 53) rfl)
theorem d_La_law_165 : decode Y_La_law.2.1 165 = .ok (.aload_n 0, 1) := D_La_law_0 (165, .aload_n 0, 1) (List.mem_of_getElem? (i := 54) rfl)
theorem d_La_law_166 : decode Y_La_law.2.1 166 = .ok (.iload 4, 2) := D_La_law_0 (166, .iload 4, 2) (List.mem_of_getElem? (i := 55) rfl)
theorem d_La_law_168 : decode Y_La_law.2.1 168 = .ok (.iconst 3, 1) := D_La_law_0 (168, .iconst 3, 1) (List.mem_of_getElem? (i := 56) rfl)
theorem d_La_law_169 : decode Y_La_law.2.1 169 = .ok (.iadd, 1) := D_La_law_0 (169, .iadd, 1) (List.mem_of_getElem? (i := 57) rfl)
theorem d_La_law_170 : decode Y_La_law.2.1 170 = .ok (.iaload, 1) := D_La_law_0 (170, .iaload, 1) (List.mem_of_getElem? (i := 58) rfl)
theorem d_La_law_171 : decode Y_La_law.2.1 171 = .ok (.invokevirtual 83, 3) := D_La_law_0 (171, .invokevirtual 83, 3) (List.mem_of_getElem? (i := 59) rfl)
theorem D_La_law_1 : ∀ q ∈ ([(174, .aload_n 2, 1), (175, .invokevirtual 84, 3), (178, .iload 5, 2), (180, .if_icmp .eq 5, 3), (183, .iconst 0, 1), (184, .ireturn, 1), (185, .goto 1177, 3), (188, .aload_n 1, 1), (189, .aload_n 0, 1), (190, .iload 4, 2), (192, .iconst 1, 1), (193, .iadd, 1), (194, .iaload, 1), (195, .aload_n 0, 1), (196, .iload 4, 2), (198, .iconst 2, 1), (199, .iadd, 1), (200, .iaload, 1), (201, .aload_n 0, 1), (202, .iload 4, 2), (204, .iconst 3, 1), (205, .iadd, 1), (206, .iaload, 1), (207, .aload_n 3, 1), (208, .invokestatic 88, 3), (211, .istore 5, 2), (213, .aload_n 2, 1), (214, .aload_n 0, 1), (215, .iload 4, 2), (217, .iconst 1, 1), (218, .iadd, 1), (219, .iaload, 1), (220, .aload_n 0, 1), (221, .iload 4, 2), (223, .iconst 2, 1), (224, .iadd, 1), (225, .iaload, 1), (226, .aload_n 0, 1), (227, .iload 4, 2), (229, .iconst 3, 1), (230, .iadd, 1), (231, .iaload, 1), (232, .invokevirtual 91, 3), (235, .istore 6, 2), (237, .aload_n 2, 1), (238, .invokevirtual 84, 3), (241, .iload 5, 2), (243, .if_icmp .eq 5, 3), (246, .iconst 0, 1), (247, .ireturn, 1), (248, .iload 5, 2), (250, .ifCond .ne 15, 3), (253, .aload_n 3, 1), (254, .iconst 0, 1), (255, .laload, 1), (256, .iload 6, 2), (258, .i2l, 1), (259, .lcmp, 1), (260, .ifCond .eq 5, 3), (263, .iconst 0, 1)] : List (Nat × Instr × Nat)), decode code q.1 = .ok (q.2.1, q.2.2) := by decide +kernel
theorem d_La_law_174 : decode Y_La_law.2.1 174 = .ok (.aload_n 2, 1) := D_La_law_1 (174, .aload_n 2, 1) (List.mem_of_getElem? (i := 0) rfl)
theorem d_La_law_175 : decode Y_La_law.2.1 175 = .ok (.invokevirtual 84, 3) := D_La_law_1 (175, .invokevirtual 84, 3) (List.mem_of_getElem? (i := 1) rfl)
theorem d_La_law_178 : decode Y_La_law.2.1 178 = .ok (.iload 5, 2) := D_La_law_1 (178, .iload 5, 2) (List.mem_of_getElem? (i := 2) rfl)
theorem d_La_law_180 : decode Y_La_law.2.1 180 = .ok (.if_icmp .eq 5, 3) := D_La_law_1 (180, .if_icmp .eq 5, 3) (List.mem_of_getElem? (i := 3) rfl)
theorem d_La_law_183 : decode Y_La_law.2.1 183 = .ok (.iconst 0, 1) := D_La_law_1 (183, .iconst 0, 1) (List.mem_of_getElem? (i := 4) rfl)
theorem d_La_law_184 : decode Y_La_law.2.1 184 = .ok (.ireturn, 1) := D_La_law_1 (184, .ireturn, 1) (List.mem_of_getElem? (i := 5) rfl)
theorem d_La_law_185 : decode Y_La_law.2.1 185 = .ok (.goto 1177, 3) := D_La_law_1 (185, .goto 1177, 3) (List.mem_of_getElem? (i := 6) rfl)
theorem d_La_law_188 : decode Y_La_law.2.1 188 = .ok (.aload_n 1, 1) := D_La_law_1 (188, .aload_n 1, 1) (List.mem_of_getElem? (i := 7) rfl)
theorem d_La_law_189 : decode Y_La_law.2.1 189 = .ok (.aload_n 0, 1) := D_La_law_1 (189, .aload_n 0, 1) (List.mem_of_getElem? (i := 8) rfl)
theorem d_La_law_190 : decode Y_La_law.2.1 190 = .ok (.iload 4, 2) := D_La_law_1 (190, .iload 4, 2) (List.mem_of_getElem? (i := 9) rfl)
theorem d_La_law_192 : decode Y_La_law.2.1 192 = .ok (.iconst 1, 1) := D_La_law_1 (192, .iconst 1, 1) (List.mem_of_getElem? (i := 10) rfl)
theorem d_La_law_193 : decode Y_La_law.2.1 193 = .ok (.iadd, 1) := D_La_law_1 (193, .iadd, 1) (List.mem_of_getElem? (i := 11) rfl)
theorem d_La_law_194 : decode Y_La_law.2.1 194 = .ok (.iaload, 1) := D_La_law_1 (194, .iaload, 1) (List.mem_of_getElem? (i := 12) rfl)
theorem d_La_law_195 : decode Y_La_law.2.1 195 = .ok (.aload_n 0, 1) := D_La_law_1 (195, .aload_n 0, 1) (List.mem_of_getElem? (i := 13) rfl)
theorem d_La_law_196 : decode Y_La_law.2.1 196 = .ok (.iload 4, 2) := D_La_law_1 (196, .iload 4, 2) (List.mem_of_getElem? (i := 14) rfl)
theorem d_La_law_198 : decode Y_La_law.2.1 198 = .ok (.iconst 2, 1) := D_La_law_1 (198, .iconst 2, 1) (List.mem_of_getElem? (i := 15) rfl)
theorem d_La_law_199 : decode Y_La_law.2.1 199 = .ok (.iadd, 1) := D_La_law_1 (199, .iadd, 1) (List.mem_of_getElem? (i := 16) rfl)
theorem d_La_law_200 : decode Y_La_law.2.1 200 = .ok (.iaload, 1) := D_La_law_1 (200, .iaload, 1) (List.mem_of_getElem? (i := 17) rfl)
theorem d_La_law_201 : decode Y_La_law.2.1 201 = .ok (.aload_n 0, 1) := D_La_law_1 (201, .aload_n 0, 1) (List.mem_of_getElem? (i := 18) rfl)
theorem d_La_law_202 : decode Y_La_law.2.1 202 = .ok (.iload 4, 2) := D_La_law_1 (202, .iload 4, 2) (List.mem_of_getElem? (i := 19) rfl)
theorem d_La_law_204 : decode Y_La_law.2.1 204 = .ok (.iconst 3, 1) := D_La_law_1 (204, .iconst 3, 1) (List.mem_of_getElem? (i := 20) rfl)
theorem d_La_law_205 : decode Y_La_law.2.1 205 = .ok (.iadd, 1) := D_La_law_1 (205, .iadd, 1) (List.mem_of_getElem? (i := 21) rfl)
theorem d_La_law_206 : decode Y_La_law.2.1 206 = .ok (.iaload, 1) := D_La_law_1 (206, .iaload, 1) (List.mem_of_getElem? (i := 22) rfl)
theorem d_La_law_207 : decode Y_La_law.2.1 207 = .ok (.aload_n 3, 1) := D_La_law_1 (207, .aload_n 3, 1) (List.mem_of_getElem? (i := 23) rfl)
theorem d_La_law_208 : decode Y_La_law.2.1 208 = .ok (.invokestatic 88, 3) := D_La_law_1 (208, .invokestatic 88, 3) (List.mem_of_getElem? (i := 24) rfl)
theorem d_La_law_211 : decode Y_La_law.2.1 211 = .ok (.istore 5, 2) := D_La_law_1 (211, .istore 5, 2) (List.mem_of_getElem? (i := 25) rfl)
theorem d_La_law_213 : decode Y_La_law.2.1 213 = .ok (.aload_n 2, 1) := D_La_law_1 (213, .aload_n 2, 1) (List.mem_of_getElem? (i := 26) rfl)
theorem d_La_law_214 : decode Y_La_law.2.1 214 = .ok (.aload_n 0, 1) := D_La_law_1 (214, .aload_n 0, 1) (List.mem_of_getElem? (i := 27) rfl)
theorem d_La_law_215 : decode Y_La_law.2.1 215 = .ok (.iload 4, 2) := D_La_law_1 (215, .iload 4, 2) (List.mem_of_getElem? (i := 28) rfl)
theorem d_La_law_217 : decode Y_La_law.2.1 217 = .ok (.iconst 1, 1) := D_La_law_1 (217, .iconst 1, 1) (List.mem_of_getElem? (i := 29) rfl)
theorem d_La_law_218 : decode Y_La_law.2.1 218 = .ok (.iadd, 1) := D_La_law_1 (218, .iadd, 1) (List.mem_of_getElem? (i := 30) rfl)
theorem d_La_law_219 : decode Y_La_law.2.1 219 = .ok (.iaload, 1) := D_La_law_1 (219, .iaload, 1) (List.mem_of_getElem? (i := 31) rfl)
theorem d_La_law_220 : decode Y_La_law.2.1 220 = .ok (.aload_n 0, 1) := D_La_law_1 (220, .aload_n 0, 1) (List.mem_of_getElem? (i := 32) rfl)
theorem d_La_law_221 : decode Y_La_law.2.1 221 = .ok (.iload 4, 2) := D_La_law_1 (221, .iload 4, 2) (List.mem_of_getElem? (i := 33) rfl)
theorem d_La_law_223 : decode Y_La_law.2.1 223 = .ok (.iconst 2, 1) := D_La_law_1 (223, .iconst 2, 1) (List.mem_of_getElem? (i := 34) rfl)
theorem d_La_law_224 : decode Y_La_law.2.1 224 = .ok (.iadd, 1) := D_La_law_1 (224, .iadd, 1) (List.mem_of_getElem? (i := 35) rfl)
theorem d_La_law_225 : decode Y_La_law.2.1 225 = .ok (.iaload, 1) := D_La_law_1 (225, .iaload, 1) (List.mem_of_getElem? (i := 36) rfl)
theorem d_La_law_226 : decode Y_La_law.2.1 226 = .ok (.aload_n 0, 1) := D_La_law_1 (226, .aload_n 0, 1) (List.mem_of_getElem? (i := 37) rfl)
theorem d_La_law_227 : decode Y_La_law.2.1 227 = .ok (.iload 4, 2) := D_La_law_1 (227, .iload 4, 2) (List.mem_of_getElem? (i := 38) rfl)
theorem d_La_law_229 : decode Y_La_law.2.1 229 = .ok (.iconst 3, 1) := D_La_law_1 (229, .iconst 3, 1) (List.mem_of_getElem? (i := 39) rfl)
theorem d_La_law_230 : decode Y_La_law.2.1 230 = .ok (.iadd, 1) := D_La_law_1 (230, .iadd, 1) (List.mem_of_getElem? (i := 40) rfl)
theorem d_La_law_231 : decode Y_La_law.2.1 231 = .ok (.iaload, 1) := D_La_law_1 (231, .iaload, 1) (List.mem_of_getElem? (i := 41) rfl)
theorem d_La_law_232 : decode Y_La_law.2.1 232 = .ok (.invokevirtual 91, 3) := D_La_law_1 (232, .invokevirtual 91, 3) (List.mem_of_getElem? (i := 42) rfl)
theorem d_La_law_235 : decode Y_La_law.2.1 235 = .ok (.istore 6, 2) := D_La_law_1 (235, .istore 6, 2) (List.mem_of_getElem? (i := 43) rfl)
theorem d_La_law_237 : decode Y_La_law.2.1 237 = .ok (.aload_n 2, 1) := D_La_law_1 (237, .aload_n 2, 1) (List.mem_of_getElem? (i := 44) rfl)
theorem d_La_law_238 : decode Y_La_law.2.1 238 = .ok (.invokevirtual 84, 3) := D_La_law_1 (238, .invokevirtual 84, 3) (List.mem_of_getElem? (i := 45) rfl)
theorem d_La_law_241 : decode Y_La_law.2.1 241 = .ok (.iload 5, 2) := D_La_law_1 (241, .iload 5, 2) (List.mem_of_getElem? (i := 46) rfl)
theorem d_La_law_243 : decode Y_La_law.2.1 243 = .ok (.if_icmp .eq 5, 3) := D_La_law_1 (243, .if_icmp .eq 5, 3) (List.mem_of_getElem? (i := 47) rfl)
theorem d_La_law_246 : decode Y_La_law.2.1 246 = .ok (.iconst 0, 1) := D_La_law_1 (246, .iconst 0, 1) (List.mem_of_getElem? (i := 48) rfl)
theorem d_La_law_247 : decode Y_La_law.2.1 247 = .ok (.ireturn, 1) := D_La_law_1 (247, .ireturn, 1) (List.mem_of_getElem? (i := 49) rfl)
theorem d_La_law_248 : decode Y_La_law.2.1 248 = .ok (.iload 5, 2) := D_La_law_1 (248, .iload 5, 2) (List.mem_of_getElem? (i := 50) rfl)
theorem d_La_law_250 : decode Y_La_law.2.1 250 = .ok (.ifCond .ne 15, 3) := D_La_law_1 (250, .ifCond .ne 15, 3) (List.mem_of_getElem? (i := 51) rfl)
theorem d_La_law_253 : decode Y_La_law.2.1 253 = .ok (.aload_n 3, 1) := D_La_law_1 (253, .aload_n 3, 1) (List.mem_of_getElem? (i := 52) rfl)
theorem d_La_law_254 : decode Y_La_law.2.1 254 = .ok (.iconst 0, 1) := D_La_law_1 (254, .iconst 0, 1) (List.mem_of_getElem? (i := 53) rfl)
theorem d_La_law_255 : decode Y_La_law.2.1 255 = .ok (.laload, 1) := D_La_law_1 (255, .laload, 1) (List.mem_of_getElem? (i := 54) rfl)
theorem d_La_law_256 : decode Y_La_law.2.1 256 = .ok (.iload 6, 2) := D_La_law_1 (256, .iload 6, 2) (List.mem_of_getElem? (i := 55) rfl)
theorem d_La_law_258 : decode Y_La_law.2.1 258 = .ok (.i2l, 1) := D_La_law_1 (258, .i2l, 1) (List.mem_of_getElem? (i := 56) rfl)
theorem d_La_law_259 : decode Y_La_law.2.1 259 = .ok (.lcmp, 1) := D_La_law_1 (259, .lcmp, 1) (List.mem_of_getElem? (i := 57) rfl)
theorem d_La_law_260 : decode Y_La_law.2.1 260 = .ok (.ifCond .eq 5, 3) := D_La_law_1 (260, .ifCond .eq 5, 3) (List.mem_of_getElem? (i := 58) rfl)
theorem d_La_law_263 : decode Y_La_law.2.1 263 = .ok (.iconst 0, 1) := D_La_law_1 (263, .iconst 0, 1) (List.mem_of_getElem? (i := 59) rfl)
theorem D_La_law_2 : ∀ q ∈ ([(264, .ireturn, 1), (265, .goto 1097, 3), (268, .aload_n 1, 1), (269, .aload_n 0, 1), (270, .iload 4, 2), (272, .iconst 1, 1), (273, .iadd, 1), (274, .iaload, 1), (275, .aload_n 0, 1), (276, .iload 4, 2), (278, .iconst 2, 1), (279, .iadd, 1), (280, .iaload, 1), (281, .ifCond .eq 7, 3), (284, .iconst 1, 1), (285, .goto 4, 3), (288, .iconst 0, 1), (289, .aload_n 3, 1), (290, .invokestatic 92, 3), (293, .istore 5, 2), (295, .aload_n 2, 1), (296, .aload_n 0, 1), (297, .iload 4, 2), (299, .iconst 1, 1), (300, .iadd, 1), (301, .iaload, 1), (302, .aload_n 0, 1), (303, .iload 4, 2), (305, .iconst 2, 1), (306, .iadd, 1), (307, .iaload, 1), (308, .ifCond .eq 7, 3), (311, .iconst 1, 1), (312, .goto 4, 3), (315, .iconst 0, 1), (316, .invokevirtual 95, 3), (319, .lstore 6, 2), (321, .aload_n 2, 1), (322, .invokevirtual 84, 3), (325, .iload 5, 2), (327, .if_icmp .eq 5, 3), (330, .iconst 0, 1), (331, .ireturn, 1), (332, .iload 5, 2), (334, .ifCond .ne 14, 3), (337, .aload_n 3, 1), (338, .iconst 0, 1), (339, .laload, 1), (340, .lload 6, 2), (342, .lcmp, 1), (343, .ifCond .eq 5, 3), (346, .iconst 0, 1), (347, .ireturn, 1), (348, .goto 1014, 3), (351, .aload_n 1, 1), (352, .aload_n 0, 1), (353, .iload 4, 2), (355, .iconst 1, 1), (356, .iadd, 1), (357, .iaload, 1)] : List (Nat × Instr × Nat)), decode code q.1 = .ok (q.2.1, q.2.2) := by decide +kernel
theorem d_La_law_264 : decode Y_La_law.2.1 264 = .ok (.ireturn, 1) := D_La_law_2 (264, .ireturn, 1) (List.mem_of_getElem? (i := 0) rfl)
theorem d_La_law_265 : decode Y_La_law.2.1 265 = .ok (.goto 1097, 3) := D_La_law_2 (265, .goto 1097, 3) (List.mem_of_getElem? (i := 1) rfl)
theorem d_La_law_268 : decode Y_La_law.2.1 268 = .ok (.aload_n 1, 1) := D_La_law_2 (268, .aload_n 1, 1) (List.mem_of_getElem? (i := 2) rfl)
theorem d_La_law_269 : decode Y_La_law.2.1 269 = .ok (.aload_n 0, 1) := D_La_law_2 (269, .aload_n 0, 1) (List.mem_of_getElem? (i := 3) rfl)
theorem d_La_law_270 : decode Y_La_law.2.1 270 = .ok (.iload 4, 2) := D_La_law_2 (270, .iload 4, 2) (List.mem_of_getElem? (i := 4) rfl)
theorem d_La_law_272 : decode Y_La_law.2.1 272 = .ok (.iconst 1, 1) := D_La_law_2 (272, .iconst 1, 1) (List.mem_of_getElem? (i := 5) rfl)
theorem d_La_law_273 : decode Y_La_law.2.1 273 = .ok (.iadd, 1) := D_La_law_2 (273, .iadd, 1) (List.mem_of_getElem? (i := 6) rfl)
theorem d_La_law_274 : decode Y_La_law.2.1 274 = .ok (.iaload, 1) := D_La_law_2 (274, .iaload, 1) (List.mem_of_getElem? (i := 7) rfl)
theorem d_La_law_275 : decode Y_La_law.2.1 275 = .ok (.aload_n 0, 1) := D_La_law_2 (275, .aload_n 0, 1) (List.mem_of_getElem? (i := 8) rfl)
theorem d_La_law_276 : decode Y_La_law.2.1 276 = .ok (.iload 4, 2) := D_La_law_2 (276, .iload 4, 2) (List.mem_of_getElem? (i := 9) rfl)
theorem d_La_law_278 : decode Y_La_law.2.1 278 = .ok (.iconst 2, 1) := D_La_law_2 (278, .iconst 2, 1) (List.mem_of_getElem? (i := 10) rfl)
theorem d_La_law_279 : decode Y_La_law.2.1 279 = .ok (.iadd, 1) := D_La_law_2 (279, .iadd, 1) (List.mem_of_getElem? (i := 11) rfl)
theorem d_La_law_280 : decode Y_La_law.2.1 280 = .ok (.iaload, 1) := D_La_law_2 (280, .iaload, 1) (List.mem_of_getElem? (i := 12) rfl)
theorem d_La_law_281 : decode Y_La_law.2.1 281 = .ok (.ifCond .eq 7, 3) := D_La_law_2 (281, .ifCond .eq 7, 3) (List.mem_of_getElem? (i := 13) rfl)
theorem d_La_law_284 : decode Y_La_law.2.1 284 = .ok (.iconst 1, 1) := D_La_law_2 (284, .iconst 1, 1) (List.mem_of_getElem? (i := 14) rfl)
theorem d_La_law_285 : decode Y_La_law.2.1 285 = .ok (.goto 4, 3) := D_La_law_2 (285, .goto 4, 3) (List.mem_of_getElem? (i := 15) rfl)
theorem d_La_law_288 : decode Y_La_law.2.1 288 = .ok (.iconst 0, 1) := D_La_law_2 (288, .iconst 0, 1) (List.mem_of_getElem? (i := 16) rfl)
theorem d_La_law_289 : decode Y_La_law.2.1 289 = .ok (.aload_n 3, 1) := D_La_law_2 (289, .aload_n 3, 1) (List.mem_of_getElem? (i := 17) rfl)
theorem d_La_law_290 : decode Y_La_law.2.1 290 = .ok (.invokestatic 92, 3) := D_La_law_2 (290, .invokestatic 92, 3) (List.mem_of_getElem? (i := 18) rfl)
theorem d_La_law_293 : decode Y_La_law.2.1 293 = .ok (.istore 5, 2) := D_La_law_2 (293, .istore 5, 2) (List.mem_of_getElem? (i := 19) rfl)
theorem d_La_law_295 : decode Y_La_law.2.1 295 = .ok (.aload_n 2, 1) := D_La_law_2 (295, .aload_n 2, 1) (List.mem_of_getElem? (i := 20) rfl)
theorem d_La_law_296 : decode Y_La_law.2.1 296 = .ok (.aload_n 0, 1) := D_La_law_2 (296, .aload_n 0, 1) (List.mem_of_getElem? (i := 21) rfl)
theorem d_La_law_297 : decode Y_La_law.2.1 297 = .ok (.iload 4, 2) := D_La_law_2 (297, .iload 4, 2) (List.mem_of_getElem? (i := 22) rfl)
theorem d_La_law_299 : decode Y_La_law.2.1 299 = .ok (.iconst 1, 1) := D_La_law_2 (299, .iconst 1, 1) (List.mem_of_getElem? (i := 23) rfl)
theorem d_La_law_300 : decode Y_La_law.2.1 300 = .ok (.iadd, 1) := D_La_law_2 (300, .iadd, 1) (List.mem_of_getElem? (i := 24) rfl)
theorem d_La_law_301 : decode Y_La_law.2.1 301 = .ok (.iaload, 1) := D_La_law_2 (301, .iaload, 1) (List.mem_of_getElem? (i := 25) rfl)
theorem d_La_law_302 : decode Y_La_law.2.1 302 = .ok (.aload_n 0, 1) := D_La_law_2 (302, .aload_n 0, 1) (List.mem_of_getElem? (i := 26) rfl)
theorem d_La_law_303 : decode Y_La_law.2.1 303 = .ok (.iload 4, 2) := D_La_law_2 (303, .iload 4, 2) (List.mem_of_getElem? (i := 27) rfl)
theorem d_La_law_305 : decode Y_La_law.2.1 305 = .ok (.iconst 2, 1) := D_La_law_2 (305, .iconst 2, 1) (List.mem_of_getElem? (i := 28) rfl)
theorem d_La_law_306 : decode Y_La_law.2.1 306 = .ok (.iadd, 1) := D_La_law_2 (306, .iadd, 1) (List.mem_of_getElem? (i := 29) rfl)
theorem d_La_law_307 : decode Y_La_law.2.1 307 = .ok (.iaload, 1) := D_La_law_2 (307, .iaload, 1) (List.mem_of_getElem? (i := 30) rfl)
theorem d_La_law_308 : decode Y_La_law.2.1 308 = .ok (.ifCond .eq 7, 3) := D_La_law_2 (308, .ifCond .eq 7, 3) (List.mem_of_getElem? (i := 31) rfl)
theorem d_La_law_311 : decode Y_La_law.2.1 311 = .ok (.iconst 1, 1) := D_La_law_2 (311, .iconst 1, 1) (List.mem_of_getElem? (i := 32) rfl)
theorem d_La_law_312 : decode Y_La_law.2.1 312 = .ok (.goto 4, 3) := D_La_law_2 (312, .goto 4, 3) (List.mem_of_getElem? (i := 33) rfl)
theorem d_La_law_315 : decode Y_La_law.2.1 315 = .ok (.iconst 0, 1) := D_La_law_2 (315, .iconst 0, 1) (List.mem_of_getElem? (i := 34) rfl)
theorem d_La_law_316 : decode Y_La_law.2.1 316 = .ok (.invokevirtual 95, 3) := D_La_law_2 (316, .invokevirtual 95, 3) (List.mem_of_getElem? (i := 35) rfl)
theorem d_La_law_319 : decode Y_La_law.2.1 319 = .ok (.lstore 6, 2) := D_La_law_2 (319, .lstore 6, 2) (List.mem_of_getElem? (i := 36) rfl)
theorem d_La_law_321 : decode Y_La_law.2.1 321 = .ok (.aload_n 2, 1) := D_La_law_2 (321, .aload_n 2, 1) (List.mem_of_getElem? (i := 37) rfl)
theorem d_La_law_322 : decode Y_La_law.2.1 322 = .ok (.invokevirtual 84, 3) := D_La_law_2 (322, .invokevirtual 84, 3) (List.mem_of_getElem? (i := 38) rfl)
theorem d_La_law_325 : decode Y_La_law.2.1 325 = .ok (.iload 5, 2) := D_La_law_2 (325, .iload 5, 2) (List.mem_of_getElem? (i := 39) rfl)
theorem d_La_law_327 : decode Y_La_law.2.1 327 = .ok (.if_icmp .eq 5, 3) := D_La_law_2 (327, .if_icmp .eq 5, 3) (List.mem_of_getElem? (i := 40) rfl)
theorem d_La_law_330 : decode Y_La_law.2.1 330 = .ok (.iconst 0, 1) := D_La_law_2 (330, .iconst 0, 1) (List.mem_of_getElem? (i := 41) rfl)
theorem d_La_law_331 : decode Y_La_law.2.1 331 = .ok (.ireturn, 1) := D_La_law_2 (331, .ireturn, 1) (List.mem_of_getElem? (i := 42) rfl)
theorem d_La_law_332 : decode Y_La_law.2.1 332 = .ok (.iload 5, 2) := D_La_law_2 (332, .iload 5, 2) (List.mem_of_getElem? (i := 43) rfl)
theorem d_La_law_334 : decode Y_La_law.2.1 334 = .ok (.ifCond .ne 14, 3) := D_La_law_2 (334, .ifCond .ne 14, 3) (List.mem_of_getElem? (i := 44) rfl)
theorem d_La_law_337 : decode Y_La_law.2.1 337 = .ok (.aload_n 3, 1) := D_La_law_2 (337, .aload_n 3, 1) (List.mem_of_getElem? (i := 45) rfl)
theorem d_La_law_338 : decode Y_La_law.2.1 338 = .ok (.iconst 0, 1) := D_La_law_2 (338, .iconst 0, 1) (List.mem_of_getElem? (i := 46) rfl)
theorem d_La_law_339 : decode Y_La_law.2.1 339 = .ok (.laload, 1) := D_La_law_2 (339, .laload, 1) (List.mem_of_getElem? (i := 47) rfl)
theorem d_La_law_340 : decode Y_La_law.2.1 340 = .ok (.lload 6, 2) := D_La_law_2 (340, .lload 6, 2) (List.mem_of_getElem? (i := 48) rfl)
theorem d_La_law_342 : decode Y_La_law.2.1 342 = .ok (.lcmp, 1) := D_La_law_2 (342, .lcmp, 1) (List.mem_of_getElem? (i := 49) rfl)
theorem d_La_law_343 : decode Y_La_law.2.1 343 = .ok (.ifCond .eq 5, 3) := D_La_law_2 (343, .ifCond .eq 5, 3) (List.mem_of_getElem? (i := 50) rfl)
theorem d_La_law_346 : decode Y_La_law.2.1 346 = .ok (.iconst 0, 1) := D_La_law_2 (346, .iconst 0, 1) (List.mem_of_getElem? (i := 51) rfl)
theorem d_La_law_347 : decode Y_La_law.2.1 347 = .ok (.ireturn, 1) := D_La_law_2 (347, .ireturn, 1) (List.mem_of_getElem? (i := 52) rfl)
theorem d_La_law_348 : decode Y_La_law.2.1 348 = .ok (.goto 1014, 3) := D_La_law_2 (348, .goto 1014, 3) (List.mem_of_getElem? (i := 53) rfl)
theorem d_La_law_351 : decode Y_La_law.2.1 351 = .ok (.aload_n 1, 1) := D_La_law_2 (351, .aload_n 1, 1) (List.mem_of_getElem? (i := 54) rfl)
theorem d_La_law_352 : decode Y_La_law.2.1 352 = .ok (.aload_n 0, 1) := D_La_law_2 (352, .aload_n 0, 1) (List.mem_of_getElem? (i := 55) rfl)
theorem d_La_law_353 : decode Y_La_law.2.1 353 = .ok (.iload 4, 2) := D_La_law_2 (353, .iload 4, 2) (List.mem_of_getElem? (i := 56) rfl)
theorem d_La_law_355 : decode Y_La_law.2.1 355 = .ok (.iconst 1, 1) := D_La_law_2 (355, .iconst 1, 1) (List.mem_of_getElem? (i := 57) rfl)
theorem d_La_law_356 : decode Y_La_law.2.1 356 = .ok (.iadd, 1) := D_La_law_2 (356, .iadd, 1) (List.mem_of_getElem? (i := 58) rfl)
theorem d_La_law_357 : decode Y_La_law.2.1 357 = .ok (.iaload, 1) := D_La_law_2 (357, .iaload, 1) (List.mem_of_getElem? (i := 59) rfl)
theorem D_La_law_3 : ∀ q ∈ ([(358, .ifCond .eq 7, 3), (361, .iconst 1, 1), (362, .goto 4, 3), (365, .iconst 0, 1), (366, .aload_n 3, 1), (367, .invokestatic 96, 3), (370, .istore 5, 2), (372, .aload_n 2, 1), (373, .aload_n 0, 1), (374, .iload 4, 2), (376, .iconst 1, 1), (377, .iadd, 1), (378, .iaload, 1), (379, .ifCond .eq 7, 3), (382, .iconst 1, 1), (383, .goto 4, 3), (386, .iconst 0, 1), (387, .invokevirtual 99, 3), (390, .lstore 6, 2), (392, .aload_n 2, 1), (393, .invokevirtual 84, 3), (396, .iload 5, 2), (398, .if_icmp .eq 5, 3), (401, .iconst 0, 1), (402, .ireturn, 1), (403, .iload 5, 2), (405, .ifCond .ne 14, 3), (408, .aload_n 3, 1), (409, .iconst 0, 1), (410, .laload, 1), (411, .lload 6, 2), (413, .lcmp, 1), (414, .ifCond .eq 5, 3), (417, .iconst 0, 1), (418, .ireturn, 1), (419, .goto 943, 3), (422, .aload_n 1, 1), (423, .aload_n 0, 1), (424, .iload 4, 2), (426, .iconst 1, 1), (427, .iadd, 1), (428, .iaload, 1), (429, .aload_n 0, 1), (430, .iload 4, 2), (432, .iconst 2, 1), (433, .iadd, 1), (434, .iaload, 1), (435, .aload_n 3, 1), (436, .invokestatic 100, 3), (439, .istore 5, 2), (441, .aload_n 2, 1), (442, .aload_n 0, 1), (443, .iload 4, 2), (445, .iconst 1, 1), (446, .iadd, 1), (447, .iaload, 1), (448, .aload_n 0, 1), (449, .iload 4, 2), (451, .iconst 2, 1), (452, .iadd, 1)] : List (Nat × Instr × Nat)), decode code q.1 = .ok (q.2.1, q.2.2) := by decide +kernel
theorem d_La_law_358 : decode Y_La_law.2.1 358 = .ok (.ifCond .eq 7, 3) := D_La_law_3 (358, .ifCond .eq 7, 3) (List.mem_of_getElem? (i := 0) rfl)
theorem d_La_law_361 : decode Y_La_law.2.1 361 = .ok (.iconst 1, 1) := D_La_law_3 (361, .iconst 1, 1) (List.mem_of_getElem? (i := 1) rfl)
theorem d_La_law_362 : decode Y_La_law.2.1 362 = .ok (.goto 4, 3) := D_La_law_3 (362, .goto 4, 3) (List.mem_of_getElem? (i := 2) rfl)
theorem d_La_law_365 : decode Y_La_law.2.1 365 = .ok (.iconst 0, 1) := D_La_law_3 (365, .iconst 0, 1) (List.mem_of_getElem? (i := 3) rfl)
theorem d_La_law_366 : decode Y_La_law.2.1 366 = .ok (.aload_n 3, 1) := D_La_law_3 (366, .aload_n 3, 1) (List.mem_of_getElem? (i := 4) rfl)
theorem d_La_law_367 : decode Y_La_law.2.1 367 = .ok (.invokestatic 96, 3) := D_La_law_3 (367, .invokestatic 96, 3) (List.mem_of_getElem? (i := 5) rfl)
theorem d_La_law_370 : decode Y_La_law.2.1 370 = .ok (.istore 5, 2) := D_La_law_3 (370, .istore 5, 2) (List.mem_of_getElem? (i := 6) rfl)
theorem d_La_law_372 : decode Y_La_law.2.1 372 = .ok (.aload_n 2, 1) := D_La_law_3 (372, .aload_n 2, 1) (List.mem_of_getElem? (i := 7) rfl)
theorem d_La_law_373 : decode Y_La_law.2.1 373 = .ok (.aload_n 0, 1) := D_La_law_3 (373, .aload_n 0, 1) (List.mem_of_getElem? (i := 8) rfl)
theorem d_La_law_374 : decode Y_La_law.2.1 374 = .ok (.iload 4, 2) := D_La_law_3 (374, .iload 4, 2) (List.mem_of_getElem? (i := 9) rfl)
theorem d_La_law_376 : decode Y_La_law.2.1 376 = .ok (.iconst 1, 1) := D_La_law_3 (376, .iconst 1, 1) (List.mem_of_getElem? (i := 10) rfl)
theorem d_La_law_377 : decode Y_La_law.2.1 377 = .ok (.iadd, 1) := D_La_law_3 (377, .iadd, 1) (List.mem_of_getElem? (i := 11) rfl)
theorem d_La_law_378 : decode Y_La_law.2.1 378 = .ok (.iaload, 1) := D_La_law_3 (378, .iaload, 1) (List.mem_of_getElem? (i := 12) rfl)
theorem d_La_law_379 : decode Y_La_law.2.1 379 = .ok (.ifCond .eq 7, 3) := D_La_law_3 (379, .ifCond .eq 7, 3) (List.mem_of_getElem? (i := 13) rfl)
theorem d_La_law_382 : decode Y_La_law.2.1 382 = .ok (.iconst 1, 1) := D_La_law_3 (382, .iconst 1, 1) (List.mem_of_getElem? (i := 14) rfl)
theorem d_La_law_383 : decode Y_La_law.2.1 383 = .ok (.goto 4, 3) := D_La_law_3 (383, .goto 4, 3) (List.mem_of_getElem? (i := 15) rfl)
theorem d_La_law_386 : decode Y_La_law.2.1 386 = .ok (.iconst 0, 1) := D_La_law_3 (386, .iconst 0, 1) (List.mem_of_getElem? (i := 16) rfl)
theorem d_La_law_387 : decode Y_La_law.2.1 387 = .ok (.invokevirtual 99, 3) := D_La_law_3 (387, .invokevirtual 99, 3) (List.mem_of_getElem? (i := 17) rfl)
theorem d_La_law_390 : decode Y_La_law.2.1 390 = .ok (.lstore 6, 2) := D_La_law_3 (390, .lstore 6, 2) (List.mem_of_getElem? (i := 18) rfl)
theorem d_La_law_392 : decode Y_La_law.2.1 392 = .ok (.aload_n 2, 1) := D_La_law_3 (392, .aload_n 2, 1) (List.mem_of_getElem? (i := 19) rfl)
theorem d_La_law_393 : decode Y_La_law.2.1 393 = .ok (.invokevirtual 84, 3) := D_La_law_3 (393, .invokevirtual 84, 3) (List.mem_of_getElem? (i := 20) rfl)
theorem d_La_law_396 : decode Y_La_law.2.1 396 = .ok (.iload 5, 2) := D_La_law_3 (396, .iload 5, 2) (List.mem_of_getElem? (i := 21) rfl)
theorem d_La_law_398 : decode Y_La_law.2.1 398 = .ok (.if_icmp .eq 5, 3) := D_La_law_3 (398, .if_icmp .eq 5, 3) (List.mem_of_getElem? (i := 22) rfl)
theorem d_La_law_401 : decode Y_La_law.2.1 401 = .ok (.iconst 0, 1) := D_La_law_3 (401, .iconst 0, 1) (List.mem_of_getElem? (i := 23) rfl)
theorem d_La_law_402 : decode Y_La_law.2.1 402 = .ok (.ireturn, 1) := D_La_law_3 (402, .ireturn, 1) (List.mem_of_getElem? (i := 24) rfl)
theorem d_La_law_403 : decode Y_La_law.2.1 403 = .ok (.iload 5, 2) := D_La_law_3 (403, .iload 5, 2) (List.mem_of_getElem? (i := 25) rfl)
theorem d_La_law_405 : decode Y_La_law.2.1 405 = .ok (.ifCond .ne 14, 3) := D_La_law_3 (405, .ifCond .ne 14, 3) (List.mem_of_getElem? (i := 26) rfl)
theorem d_La_law_408 : decode Y_La_law.2.1 408 = .ok (.aload_n 3, 1) := D_La_law_3 (408, .aload_n 3, 1) (List.mem_of_getElem? (i := 27) rfl)
theorem d_La_law_409 : decode Y_La_law.2.1 409 = .ok (.iconst 0, 1) := D_La_law_3 (409, .iconst 0, 1) (List.mem_of_getElem? (i := 28) rfl)
theorem d_La_law_410 : decode Y_La_law.2.1 410 = .ok (.laload, 1) := D_La_law_3 (410, .laload, 1) (List.mem_of_getElem? (i := 29) rfl)
theorem d_La_law_411 : decode Y_La_law.2.1 411 = .ok (.lload 6, 2) := D_La_law_3 (411, .lload 6, 2) (List.mem_of_getElem? (i := 30) rfl)
theorem d_La_law_413 : decode Y_La_law.2.1 413 = .ok (.lcmp, 1) := D_La_law_3 (413, .lcmp, 1) (List.mem_of_getElem? (i := 31) rfl)
theorem d_La_law_414 : decode Y_La_law.2.1 414 = .ok (.ifCond .eq 5, 3) := D_La_law_3 (414, .ifCond .eq 5, 3) (List.mem_of_getElem? (i := 32) rfl)
theorem d_La_law_417 : decode Y_La_law.2.1 417 = .ok (.iconst 0, 1) := D_La_law_3 (417, .iconst 0, 1) (List.mem_of_getElem? (i := 33) rfl)
theorem d_La_law_418 : decode Y_La_law.2.1 418 = .ok (.ireturn, 1) := D_La_law_3 (418, .ireturn, 1) (List.mem_of_getElem? (i := 34) rfl)
theorem d_La_law_419 : decode Y_La_law.2.1 419 = .ok (.goto 943, 3) := D_La_law_3 (419, .goto 943, 3) (List.mem_of_getElem? (i := 35) rfl)
theorem d_La_law_422 : decode Y_La_law.2.1 422 = .ok (.aload_n 1, 1) := D_La_law_3 (422, .aload_n 1, 1) (List.mem_of_getElem? (i := 36) rfl)
theorem d_La_law_423 : decode Y_La_law.2.1 423 = .ok (.aload_n 0, 1) := D_La_law_3 (423, .aload_n 0, 1) (List.mem_of_getElem? (i := 37) rfl)
theorem d_La_law_424 : decode Y_La_law.2.1 424 = .ok (.iload 4, 2) := D_La_law_3 (424, .iload 4, 2) (List.mem_of_getElem? (i := 38) rfl)
theorem d_La_law_426 : decode Y_La_law.2.1 426 = .ok (.iconst 1, 1) := D_La_law_3 (426, .iconst 1, 1) (List.mem_of_getElem? (i := 39) rfl)
theorem d_La_law_427 : decode Y_La_law.2.1 427 = .ok (.iadd, 1) := D_La_law_3 (427, .iadd, 1) (List.mem_of_getElem? (i := 40) rfl)
theorem d_La_law_428 : decode Y_La_law.2.1 428 = .ok (.iaload, 1) := D_La_law_3 (428, .iaload, 1) (List.mem_of_getElem? (i := 41) rfl)
theorem d_La_law_429 : decode Y_La_law.2.1 429 = .ok (.aload_n 0, 1) := D_La_law_3 (429, .aload_n 0, 1) (List.mem_of_getElem? (i := 42) rfl)
theorem d_La_law_430 : decode Y_La_law.2.1 430 = .ok (.iload 4, 2) := D_La_law_3 (430, .iload 4, 2) (List.mem_of_getElem? (i := 43) rfl)
theorem d_La_law_432 : decode Y_La_law.2.1 432 = .ok (.iconst 2, 1) := D_La_law_3 (432, .iconst 2, 1) (List.mem_of_getElem? (i := 44) rfl)
theorem d_La_law_433 : decode Y_La_law.2.1 433 = .ok (.iadd, 1) := D_La_law_3 (433, .iadd, 1) (List.mem_of_getElem? (i := 45) rfl)
theorem d_La_law_434 : decode Y_La_law.2.1 434 = .ok (.iaload, 1) := D_La_law_3 (434, .iaload, 1) (List.mem_of_getElem? (i := 46) rfl)
theorem d_La_law_435 : decode Y_La_law.2.1 435 = .ok (.aload_n 3, 1) := D_La_law_3 (435, .aload_n 3, 1) (List.mem_of_getElem? (i := 47) rfl)
theorem d_La_law_436 : decode Y_La_law.2.1 436 = .ok (.invokestatic 100, 3) := D_La_law_3 (436, .invokestatic 100, 3) (List.mem_of_getElem? (i := 48) rfl)
theorem d_La_law_439 : decode Y_La_law.2.1 439 = .ok (.istore 5, 2) := D_La_law_3 (439, .istore 5, 2) (List.mem_of_getElem? (i := 49) rfl)
theorem d_La_law_441 : decode Y_La_law.2.1 441 = .ok (.aload_n 2, 1) := D_La_law_3 (441, .aload_n 2, 1) (List.mem_of_getElem? (i := 50) rfl)
theorem d_La_law_442 : decode Y_La_law.2.1 442 = .ok (.aload_n 0, 1) := D_La_law_3 (442, .aload_n 0, 1) (List.mem_of_getElem? (i := 51) rfl)
theorem d_La_law_443 : decode Y_La_law.2.1 443 = .ok (.iload 4, 2) := D_La_law_3 (443, .iload 4, 2) (List.mem_of_getElem? (i := 52) rfl)
theorem d_La_law_445 : decode Y_La_law.2.1 445 = .ok (.iconst 1, 1) := D_La_law_3 (445, .iconst 1, 1) (List.mem_of_getElem? (i := 53) rfl)
theorem d_La_law_446 : decode Y_La_law.2.1 446 = .ok (.iadd, 1) := D_La_law_3 (446, .iadd, 1) (List.mem_of_getElem? (i := 54) rfl)
theorem d_La_law_447 : decode Y_La_law.2.1 447 = .ok (.iaload, 1) := D_La_law_3 (447, .iaload, 1) (List.mem_of_getElem? (i := 55) rfl)
theorem d_La_law_448 : decode Y_La_law.2.1 448 = .ok (.aload_n 0, 1) := D_La_law_3 (448, .aload_n 0, 1) (List.mem_of_getElem? (i := 56) rfl)
theorem d_La_law_449 : decode Y_La_law.2.1 449 = .ok (.iload 4, 2) := D_La_law_3 (449, .iload 4, 2) (List.mem_of_getElem? (i := 57) rfl)
theorem d_La_law_451 : decode Y_La_law.2.1 451 = .ok (.iconst 2, 1) := D_La_law_3 (451, .iconst 2, 1) (List.mem_of_getElem? (i := 58) rfl)
theorem d_La_law_452 : decode Y_La_law.2.1 452 = .ok (.iadd, 1) := D_La_law_3 (452, .iadd, 1) (List.mem_of_getElem? (i := 59) rfl)
theorem D_La_law_4 : ∀ q ∈ ([(453, .iaload, 1), (454, .invokevirtual 103, 3), (457, .istore 6, 2), (459, .aload_n 2, 1), (460, .invokevirtual 84, 3), (463, .iload 5, 2), (465, .if_icmp .eq 5, 3), (468, .iconst 0, 1), (469, .ireturn, 1), (470, .iload 5, 2), (472, .ifCond .ne 15, 3), (475, .aload_n 3, 1), (476, .iconst 0, 1), (477, .laload, 1), (478, .iload 6, 2), (480, .i2l, 1), (481, .lcmp, 1), (482, .ifCond .eq 5, 3), (485, .iconst 0, 1), (486, .ireturn, 1), (487, .goto 875, 3), (490, .aload_n 1, 1), (491, .aload_n 0, 1), (492, .iload 4, 2), (494, .iconst 1, 1), (495, .iadd, 1), (496, .iaload, 1), (497, .aload_n 0, 1), (498, .iload 4, 2), (500, .iconst 2, 1), (501, .iadd, 1), (502, .iaload, 1), (503, .aload_n 0, 1), (504, .iload 4, 2), (506, .iconst 3, 1), (507, .iadd, 1), (508, .iaload, 1), (509, .aload_n 3, 1), (510, .invokestatic 104, 3), (513, .istore 5, 2), (515, .aload_n 2, 1), (516, .aload_n 0, 1), (517, .iload 4, 2), (519, .iconst 1, 1), (520, .iadd, 1), (521, .iaload, 1), (522, .aload_n 0, 1), (523, .iload 4, 2), (525, .iconst 2, 1), (526, .iadd, 1), (527, .iaload, 1), (528, .aload_n 0, 1), (529, .iload 4, 2), (531, .iconst 3, 1), (532, .iadd, 1), (533, .iaload, 1), (534, .invokevirtual 106, 3), (537, .istore 6, 2), (539, .aload_n 2, 1), (540, .invokevirtual 84, 3)] : List (Nat × Instr × Nat)), decode code q.1 = .ok (q.2.1, q.2.2) := by decide +kernel
theorem d_La_law_453 : decode Y_La_law.2.1 453 = .ok (.iaload, 1) := D_La_law_4 (453, .iaload, 1) (List.mem_of_getElem? (i := 0) rfl)
theorem d_La_law_454 : decode Y_La_law.2.1 454 = .ok (.invokevirtual 103, 3) := D_La_law_4 (454, .invokevirtual 103, 3) (List.mem_of_getElem? (i := 1) rfl)
theorem d_La_law_457 : decode Y_La_law.2.1 457 = .ok (.istore 6, 2) := D_La_law_4 (457, .istore 6, 2) (List.mem_of_getElem? (i := 2) rfl)
theorem d_La_law_459 : decode Y_La_law.2.1 459 = .ok (.aload_n 2, 1) := D_La_law_4 (459, .aload_n 2, 1) (List.mem_of_getElem? (i := 3) rfl)
theorem d_La_law_460 : decode Y_La_law.2.1 460 = .ok (.invokevirtual 84, 3) := D_La_law_4 (460, .invokevirtual 84, 3) (List.mem_of_getElem? (i := 4) rfl)
theorem d_La_law_463 : decode Y_La_law.2.1 463 = .ok (.iload 5, 2) := D_La_law_4 (463, .iload 5, 2) (List.mem_of_getElem? (i := 5) rfl)
theorem d_La_law_465 : decode Y_La_law.2.1 465 = .ok (.if_icmp .eq 5, 3) := D_La_law_4 (465, .if_icmp .eq 5, 3) (List.mem_of_getElem? (i := 6) rfl)
theorem d_La_law_468 : decode Y_La_law.2.1 468 = .ok (.iconst 0, 1) := D_La_law_4 (468, .iconst 0, 1) (List.mem_of_getElem? (i := 7) rfl)
theorem d_La_law_469 : decode Y_La_law.2.1 469 = .ok (.ireturn, 1) := D_La_law_4 (469, .ireturn, 1) (List.mem_of_getElem? (i := 8) rfl)
theorem d_La_law_470 : decode Y_La_law.2.1 470 = .ok (.iload 5, 2) := D_La_law_4 (470, .iload 5, 2) (List.mem_of_getElem? (i := 9) rfl)
theorem d_La_law_472 : decode Y_La_law.2.1 472 = .ok (.ifCond .ne 15, 3) := D_La_law_4 (472, .ifCond .ne 15, 3) (List.mem_of_getElem? (i := 10) rfl)
theorem d_La_law_475 : decode Y_La_law.2.1 475 = .ok (.aload_n 3, 1) := D_La_law_4 (475, .aload_n 3, 1) (List.mem_of_getElem? (i := 11) rfl)
theorem d_La_law_476 : decode Y_La_law.2.1 476 = .ok (.iconst 0, 1) := D_La_law_4 (476, .iconst 0, 1) (List.mem_of_getElem? (i := 12) rfl)
theorem d_La_law_477 : decode Y_La_law.2.1 477 = .ok (.laload, 1) := D_La_law_4 (477, .laload, 1) (List.mem_of_getElem? (i := 13) rfl)
theorem d_La_law_478 : decode Y_La_law.2.1 478 = .ok (.iload 6, 2) := D_La_law_4 (478, .iload 6, 2) (List.mem_of_getElem? (i := 14) rfl)
theorem d_La_law_480 : decode Y_La_law.2.1 480 = .ok (.i2l, 1) := D_La_law_4 (480, .i2l, 1) (List.mem_of_getElem? (i := 15) rfl)
theorem d_La_law_481 : decode Y_La_law.2.1 481 = .ok (.lcmp, 1) := D_La_law_4 (481, .lcmp, 1) (List.mem_of_getElem? (i := 16) rfl)
theorem d_La_law_482 : decode Y_La_law.2.1 482 = .ok (.ifCond .eq 5, 3) := D_La_law_4 (482, .ifCond .eq 5, 3) (List.mem_of_getElem? (i := 17) rfl)
theorem d_La_law_485 : decode Y_La_law.2.1 485 = .ok (.iconst 0, 1) := D_La_law_4 (485, .iconst 0, 1) (List.mem_of_getElem? (i := 18) rfl)
theorem d_La_law_486 : decode Y_La_law.2.1 486 = .ok (.ireturn, 1) := D_La_law_4 (486, .ireturn, 1) (List.mem_of_getElem? (i := 19) rfl)
theorem d_La_law_487 : decode Y_La_law.2.1 487 = .ok (.goto 875, 3) := D_La_law_4 (487, .goto 875, 3) (List.mem_of_getElem? (i := 20) rfl)
theorem d_La_law_490 : decode Y_La_law.2.1 490 = .ok (.aload_n 1, 1) := D_La_law_4 (490, .aload_n 1, 1) (List.mem_of_getElem? (i := 21) rfl)
theorem d_La_law_491 : decode Y_La_law.2.1 491 = .ok (.aload_n 0, 1) := D_La_law_4 (491, .aload_n 0, 1) (List.mem_of_getElem? (i := 22) rfl)
theorem d_La_law_492 : decode Y_La_law.2.1 492 = .ok (.iload 4, 2) := D_La_law_4 (492, .iload 4, 2) (List.mem_of_getElem? (i := 23) rfl)
theorem d_La_law_494 : decode Y_La_law.2.1 494 = .ok (.iconst 1, 1) := D_La_law_4 (494, .iconst 1, 1) (List.mem_of_getElem? (i := 24) rfl)
theorem d_La_law_495 : decode Y_La_law.2.1 495 = .ok (.iadd, 1) := D_La_law_4 (495, .iadd, 1) (List.mem_of_getElem? (i := 25) rfl)
theorem d_La_law_496 : decode Y_La_law.2.1 496 = .ok (.iaload, 1) := D_La_law_4 (496, .iaload, 1) (List.mem_of_getElem? (i := 26) rfl)
theorem d_La_law_497 : decode Y_La_law.2.1 497 = .ok (.aload_n 0, 1) := D_La_law_4 (497, .aload_n 0, 1) (List.mem_of_getElem? (i := 27) rfl)
theorem d_La_law_498 : decode Y_La_law.2.1 498 = .ok (.iload 4, 2) := D_La_law_4 (498, .iload 4, 2) (List.mem_of_getElem? (i := 28) rfl)
theorem d_La_law_500 : decode Y_La_law.2.1 500 = .ok (.iconst 2, 1) := D_La_law_4 (500, .iconst 2, 1) (List.mem_of_getElem? (i := 29) rfl)
theorem d_La_law_501 : decode Y_La_law.2.1 501 = .ok (.iadd, 1) := D_La_law_4 (501, .iadd, 1) (List.mem_of_getElem? (i := 30) rfl)
theorem d_La_law_502 : decode Y_La_law.2.1 502 = .ok (.iaload, 1) := D_La_law_4 (502, .iaload, 1) (List.mem_of_getElem? (i := 31) rfl)
theorem d_La_law_503 : decode Y_La_law.2.1 503 = .ok (.aload_n 0, 1) := D_La_law_4 (503, .aload_n 0, 1) (List.mem_of_getElem? (i := 32) rfl)
theorem d_La_law_504 : decode Y_La_law.2.1 504 = .ok (.iload 4, 2) := D_La_law_4 (504, .iload 4, 2) (List.mem_of_getElem? (i := 33) rfl)
theorem d_La_law_506 : decode Y_La_law.2.1 506 = .ok (.iconst 3, 1) := D_La_law_4 (506, .iconst 3, 1) (List.mem_of_getElem? (i := 34) rfl)
theorem d_La_law_507 : decode Y_La_law.2.1 507 = .ok (.iadd, 1) := D_La_law_4 (507, .iadd, 1) (List.mem_of_getElem? (i := 35) rfl)
theorem d_La_law_508 : decode Y_La_law.2.1 508 = .ok (.iaload, 1) := D_La_law_4 (508, .iaload, 1) (List.mem_of_getElem? (i := 36) rfl)
theorem d_La_law_509 : decode Y_La_law.2.1 509 = .ok (.aload_n 3, 1) := D_La_law_4 (509, .aload_n 3, 1) (List.mem_of_getElem? (i := 37) rfl)
theorem d_La_law_510 : decode Y_La_law.2.1 510 = .ok (.invokestatic 104, 3) := D_La_law_4 (510, .invokestatic 104, 3) (List.mem_of_getElem? (i := 38) rfl)
theorem d_La_law_513 : decode Y_La_law.2.1 513 = .ok (.istore 5, 2) := D_La_law_4 (513, .istore 5, 2) (List.mem_of_getElem? (i := 39) rfl)
theorem d_La_law_515 : decode Y_La_law.2.1 515 = .ok (.aload_n 2, 1) := D_La_law_4 (515, .aload_n 2, 1) (List.mem_of_getElem? (i := 40) rfl)
theorem d_La_law_516 : decode Y_La_law.2.1 516 = .ok (.aload_n 0, 1) := D_La_law_4 (516, .aload_n 0, 1) (List.mem_of_getElem? (i := 41) rfl)
theorem d_La_law_517 : decode Y_La_law.2.1 517 = .ok (.iload 4, 2) := D_La_law_4 (517, .iload 4, 2) (List.mem_of_getElem? (i := 42) rfl)
theorem d_La_law_519 : decode Y_La_law.2.1 519 = .ok (.iconst 1, 1) := D_La_law_4 (519, .iconst 1, 1) (List.mem_of_getElem? (i := 43) rfl)
theorem d_La_law_520 : decode Y_La_law.2.1 520 = .ok (.iadd, 1) := D_La_law_4 (520, .iadd, 1) (List.mem_of_getElem? (i := 44) rfl)
theorem d_La_law_521 : decode Y_La_law.2.1 521 = .ok (.iaload, 1) := D_La_law_4 (521, .iaload, 1) (List.mem_of_getElem? (i := 45) rfl)
theorem d_La_law_522 : decode Y_La_law.2.1 522 = .ok (.aload_n 0, 1) := D_La_law_4 (522, .aload_n 0, 1) (List.mem_of_getElem? (i := 46) rfl)
theorem d_La_law_523 : decode Y_La_law.2.1 523 = .ok (.iload 4, 2) := D_La_law_4 (523, .iload 4, 2) (List.mem_of_getElem? (i := 47) rfl)
theorem d_La_law_525 : decode Y_La_law.2.1 525 = .ok (.iconst 2, 1) := D_La_law_4 (525, .iconst 2, 1) (List.mem_of_getElem? (i := 48) rfl)
theorem d_La_law_526 : decode Y_La_law.2.1 526 = .ok (.iadd, 1) := D_La_law_4 (526, .iadd, 1) (List.mem_of_getElem? (i := 49) rfl)
theorem d_La_law_527 : decode Y_La_law.2.1 527 = .ok (.iaload, 1) := D_La_law_4 (527, .iaload, 1) (List.mem_of_getElem? (i := 50) rfl)
theorem d_La_law_528 : decode Y_La_law.2.1 528 = .ok (.aload_n 0, 1) := D_La_law_4 (528, .aload_n 0, 1) (List.mem_of_getElem? (i := 51) rfl)
theorem d_La_law_529 : decode Y_La_law.2.1 529 = .ok (.iload 4, 2) := D_La_law_4 (529, .iload 4, 2) (List.mem_of_getElem? (i := 52) rfl)
theorem d_La_law_531 : decode Y_La_law.2.1 531 = .ok (.iconst 3, 1) := D_La_law_4 (531, .iconst 3, 1) (List.mem_of_getElem? (i := 53) rfl)
theorem d_La_law_532 : decode Y_La_law.2.1 532 = .ok (.iadd, 1) := D_La_law_4 (532, .iadd, 1) (List.mem_of_getElem? (i := 54) rfl)
theorem d_La_law_533 : decode Y_La_law.2.1 533 = .ok (.iaload, 1) := D_La_law_4 (533, .iaload, 1) (List.mem_of_getElem? (i := 55) rfl)
theorem d_La_law_534 : decode Y_La_law.2.1 534 = .ok (.invokevirtual 106, 3) := D_La_law_4 (534, .invokevirtual 106, 3) (List.mem_of_getElem? (i := 56) rfl)
theorem d_La_law_537 : decode Y_La_law.2.1 537 = .ok (.istore 6, 2) := D_La_law_4 (537, .istore 6, 2) (List.mem_of_getElem? (i := 57) rfl)
theorem d_La_law_539 : decode Y_La_law.2.1 539 = .ok (.aload_n 2, 1) := D_La_law_4 (539, .aload_n 2, 1) (List.mem_of_getElem? (i := 58) rfl)
theorem d_La_law_540 : decode Y_La_law.2.1 540 = .ok (.invokevirtual 84, 3) := D_La_law_4 (540, .invokevirtual 84, 3) (List.mem_of_getElem? (i := 59) rfl)
theorem D_La_law_5 : ∀ q ∈ ([(543, .iload 5, 2), (545, .if_icmp .eq 5, 3), (548, .iconst 0, 1), (549, .ireturn, 1), (550, .iload 5, 2), (552, .ifCond .ne 22, 3), (555, .aload_n 3, 1), (556, .iconst 0, 1), (557, .laload, 1), (558, .iload 6, 2), (560, .ifCond .eq 7, 3), (563, .lconst 1, 1), (564, .goto 4, 3), (567, .lconst 0, 1), (568, .lcmp, 1), (569, .ifCond .eq 5, 3), (572, .iconst 0, 1), (573, .ireturn, 1), (574, .goto 788, 3), (577, .aload_n 1, 1), (578, .aload_n 0, 1), (579, .iload 4, 2), (581, .iconst 1, 1), (582, .iadd, 1), (583, .iaload, 1), (584, .aload_n 0, 1), (585, .iload 4, 2), (587, .iconst 2, 1), (588, .iadd, 1), (589, .iaload, 1), (590, .aload_n 3, 1), (591, .invokestatic 107, 3), (594, .istore 5, 2), (596, .aload_n 2, 1), (597, .aload_n 0, 1), (598, .iload 4, 2), (600, .iconst 1, 1), (601, .iadd, 1), (602, .iaload, 1), (603, .aload_n 0, 1), (604, .iload 4, 2), (606, .iconst 2, 1), (607, .iadd, 1), (608, .iaload, 1), (609, .invokevirtual 109, 3), (612, .lstore 6, 2), (614, .aload_n 2, 1), (615, .invokevirtual 84, 3), (618, .iload 5, 2), (620, .if_icmp .eq 5, 3), (623, .iconst 0, 1), (624, .ireturn, 1), (625, .iload 5, 2), (627, .ifCond .ne 14, 3), (630, .aload_n 3, 1), (631, .iconst 0, 1), (632, .laload, 1), (633, .lload 6, 2), (635, .lcmp, 1), (636, .ifCond .eq 5, 3)] : List (Nat × Instr × Nat)), decode code q.1 = .ok (q.2.1, q.2.2) := by decide +kernel
theorem d_La_law_543 : decode Y_La_law.2.1 543 = .ok (.iload 5, 2) := D_La_law_5 (543, .iload 5, 2) (List.mem_of_getElem? (i := 0) rfl)
theorem d_La_law_545 : decode Y_La_law.2.1 545 = .ok (.if_icmp .eq 5, 3) := D_La_law_5 (545, .if_icmp .eq 5, 3) (List.mem_of_getElem? (i := 1) rfl)
theorem d_La_law_548 : decode Y_La_law.2.1 548 = .ok (.iconst 0, 1) := D_La_law_5 (548, .iconst 0, 1) (List.mem_of_getElem? (i := 2) rfl)
theorem d_La_law_549 : decode Y_La_law.2.1 549 = .ok (.ireturn, 1) := D_La_law_5 (549, .ireturn, 1) (List.mem_of_getElem? (i := 3) rfl)
theorem d_La_law_550 : decode Y_La_law.2.1 550 = .ok (.iload 5, 2) := D_La_law_5 (550, .iload 5, 2) (List.mem_of_getElem? (i := 4) rfl)
theorem d_La_law_552 : decode Y_La_law.2.1 552 = .ok (.ifCond .ne 22, 3) := D_La_law_5 (552, .ifCond .ne 22, 3) (List.mem_of_getElem? (i := 5) rfl)
theorem d_La_law_555 : decode Y_La_law.2.1 555 = .ok (.aload_n 3, 1) := D_La_law_5 (555, .aload_n 3, 1) (List.mem_of_getElem? (i := 6) rfl)
theorem d_La_law_556 : decode Y_La_law.2.1 556 = .ok (.iconst 0, 1) := D_La_law_5 (556, .iconst 0, 1) (List.mem_of_getElem? (i := 7) rfl)
theorem d_La_law_557 : decode Y_La_law.2.1 557 = .ok (.laload, 1) := D_La_law_5 (557, .laload, 1) (List.mem_of_getElem? (i := 8) rfl)
theorem d_La_law_558 : decode Y_La_law.2.1 558 = .ok (.iload 6, 2) := D_La_law_5 (558, .iload 6, 2) (List.mem_of_getElem? (i := 9) rfl)
theorem d_La_law_560 : decode Y_La_law.2.1 560 = .ok (.ifCond .eq 7, 3) := D_La_law_5 (560, .ifCond .eq 7, 3) (List.mem_of_getElem? (i := 10) rfl)
theorem d_La_law_563 : decode Y_La_law.2.1 563 = .ok (.lconst 1, 1) := D_La_law_5 (563, .lconst 1, 1) (List.mem_of_getElem? (i := 11) rfl)
theorem d_La_law_564 : decode Y_La_law.2.1 564 = .ok (.goto 4, 3) := D_La_law_5 (564, .goto 4, 3) (List.mem_of_getElem? (i := 12) rfl)
theorem d_La_law_567 : decode Y_La_law.2.1 567 = .ok (.lconst 0, 1) := D_La_law_5 (567, .lconst 0, 1) (List.mem_of_getElem? (i := 13) rfl)
theorem d_La_law_568 : decode Y_La_law.2.1 568 = .ok (.lcmp, 1) := D_La_law_5 (568, .lcmp, 1) (List.mem_of_getElem? (i := 14) rfl)
theorem d_La_law_569 : decode Y_La_law.2.1 569 = .ok (.ifCond .eq 5, 3) := D_La_law_5 (569, .ifCond .eq 5, 3) (List.mem_of_getElem? (i := 15) rfl)
theorem d_La_law_572 : decode Y_La_law.2.1 572 = .ok (.iconst 0, 1) := D_La_law_5 (572, .iconst 0, 1) (List.mem_of_getElem? (i := 16) rfl)
theorem d_La_law_573 : decode Y_La_law.2.1 573 = .ok (.ireturn, 1) := D_La_law_5 (573, .ireturn, 1) (List.mem_of_getElem? (i := 17) rfl)
theorem d_La_law_574 : decode Y_La_law.2.1 574 = .ok (.goto 788, 3) := D_La_law_5 (574, .goto 788, 3) (List.mem_of_getElem? (i := 18) rfl)
theorem d_La_law_577 : decode Y_La_law.2.1 577 = .ok (.aload_n 1, 1) := D_La_law_5 (577, .aload_n 1, 1) (List.mem_of_getElem? (i := 19) rfl)
theorem d_La_law_578 : decode Y_La_law.2.1 578 = .ok (.aload_n 0, 1) := D_La_law_5 (578, .aload_n 0, 1) (List.mem_of_getElem? (i := 20) rfl)
theorem d_La_law_579 : decode Y_La_law.2.1 579 = .ok (.iload 4, 2) := D_La_law_5 (579, .iload 4, 2) (List.mem_of_getElem? (i := 21) rfl)
theorem d_La_law_581 : decode Y_La_law.2.1 581 = .ok (.iconst 1, 1) := D_La_law_5 (581, .iconst 1, 1) (List.mem_of_getElem? (i := 22) rfl)
theorem d_La_law_582 : decode Y_La_law.2.1 582 = .ok (.iadd, 1) := D_La_law_5 (582, .iadd, 1) (List.mem_of_getElem? (i := 23) rfl)
theorem d_La_law_583 : decode Y_La_law.2.1 583 = .ok (.iaload, 1) := D_La_law_5 (583, .iaload, 1) (List.mem_of_getElem? (i := 24) rfl)
theorem d_La_law_584 : decode Y_La_law.2.1 584 = .ok (.aload_n 0, 1) := D_La_law_5 (584, .aload_n 0, 1) (List.mem_of_getElem? (i := 25) rfl)
theorem d_La_law_585 : decode Y_La_law.2.1 585 = .ok (.iload 4, 2) := D_La_law_5 (585, .iload 4, 2) (List.mem_of_getElem? (i := 26) rfl)
theorem d_La_law_587 : decode Y_La_law.2.1 587 = .ok (.iconst 2, 1) := D_La_law_5 (587, .iconst 2, 1) (List.mem_of_getElem? (i := 27) rfl)
theorem d_La_law_588 : decode Y_La_law.2.1 588 = .ok (.iadd, 1) := D_La_law_5 (588, .iadd, 1) (List.mem_of_getElem? (i := 28) rfl)
theorem d_La_law_589 : decode Y_La_law.2.1 589 = .ok (.iaload, 1) := D_La_law_5 (589, .iaload, 1) (List.mem_of_getElem? (i := 29) rfl)
theorem d_La_law_590 : decode Y_La_law.2.1 590 = .ok (.aload_n 3, 1) := D_La_law_5 (590, .aload_n 3, 1) (List.mem_of_getElem? (i := 30) rfl)
theorem d_La_law_591 : decode Y_La_law.2.1 591 = .ok (.invokestatic 107, 3) := D_La_law_5 (591, .invokestatic 107, 3) (List.mem_of_getElem? (i := 31) rfl)
theorem d_La_law_594 : decode Y_La_law.2.1 594 = .ok (.istore 5, 2) := D_La_law_5 (594, .istore 5, 2) (List.mem_of_getElem? (i := 32) rfl)
theorem d_La_law_596 : decode Y_La_law.2.1 596 = .ok (.aload_n 2, 1) := D_La_law_5 (596, .aload_n 2, 1) (List.mem_of_getElem? (i := 33) rfl)
theorem d_La_law_597 : decode Y_La_law.2.1 597 = .ok (.aload_n 0, 1) := D_La_law_5 (597, .aload_n 0, 1) (List.mem_of_getElem? (i := 34) rfl)
theorem d_La_law_598 : decode Y_La_law.2.1 598 = .ok (.iload 4, 2) := D_La_law_5 (598, .iload 4, 2) (List.mem_of_getElem? (i := 35) rfl)
theorem d_La_law_600 : decode Y_La_law.2.1 600 = .ok (.iconst 1, 1) := D_La_law_5 (600, .iconst 1, 1) (List.mem_of_getElem? (i := 36) rfl)
theorem d_La_law_601 : decode Y_La_law.2.1 601 = .ok (.iadd, 1) := D_La_law_5 (601, .iadd, 1) (List.mem_of_getElem? (i := 37) rfl)
theorem d_La_law_602 : decode Y_La_law.2.1 602 = .ok (.iaload, 1) := D_La_law_5 (602, .iaload, 1) (List.mem_of_getElem? (i := 38) rfl)
theorem d_La_law_603 : decode Y_La_law.2.1 603 = .ok (.aload_n 0, 1) := D_La_law_5 (603, .aload_n 0, 1) (List.mem_of_getElem? (i := 39) rfl)
theorem d_La_law_604 : decode Y_La_law.2.1 604 = .ok (.iload 4, 2) := D_La_law_5 (604, .iload 4, 2) (List.mem_of_getElem? (i := 40) rfl)
theorem d_La_law_606 : decode Y_La_law.2.1 606 = .ok (.iconst 2, 1) := D_La_law_5 (606, .iconst 2, 1) (List.mem_of_getElem? (i := 41) rfl)
theorem d_La_law_607 : decode Y_La_law.2.1 607 = .ok (.iadd, 1) := D_La_law_5 (607, .iadd, 1) (List.mem_of_getElem? (i := 42) rfl)
theorem d_La_law_608 : decode Y_La_law.2.1 608 = .ok (.iaload, 1) := D_La_law_5 (608, .iaload, 1) (List.mem_of_getElem? (i := 43) rfl)
theorem d_La_law_609 : decode Y_La_law.2.1 609 = .ok (.invokevirtual 109, 3) := D_La_law_5 (609, .invokevirtual 109, 3) (List.mem_of_getElem? (i := 44) rfl)
theorem d_La_law_612 : decode Y_La_law.2.1 612 = .ok (.lstore 6, 2) := D_La_law_5 (612, .lstore 6, 2) (List.mem_of_getElem? (i := 45) rfl)
theorem d_La_law_614 : decode Y_La_law.2.1 614 = .ok (.aload_n 2, 1) := D_La_law_5 (614, .aload_n 2, 1) (List.mem_of_getElem? (i := 46) rfl)
theorem d_La_law_615 : decode Y_La_law.2.1 615 = .ok (.invokevirtual 84, 3) := D_La_law_5 (615, .invokevirtual 84, 3) (List.mem_of_getElem? (i := 47) rfl)
theorem d_La_law_618 : decode Y_La_law.2.1 618 = .ok (.iload 5, 2) := D_La_law_5 (618, .iload 5, 2) (List.mem_of_getElem? (i := 48) rfl)
theorem d_La_law_620 : decode Y_La_law.2.1 620 = .ok (.if_icmp .eq 5, 3) := D_La_law_5 (620, .if_icmp .eq 5, 3) (List.mem_of_getElem? (i := 49) rfl)
theorem d_La_law_623 : decode Y_La_law.2.1 623 = .ok (.iconst 0, 1) := D_La_law_5 (623, .iconst 0, 1) (List.mem_of_getElem? (i := 50) rfl)
theorem d_La_law_624 : decode Y_La_law.2.1 624 = .ok (.ireturn, 1) := D_La_law_5 (624, .ireturn, 1) (List.mem_of_getElem? (i := 51) rfl)
theorem d_La_law_625 : decode Y_La_law.2.1 625 = .ok (.iload 5, 2) := D_La_law_5 (625, .iload 5, 2) (List.mem_of_getElem? (i := 52) rfl)
theorem d_La_law_627 : decode Y_La_law.2.1 627 = .ok (.ifCond .ne 14, 3) := D_La_law_5 (627, .ifCond .ne 14, 3) (List.mem_of_getElem? (i := 53) rfl)
theorem d_La_law_630 : decode Y_La_law.2.1 630 = .ok (.aload_n 3, 1) := D_La_law_5 (630, .aload_n 3, 1) (List.mem_of_getElem? (i := 54) rfl)
theorem d_La_law_631 : decode Y_La_law.2.1 631 = .ok (.iconst 0, 1) := D_La_law_5 (631, .iconst 0, 1) (List.mem_of_getElem? (i := 55) rfl)
theorem d_La_law_632 : decode Y_La_law.2.1 632 = .ok (.laload, 1) := D_La_law_5 (632, .laload, 1) (List.mem_of_getElem? (i := 56) rfl)
theorem d_La_law_633 : decode Y_La_law.2.1 633 = .ok (.lload 6, 2) := D_La_law_5 (633, .lload 6, 2) (List.mem_of_getElem? (i := 57) rfl)
theorem d_La_law_635 : decode Y_La_law.2.1 635 = .ok (.lcmp, 1) := D_La_law_5 (635, .lcmp, 1) (List.mem_of_getElem? (i := 58) rfl)
theorem d_La_law_636 : decode Y_La_law.2.1 636 = .ok (.ifCond .eq 5, 3) := D_La_law_5 (636, .ifCond .eq 5, 3) (List.mem_of_getElem? (i := 59) rfl)
theorem D_La_law_6 : ∀ q ∈ ([(639, .iconst 0, 1), (640, .ireturn, 1), (641, .goto 721, 3), (644, .aload_n 1, 1), (645, .aload_n 0, 1), (646, .iload 4, 2), (648, .iconst 1, 1), (649, .iadd, 1), (650, .iaload, 1), (651, .aload_n 0, 1), (652, .iload 4, 2), (654, .iconst 2, 1), (655, .iadd, 1), (656, .iaload, 1), (657, .aload_n 0, 1), (658, .iload 4, 2), (660, .iconst 3, 1), (661, .iadd, 1), (662, .iaload, 1), (663, .aload_n 0, 1), (664, .iload 4, 2), (666, .iconst 4, 1), (667, .iadd, 1), (668, .iaload, 1), (669, .aload_n 0, 1), (670, .iload 4, 2), (672, .iconst 5, 1), (673, .iadd, 1), (674, .iaload, 1), (675, .aload_n 0, 1), (676, .iload 4, 2), (678, .bipush 6, 2), (680, .iadd, 1), (681, .iaload, 1), (682, .invokestatic 110, 3), (685, .istore 5, 2), (687, .aload_n 2, 1), (688, .aload_n 0, 1), (689, .iload 4, 2), (691, .iconst 1, 1), (692, .iadd, 1), (693, .iaload, 1), (694, .aload_n 0, 1), (695, .iload 4, 2), (697, .iconst 2, 1), (698, .iadd, 1), (699, .iaload, 1), (700, .aload_n 0, 1), (701, .iload 4, 2), (703, .iconst 3, 1), (704, .iadd, 1), (705, .iaload, 1), (706, .aload_n 0, 1), (707, .iload 4, 2), (709, .iconst 4, 1), (710, .iadd, 1), (711, .iaload, 1), (712, .aload_n 0, 1), (713, .iload 4, 2), (715, .iconst 5, 1)] : List (Nat × Instr × Nat)), decode code q.1 = .ok (q.2.1, q.2.2) := by decide +kernel
theorem d_La_law_639 : decode Y_La_law.2.1 639 = .ok (.iconst 0, 1) := D_La_law_6 (639, .iconst 0, 1) (List.mem_of_getElem? (i := 0) rfl)
theorem d_La_law_640 : decode Y_La_law.2.1 640 = .ok (.ireturn, 1) := D_La_law_6 (640, .ireturn, 1) (List.mem_of_getElem? (i := 1) rfl)
theorem d_La_law_641 : decode Y_La_law.2.1 641 = .ok (.goto 721, 3) := D_La_law_6 (641, .goto 721, 3) (List.mem_of_getElem? (i := 2) rfl)
theorem d_La_law_644 : decode Y_La_law.2.1 644 = .ok (.aload_n 1, 1) := D_La_law_6 (644, .aload_n 1, 1) (List.mem_of_getElem? (i := 3) rfl)
theorem d_La_law_645 : decode Y_La_law.2.1 645 = .ok (.aload_n 0, 1) := D_La_law_6 (645, .aload_n 0, 1) (List.mem_of_getElem? (i := 4) rfl)
theorem d_La_law_646 : decode Y_La_law.2.1 646 = .ok (.iload 4, 2) := D_La_law_6 (646, .iload 4, 2) (List.mem_of_getElem? (i := 5) rfl)
theorem d_La_law_648 : decode Y_La_law.2.1 648 = .ok (.iconst 1, 1) := D_La_law_6 (648, .iconst 1, 1) (List.mem_of_getElem? (i := 6) rfl)
theorem d_La_law_649 : decode Y_La_law.2.1 649 = .ok (.iadd, 1) := D_La_law_6 (649, .iadd, 1) (List.mem_of_getElem? (i := 7) rfl)
theorem d_La_law_650 : decode Y_La_law.2.1 650 = .ok (.iaload, 1) := D_La_law_6 (650, .iaload, 1) (List.mem_of_getElem? (i := 8) rfl)
theorem d_La_law_651 : decode Y_La_law.2.1 651 = .ok (.aload_n 0, 1) := D_La_law_6 (651, .aload_n 0, 1) (List.mem_of_getElem? (i := 9) rfl)
theorem d_La_law_652 : decode Y_La_law.2.1 652 = .ok (.iload 4, 2) := D_La_law_6 (652, .iload 4, 2) (List.mem_of_getElem? (i := 10) rfl)
theorem d_La_law_654 : decode Y_La_law.2.1 654 = .ok (.iconst 2, 1) := D_La_law_6 (654, .iconst 2, 1) (List.mem_of_getElem? (i := 11) rfl)
theorem d_La_law_655 : decode Y_La_law.2.1 655 = .ok (.iadd, 1) := D_La_law_6 (655, .iadd, 1) (List.mem_of_getElem? (i := 12) rfl)
theorem d_La_law_656 : decode Y_La_law.2.1 656 = .ok (.iaload, 1) := D_La_law_6 (656, .iaload, 1) (List.mem_of_getElem? (i := 13) rfl)
theorem d_La_law_657 : decode Y_La_law.2.1 657 = .ok (.aload_n 0, 1) := D_La_law_6 (657, .aload_n 0, 1) (List.mem_of_getElem? (i := 14) rfl)
theorem d_La_law_658 : decode Y_La_law.2.1 658 = .ok (.iload 4, 2) := D_La_law_6 (658, .iload 4, 2) (List.mem_of_getElem? (i := 15) rfl)
theorem d_La_law_660 : decode Y_La_law.2.1 660 = .ok (.iconst 3, 1) := D_La_law_6 (660, .iconst 3, 1) (List.mem_of_getElem? (i := 16) rfl)
theorem d_La_law_661 : decode Y_La_law.2.1 661 = .ok (.iadd, 1) := D_La_law_6 (661, .iadd, 1) (List.mem_of_getElem? (i := 17) rfl)
theorem d_La_law_662 : decode Y_La_law.2.1 662 = .ok (.iaload, 1) := D_La_law_6 (662, .iaload, 1) (List.mem_of_getElem? (i := 18) rfl)
theorem d_La_law_663 : decode Y_La_law.2.1 663 = .ok (.aload_n 0, 1) := D_La_law_6 (663, .aload_n 0, 1) (List.mem_of_getElem? (i := 19) rfl)
theorem d_La_law_664 : decode Y_La_law.2.1 664 = .ok (.iload 4, 2) := D_La_law_6 (664, .iload 4, 2) (List.mem_of_getElem? (i := 20) rfl)
theorem d_La_law_666 : decode Y_La_law.2.1 666 = .ok (.iconst 4, 1) := D_La_law_6 (666, .iconst 4, 1) (List.mem_of_getElem? (i := 21) rfl)
theorem d_La_law_667 : decode Y_La_law.2.1 667 = .ok (.iadd, 1) := D_La_law_6 (667, .iadd, 1) (List.mem_of_getElem? (i := 22) rfl)
theorem d_La_law_668 : decode Y_La_law.2.1 668 = .ok (.iaload, 1) := D_La_law_6 (668, .iaload, 1) (List.mem_of_getElem? (i := 23) rfl)
theorem d_La_law_669 : decode Y_La_law.2.1 669 = .ok (.aload_n 0, 1) := D_La_law_6 (669, .aload_n 0, 1) (List.mem_of_getElem? (i := 24) rfl)
theorem d_La_law_670 : decode Y_La_law.2.1 670 = .ok (.iload 4, 2) := D_La_law_6 (670, .iload 4, 2) (List.mem_of_getElem? (i := 25) rfl)
theorem d_La_law_672 : decode Y_La_law.2.1 672 = .ok (.iconst 5, 1) := D_La_law_6 (672, .iconst 5, 1) (List.mem_of_getElem? (i := 26) rfl)
theorem d_La_law_673 : decode Y_La_law.2.1 673 = .ok (.iadd, 1) := D_La_law_6 (673, .iadd, 1) (List.mem_of_getElem? (i := 27) rfl)
theorem d_La_law_674 : decode Y_La_law.2.1 674 = .ok (.iaload, 1) := D_La_law_6 (674, .iaload, 1) (List.mem_of_getElem? (i := 28) rfl)
theorem d_La_law_675 : decode Y_La_law.2.1 675 = .ok (.aload_n 0, 1) := D_La_law_6 (675, .aload_n 0, 1) (List.mem_of_getElem? (i := 29) rfl)
theorem d_La_law_676 : decode Y_La_law.2.1 676 = .ok (.iload 4, 2) := D_La_law_6 (676, .iload 4, 2) (List.mem_of_getElem? (i := 30) rfl)
theorem d_La_law_678 : decode Y_La_law.2.1 678 = .ok (.bipush 6, 2) := D_La_law_6 (678, .bipush 6, 2) (List.mem_of_getElem? (i := 31) rfl)
theorem d_La_law_680 : decode Y_La_law.2.1 680 = .ok (.iadd, 1) := D_La_law_6 (680, .iadd, 1) (List.mem_of_getElem? (i := 32) rfl)
theorem d_La_law_681 : decode Y_La_law.2.1 681 = .ok (.iaload, 1) := D_La_law_6 (681, .iaload, 1) (List.mem_of_getElem? (i := 33) rfl)
theorem d_La_law_682 : decode Y_La_law.2.1 682 = .ok (.invokestatic 110, 3) := D_La_law_6 (682, .invokestatic 110, 3) (List.mem_of_getElem? (i := 34) rfl)
theorem d_La_law_685 : decode Y_La_law.2.1 685 = .ok (.istore 5, 2) := D_La_law_6 (685, .istore 5, 2) (List.mem_of_getElem? (i := 35) rfl)
theorem d_La_law_687 : decode Y_La_law.2.1 687 = .ok (.aload_n 2, 1) := D_La_law_6 (687, .aload_n 2, 1) (List.mem_of_getElem? (i := 36) rfl)
theorem d_La_law_688 : decode Y_La_law.2.1 688 = .ok (.aload_n 0, 1) := D_La_law_6 (688, .aload_n 0, 1) (List.mem_of_getElem? (i := 37) rfl)
theorem d_La_law_689 : decode Y_La_law.2.1 689 = .ok (.iload 4, 2) := D_La_law_6 (689, .iload 4, 2) (List.mem_of_getElem? (i := 38) rfl)
theorem d_La_law_691 : decode Y_La_law.2.1 691 = .ok (.iconst 1, 1) := D_La_law_6 (691, .iconst 1, 1) (List.mem_of_getElem? (i := 39) rfl)
theorem d_La_law_692 : decode Y_La_law.2.1 692 = .ok (.iadd, 1) := D_La_law_6 (692, .iadd, 1) (List.mem_of_getElem? (i := 40) rfl)
theorem d_La_law_693 : decode Y_La_law.2.1 693 = .ok (.iaload, 1) := D_La_law_6 (693, .iaload, 1) (List.mem_of_getElem? (i := 41) rfl)
theorem d_La_law_694 : decode Y_La_law.2.1 694 = .ok (.aload_n 0, 1) := D_La_law_6 (694, .aload_n 0, 1) (List.mem_of_getElem? (i := 42) rfl)
theorem d_La_law_695 : decode Y_La_law.2.1 695 = .ok (.iload 4, 2) := D_La_law_6 (695, .iload 4, 2) (List.mem_of_getElem? (i := 43) rfl)
theorem d_La_law_697 : decode Y_La_law.2.1 697 = .ok (.iconst 2, 1) := D_La_law_6 (697, .iconst 2, 1) (List.mem_of_getElem? (i := 44) rfl)
theorem d_La_law_698 : decode Y_La_law.2.1 698 = .ok (.iadd, 1) := D_La_law_6 (698, .iadd, 1) (List.mem_of_getElem? (i := 45) rfl)
theorem d_La_law_699 : decode Y_La_law.2.1 699 = .ok (.iaload, 1) := D_La_law_6 (699, .iaload, 1) (List.mem_of_getElem? (i := 46) rfl)
theorem d_La_law_700 : decode Y_La_law.2.1 700 = .ok (.aload_n 0, 1) := D_La_law_6 (700, .aload_n 0, 1) (List.mem_of_getElem? (i := 47) rfl)
theorem d_La_law_701 : decode Y_La_law.2.1 701 = .ok (.iload 4, 2) := D_La_law_6 (701, .iload 4, 2) (List.mem_of_getElem? (i := 48) rfl)
theorem d_La_law_703 : decode Y_La_law.2.1 703 = .ok (.iconst 3, 1) := D_La_law_6 (703, .iconst 3, 1) (List.mem_of_getElem? (i := 49) rfl)
theorem d_La_law_704 : decode Y_La_law.2.1 704 = .ok (.iadd, 1) := D_La_law_6 (704, .iadd, 1) (List.mem_of_getElem? (i := 50) rfl)
theorem d_La_law_705 : decode Y_La_law.2.1 705 = .ok (.iaload, 1) := D_La_law_6 (705, .iaload, 1) (List.mem_of_getElem? (i := 51) rfl)
theorem d_La_law_706 : decode Y_La_law.2.1 706 = .ok (.aload_n 0, 1) := D_La_law_6 (706, .aload_n 0, 1) (List.mem_of_getElem? (i := 52) rfl)
theorem d_La_law_707 : decode Y_La_law.2.1 707 = .ok (.iload 4, 2) := D_La_law_6 (707, .iload 4, 2) (List.mem_of_getElem? (i := 53) rfl)
theorem d_La_law_709 : decode Y_La_law.2.1 709 = .ok (.iconst 4, 1) := D_La_law_6 (709, .iconst 4, 1) (List.mem_of_getElem? (i := 54) rfl)
theorem d_La_law_710 : decode Y_La_law.2.1 710 = .ok (.iadd, 1) := D_La_law_6 (710, .iadd, 1) (List.mem_of_getElem? (i := 55) rfl)
theorem d_La_law_711 : decode Y_La_law.2.1 711 = .ok (.iaload, 1) := D_La_law_6 (711, .iaload, 1) (List.mem_of_getElem? (i := 56) rfl)
theorem d_La_law_712 : decode Y_La_law.2.1 712 = .ok (.aload_n 0, 1) := D_La_law_6 (712, .aload_n 0, 1) (List.mem_of_getElem? (i := 57) rfl)
theorem d_La_law_713 : decode Y_La_law.2.1 713 = .ok (.iload 4, 2) := D_La_law_6 (713, .iload 4, 2) (List.mem_of_getElem? (i := 58) rfl)
theorem d_La_law_715 : decode Y_La_law.2.1 715 = .ok (.iconst 5, 1) := D_La_law_6 (715, .iconst 5, 1) (List.mem_of_getElem? (i := 59) rfl)
theorem D_La_law_7 : ∀ q ∈ ([(716, .iadd, 1), (717, .iaload, 1), (718, .aload_n 0, 1), (719, .iload 4, 2), (721, .bipush 6, 2), (723, .iadd, 1), (724, .iaload, 1), (725, .invokevirtual 113, 3), (728, .aload_n 2, 1), (729, .invokevirtual 84, 3), (732, .iload 5, 2), (734, .if_icmp .eq 5, 3), (737, .iconst 0, 1), (738, .ireturn, 1), (739, .goto 623, 3), (742, .aload_n 1, 1), (743, .aload_n 0, 1), (744, .iload 4, 2), (746, .iconst 1, 1), (747, .iadd, 1), (748, .iaload, 1), (749, .aload_n 0, 1), (750, .iload 4, 2), (752, .iconst 2, 1), (753, .iadd, 1), (754, .iaload, 1), (755, .aload_n 0, 1), (756, .iload 4, 2), (758, .iconst 3, 1), (759, .iadd, 1), (760, .iaload, 1), (761, .aload_n 3, 1), (762, .invokestatic 114, 3), (765, .istore 5, 2), (767, .aload_n 2, 1), (768, .aload_n 0, 1), (769, .iload 4, 2), (771, .iconst 1, 1), (772, .iadd, 1), (773, .iaload, 1), (774, .aload_n 0, 1), (775, .iload 4, 2), (777, .iconst 2, 1), (778, .iadd, 1), (779, .iaload, 1), (780, .aload_n 0, 1), (781, .iload 4, 2), (783, .iconst 3, 1), (784, .iadd, 1), (785, .iaload, 1), (786, .invokevirtual 116, 3), (789, .istore 6, 2), (791, .aload_n 2, 1), (792, .invokevirtual 84, 3), (795, .iload 5, 2), (797, .if_icmp .eq 5, 3), (800, .iconst 0, 1), (801, .ireturn, 1), (802, .iload 5, 2), (804, .ifCond .ne 22, 3)] : List (Nat × Instr × Nat)), decode code q.1 = .ok (q.2.1, q.2.2) := by decide +kernel
theorem d_La_law_716 : decode Y_La_law.2.1 716 = .ok (.iadd, 1) := D_La_law_7 (716, .iadd, 1) (List.mem_of_getElem? (i := 0) rfl)
theorem d_La_law_717 : decode Y_La_law.2.1 717 = .ok (.iaload, 1) := D_La_law_7 (717, .iaload, 1) (List.mem_of_getElem? (i := 1) rfl)
theorem d_La_law_718 : decode Y_La_law.2.1 718 = .ok (.aload_n 0, 1) := D_La_law_7 (718, .aload_n 0, 1) (List.mem_of_getElem? (i := 2) rfl)
theorem d_La_law_719 : decode Y_La_law.2.1 719 = .ok (.iload 4, 2) := D_La_law_7 (719, .iload 4, 2) (List.mem_of_getElem? (i := 3) rfl)
theorem d_La_law_721 : decode Y_La_law.2.1 721 = .ok (.bipush 6, 2) := D_La_law_7 (721, .bipush 6, 2) (List.mem_of_getElem? (i := 4) rfl)
theorem d_La_law_723 : decode Y_La_law.2.1 723 = .ok (.iadd, 1) := D_La_law_7 (723, .iadd, 1) (List.mem_of_getElem? (i := 5) rfl)
theorem d_La_law_724 : decode Y_La_law.2.1 724 = .ok (.iaload, 1) := D_La_law_7 (724, .iaload, 1) (List.mem_of_getElem? (i := 6) rfl)
theorem d_La_law_725 : decode Y_La_law.2.1 725 = .ok (.invokevirtual 113, 3) := D_La_law_7 (725, .invokevirtual 113, 3) (List.mem_of_getElem? (i := 7) rfl)
theorem d_La_law_728 : decode Y_La_law.2.1 728 = .ok (.aload_n 2, 1) := D_La_law_7 (728, .aload_n 2, 1) (List.mem_of_getElem? (i := 8) rfl)
theorem d_La_law_729 : decode Y_La_law.2.1 729 = .ok (.invokevirtual 84, 3) := D_La_law_7 (729, .invokevirtual 84, 3) (List.mem_of_getElem? (i := 9) rfl)
theorem d_La_law_732 : decode Y_La_law.2.1 732 = .ok (.iload 5, 2) := D_La_law_7 (732, .iload 5, 2) (List.mem_of_getElem? (i := 10) rfl)
theorem d_La_law_734 : decode Y_La_law.2.1 734 = .ok (.if_icmp .eq 5, 3) := D_La_law_7 (734, .if_icmp .eq 5, 3) (List.mem_of_getElem? (i := 11) rfl)
theorem d_La_law_737 : decode Y_La_law.2.1 737 = .ok (.iconst 0, 1) := D_La_law_7 (737, .iconst 0, 1) (List.mem_of_getElem? (i := 12) rfl)
theorem d_La_law_738 : decode Y_La_law.2.1 738 = .ok (.ireturn, 1) := D_La_law_7 (738, .ireturn, 1) (List.mem_of_getElem? (i := 13) rfl)
theorem d_La_law_739 : decode Y_La_law.2.1 739 = .ok (.goto 623, 3) := D_La_law_7 (739, .goto 623, 3) (List.mem_of_getElem? (i := 14) rfl)
theorem d_La_law_742 : decode Y_La_law.2.1 742 = .ok (.aload_n 1, 1) := D_La_law_7 (742, .aload_n 1, 1) (List.mem_of_getElem? (i := 15) rfl)
theorem d_La_law_743 : decode Y_La_law.2.1 743 = .ok (.aload_n 0, 1) := D_La_law_7 (743, .aload_n 0, 1) (List.mem_of_getElem? (i := 16) rfl)
theorem d_La_law_744 : decode Y_La_law.2.1 744 = .ok (.iload 4, 2) := D_La_law_7 (744, .iload 4, 2) (List.mem_of_getElem? (i := 17) rfl)
theorem d_La_law_746 : decode Y_La_law.2.1 746 = .ok (.iconst 1, 1) := D_La_law_7 (746, .iconst 1, 1) (List.mem_of_getElem? (i := 18) rfl)
theorem d_La_law_747 : decode Y_La_law.2.1 747 = .ok (.iadd, 1) := D_La_law_7 (747, .iadd, 1) (List.mem_of_getElem? (i := 19) rfl)
theorem d_La_law_748 : decode Y_La_law.2.1 748 = .ok (.iaload, 1) := D_La_law_7 (748, .iaload, 1) (List.mem_of_getElem? (i := 20) rfl)
theorem d_La_law_749 : decode Y_La_law.2.1 749 = .ok (.aload_n 0, 1) := D_La_law_7 (749, .aload_n 0, 1) (List.mem_of_getElem? (i := 21) rfl)
theorem d_La_law_750 : decode Y_La_law.2.1 750 = .ok (.iload 4, 2) := D_La_law_7 (750, .iload 4, 2) (List.mem_of_getElem? (i := 22) rfl)
theorem d_La_law_752 : decode Y_La_law.2.1 752 = .ok (.iconst 2, 1) := D_La_law_7 (752, .iconst 2, 1) (List.mem_of_getElem? (i := 23) rfl)
theorem d_La_law_753 : decode Y_La_law.2.1 753 = .ok (.iadd, 1) := D_La_law_7 (753, .iadd, 1) (List.mem_of_getElem? (i := 24) rfl)
theorem d_La_law_754 : decode Y_La_law.2.1 754 = .ok (.iaload, 1) := D_La_law_7 (754, .iaload, 1) (List.mem_of_getElem? (i := 25) rfl)
theorem d_La_law_755 : decode Y_La_law.2.1 755 = .ok (.aload_n 0, 1) := D_La_law_7 (755, .aload_n 0, 1) (List.mem_of_getElem? (i := 26) rfl)
theorem d_La_law_756 : decode Y_La_law.2.1 756 = .ok (.iload 4, 2) := D_La_law_7 (756, .iload 4, 2) (List.mem_of_getElem? (i := 27) rfl)
theorem d_La_law_758 : decode Y_La_law.2.1 758 = .ok (.iconst 3, 1) := D_La_law_7 (758, .iconst 3, 1) (List.mem_of_getElem? (i := 28) rfl)
theorem d_La_law_759 : decode Y_La_law.2.1 759 = .ok (.iadd, 1) := D_La_law_7 (759, .iadd, 1) (List.mem_of_getElem? (i := 29) rfl)
theorem d_La_law_760 : decode Y_La_law.2.1 760 = .ok (.iaload, 1) := D_La_law_7 (760, .iaload, 1) (List.mem_of_getElem? (i := 30) rfl)
theorem d_La_law_761 : decode Y_La_law.2.1 761 = .ok (.aload_n 3, 1) := D_La_law_7 (761, .aload_n 3, 1) (List.mem_of_getElem? (i := 31) rfl)
theorem d_La_law_762 : decode Y_La_law.2.1 762 = .ok (.invokestatic 114, 3) := D_La_law_7 (762, .invokestatic 114, 3) (List.mem_of_getElem? (i := 32) rfl)
theorem d_La_law_765 : decode Y_La_law.2.1 765 = .ok (.istore 5, 2) := D_La_law_7 (765, .istore 5, 2) (List.mem_of_getElem? (i := 33) rfl)
theorem d_La_law_767 : decode Y_La_law.2.1 767 = .ok (.aload_n 2, 1) := D_La_law_7 (767, .aload_n 2, 1) (List.mem_of_getElem? (i := 34) rfl)
theorem d_La_law_768 : decode Y_La_law.2.1 768 = .ok (.aload_n 0, 1) := D_La_law_7 (768, .aload_n 0, 1) (List.mem_of_getElem? (i := 35) rfl)
theorem d_La_law_769 : decode Y_La_law.2.1 769 = .ok (.iload 4, 2) := D_La_law_7 (769, .iload 4, 2) (List.mem_of_getElem? (i := 36) rfl)
theorem d_La_law_771 : decode Y_La_law.2.1 771 = .ok (.iconst 1, 1) := D_La_law_7 (771, .iconst 1, 1) (List.mem_of_getElem? (i := 37) rfl)
theorem d_La_law_772 : decode Y_La_law.2.1 772 = .ok (.iadd, 1) := D_La_law_7 (772, .iadd, 1) (List.mem_of_getElem? (i := 38) rfl)
theorem d_La_law_773 : decode Y_La_law.2.1 773 = .ok (.iaload, 1) := D_La_law_7 (773, .iaload, 1) (List.mem_of_getElem? (i := 39) rfl)
theorem d_La_law_774 : decode Y_La_law.2.1 774 = .ok (.aload_n 0, 1) := D_La_law_7 (774, .aload_n 0, 1) (List.mem_of_getElem? (i := 40) rfl)
theorem d_La_law_775 : decode Y_La_law.2.1 775 = .ok (.iload 4, 2) := D_La_law_7 (775, .iload 4, 2) (List.mem_of_getElem? (i := 41) rfl)
theorem d_La_law_777 : decode Y_La_law.2.1 777 = .ok (.iconst 2, 1) := D_La_law_7 (777, .iconst 2, 1) (List.mem_of_getElem? (i := 42) rfl)
theorem d_La_law_778 : decode Y_La_law.2.1 778 = .ok (.iadd, 1) := D_La_law_7 (778, .iadd, 1) (List.mem_of_getElem? (i := 43) rfl)
theorem d_La_law_779 : decode Y_La_law.2.1 779 = .ok (.iaload, 1) := D_La_law_7 (779, .iaload, 1) (List.mem_of_getElem? (i := 44) rfl)
theorem d_La_law_780 : decode Y_La_law.2.1 780 = .ok (.aload_n 0, 1) := D_La_law_7 (780, .aload_n 0, 1) (List.mem_of_getElem? (i := 45) rfl)
theorem d_La_law_781 : decode Y_La_law.2.1 781 = .ok (.iload 4, 2) := D_La_law_7 (781, .iload 4, 2) (List.mem_of_getElem? (i := 46) rfl)
theorem d_La_law_783 : decode Y_La_law.2.1 783 = .ok (.iconst 3, 1) := D_La_law_7 (783, .iconst 3, 1) (List.mem_of_getElem? (i := 47) rfl)
theorem d_La_law_784 : decode Y_La_law.2.1 784 = .ok (.iadd, 1) := D_La_law_7 (784, .iadd, 1) (List.mem_of_getElem? (i := 48) rfl)
theorem d_La_law_785 : decode Y_La_law.2.1 785 = .ok (.iaload, 1) := D_La_law_7 (785, .iaload, 1) (List.mem_of_getElem? (i := 49) rfl)
theorem d_La_law_786 : decode Y_La_law.2.1 786 = .ok (.invokevirtual 116, 3) := D_La_law_7 (786, .invokevirtual 116, 3) (List.mem_of_getElem? (i := 50) rfl)
theorem d_La_law_789 : decode Y_La_law.2.1 789 = .ok (.istore 6, 2) := D_La_law_7 (789, .istore 6, 2) (List.mem_of_getElem? (i := 51) rfl)
theorem d_La_law_791 : decode Y_La_law.2.1 791 = .ok (.aload_n 2, 1) := D_La_law_7 (791, .aload_n 2, 1) (List.mem_of_getElem? (i := 52) rfl)
theorem d_La_law_792 : decode Y_La_law.2.1 792 = .ok (.invokevirtual 84, 3) := D_La_law_7 (792, .invokevirtual 84, 3) (List.mem_of_getElem? (i := 53) rfl)
theorem d_La_law_795 : decode Y_La_law.2.1 795 = .ok (.iload 5, 2) := D_La_law_7 (795, .iload 5, 2) (List.mem_of_getElem? (i := 54) rfl)
theorem d_La_law_797 : decode Y_La_law.2.1 797 = .ok (.if_icmp .eq 5, 3) := D_La_law_7 (797, .if_icmp .eq 5, 3) (List.mem_of_getElem? (i := 55) rfl)
theorem d_La_law_800 : decode Y_La_law.2.1 800 = .ok (.iconst 0, 1) := D_La_law_7 (800, .iconst 0, 1) (List.mem_of_getElem? (i := 56) rfl)
theorem d_La_law_801 : decode Y_La_law.2.1 801 = .ok (.ireturn, 1) := D_La_law_7 (801, .ireturn, 1) (List.mem_of_getElem? (i := 57) rfl)
theorem d_La_law_802 : decode Y_La_law.2.1 802 = .ok (.iload 5, 2) := D_La_law_7 (802, .iload 5, 2) (List.mem_of_getElem? (i := 58) rfl)
theorem d_La_law_804 : decode Y_La_law.2.1 804 = .ok (.ifCond .ne 22, 3) := D_La_law_7 (804, .ifCond .ne 22, 3) (List.mem_of_getElem? (i := 59) rfl)
theorem D_La_law_8 : ∀ q ∈ ([(807, .aload_n 3, 1), (808, .iconst 0, 1), (809, .laload, 1), (810, .iload 6, 2), (812, .ifCond .eq 7, 3), (815, .lconst 1, 1), (816, .goto 4, 3), (819, .lconst 0, 1), (820, .lcmp, 1), (821, .ifCond .eq 5, 3), (824, .iconst 0, 1), (825, .ireturn, 1), (826, .goto 536, 3), (829, .aload_n 1, 1), (830, .aload_n 0, 1), (831, .iload 4, 2), (833, .iconst 1, 1), (834, .iadd, 1), (835, .iaload, 1), (836, .aload_n 0, 1), (837, .iload 4, 2), (839, .iconst 2, 1), (840, .iadd, 1), (841, .iaload, 1), (842, .i2l, 1), (843, .bipush 32, 2), (845, .lshl, 1), (846, .aload_n 0, 1), (847, .iload 4, 2), (849, .iconst 3, 1), (850, .iadd, 1), (851, .iaload, 1), (852, .i2l, 1), (853, .ldc2_w 117, 3), (856, .land, 1), (857, .lor, 1), (858, .invokestatic 119, 3), (861, .istore 5, 2), (863, .aload_n 2, 1), (864, .aload_n 0, 1), (865, .iload 4, 2), (867, .iconst 1, 1), (868, .iadd, 1), (869, .iaload, 1), (870, .aload_n 0, 1), (871, .iload 4, 2), (873, .iconst 2, 1), (874, .iadd, 1), (875, .iaload, 1), (876, .i2l, 1), (877, .bipush 32, 2), (879, .lshl, 1), (880, .aload_n 0, 1), (881, .iload 4, 2), (883, .iconst 3, 1), (884, .iadd, 1), (885, .iaload, 1), (886, .i2l, 1), (887, .ldc2_w 117, 3), (890, .land, 1)] : List (Nat × Instr × Nat)), decode code q.1 = .ok (q.2.1, q.2.2) := by decide +kernel
theorem d_La_law_807 : decode Y_La_law.2.1 807 = .ok (.aload_n 3, 1) := D_La_law_8 (807, .aload_n 3, 1) (List.mem_of_getElem? (i := 0) rfl)
theorem d_La_law_808 : decode Y_La_law.2.1 808 = .ok (.iconst 0, 1) := D_La_law_8 (808, .iconst 0, 1) (List.mem_of_getElem? (i := 1) rfl)
theorem d_La_law_809 : decode Y_La_law.2.1 809 = .ok (.laload, 1) := D_La_law_8 (809, .laload, 1) (List.mem_of_getElem? (i := 2) rfl)
theorem d_La_law_810 : decode Y_La_law.2.1 810 = .ok (.iload 6, 2) := D_La_law_8 (810, .iload 6, 2) (List.mem_of_getElem? (i := 3) rfl)
theorem d_La_law_812 : decode Y_La_law.2.1 812 = .ok (.ifCond .eq 7, 3) := D_La_law_8 (812, .ifCond .eq 7, 3) (List.mem_of_getElem? (i := 4) rfl)
theorem d_La_law_815 : decode Y_La_law.2.1 815 = .ok (.lconst 1, 1) := D_La_law_8 (815, .lconst 1, 1) (List.mem_of_getElem? (i := 5) rfl)
theorem d_La_law_816 : decode Y_La_law.2.1 816 = .ok (.goto 4, 3) := D_La_law_8 (816, .goto 4, 3) (List.mem_of_getElem? (i := 6) rfl)
theorem d_La_law_819 : decode Y_La_law.2.1 819 = .ok (.lconst 0, 1) := D_La_law_8 (819, .lconst 0, 1) (List.mem_of_getElem? (i := 7) rfl)
theorem d_La_law_820 : decode Y_La_law.2.1 820 = .ok (.lcmp, 1) := D_La_law_8 (820, .lcmp, 1) (List.mem_of_getElem? (i := 8) rfl)
theorem d_La_law_821 : decode Y_La_law.2.1 821 = .ok (.ifCond .eq 5, 3) := D_La_law_8 (821, .ifCond .eq 5, 3) (List.mem_of_getElem? (i := 9) rfl)
theorem d_La_law_824 : decode Y_La_law.2.1 824 = .ok (.iconst 0, 1) := D_La_law_8 (824, .iconst 0, 1) (List.mem_of_getElem? (i := 10) rfl)
theorem d_La_law_825 : decode Y_La_law.2.1 825 = .ok (.ireturn, 1) := D_La_law_8 (825, .ireturn, 1) (List.mem_of_getElem? (i := 11) rfl)
theorem d_La_law_826 : decode Y_La_law.2.1 826 = .ok (.goto 536, 3) := D_La_law_8 (826, .goto 536, 3) (List.mem_of_getElem? (i := 12) rfl)
theorem d_La_law_829 : decode Y_La_law.2.1 829 = .ok (.aload_n 1, 1) := D_La_law_8 (829, .aload_n 1, 1) (List.mem_of_getElem? (i := 13) rfl)
theorem d_La_law_830 : decode Y_La_law.2.1 830 = .ok (.aload_n 0, 1) := D_La_law_8 (830, .aload_n 0, 1) (List.mem_of_getElem? (i := 14) rfl)
theorem d_La_law_831 : decode Y_La_law.2.1 831 = .ok (.iload 4, 2) := D_La_law_8 (831, .iload 4, 2) (List.mem_of_getElem? (i := 15) rfl)
theorem d_La_law_833 : decode Y_La_law.2.1 833 = .ok (.iconst 1, 1) := D_La_law_8 (833, .iconst 1, 1) (List.mem_of_getElem? (i := 16) rfl)
theorem d_La_law_834 : decode Y_La_law.2.1 834 = .ok (.iadd, 1) := D_La_law_8 (834, .iadd, 1) (List.mem_of_getElem? (i := 17) rfl)
theorem d_La_law_835 : decode Y_La_law.2.1 835 = .ok (.iaload, 1) := D_La_law_8 (835, .iaload, 1) (List.mem_of_getElem? (i := 18) rfl)
theorem d_La_law_836 : decode Y_La_law.2.1 836 = .ok (.aload_n 0, 1) := D_La_law_8 (836, .aload_n 0, 1) (List.mem_of_getElem? (i := 19) rfl)
theorem d_La_law_837 : decode Y_La_law.2.1 837 = .ok (.iload 4, 2) := D_La_law_8 (837, .iload 4, 2) (List.mem_of_getElem? (i := 20) rfl)
theorem d_La_law_839 : decode Y_La_law.2.1 839 = .ok (.iconst 2, 1) := D_La_law_8 (839, .iconst 2, 1) (List.mem_of_getElem? (i := 21) rfl)
theorem d_La_law_840 : decode Y_La_law.2.1 840 = .ok (.iadd, 1) := D_La_law_8 (840, .iadd, 1) (List.mem_of_getElem? (i := 22) rfl)
theorem d_La_law_841 : decode Y_La_law.2.1 841 = .ok (.iaload, 1) := D_La_law_8 (841, .iaload, 1) (List.mem_of_getElem? (i := 23) rfl)
theorem d_La_law_842 : decode Y_La_law.2.1 842 = .ok (.i2l, 1) := D_La_law_8 (842, .i2l, 1) (List.mem_of_getElem? (i := 24) rfl)
theorem d_La_law_843 : decode Y_La_law.2.1 843 = .ok (.bipush 32, 2) := D_La_law_8 (843, .bipush 32, 2) (List.mem_of_getElem? (i := 25) rfl)
theorem d_La_law_845 : decode Y_La_law.2.1 845 = .ok (.lshl, 1) := D_La_law_8 (845, .lshl, 1) (List.mem_of_getElem? (i := 26) rfl)
theorem d_La_law_846 : decode Y_La_law.2.1 846 = .ok (.aload_n 0, 1) := D_La_law_8 (846, .aload_n 0, 1) (List.mem_of_getElem? (i := 27) rfl)
theorem d_La_law_847 : decode Y_La_law.2.1 847 = .ok (.iload 4, 2) := D_La_law_8 (847, .iload 4, 2) (List.mem_of_getElem? (i := 28) rfl)
theorem d_La_law_849 : decode Y_La_law.2.1 849 = .ok (.iconst 3, 1) := D_La_law_8 (849, .iconst 3, 1) (List.mem_of_getElem? (i := 29) rfl)
theorem d_La_law_850 : decode Y_La_law.2.1 850 = .ok (.iadd, 1) := D_La_law_8 (850, .iadd, 1) (List.mem_of_getElem? (i := 30) rfl)
theorem d_La_law_851 : decode Y_La_law.2.1 851 = .ok (.iaload, 1) := D_La_law_8 (851, .iaload, 1) (List.mem_of_getElem? (i := 31) rfl)
theorem d_La_law_852 : decode Y_La_law.2.1 852 = .ok (.i2l, 1) := D_La_law_8 (852, .i2l, 1) (List.mem_of_getElem? (i := 32) rfl)
theorem d_La_law_853 : decode Y_La_law.2.1 853 = .ok (.ldc2_w 117, 3) := D_La_law_8 (853, .ldc2_w 117, 3) (List.mem_of_getElem? (i := 33) rfl)
theorem d_La_law_856 : decode Y_La_law.2.1 856 = .ok (.land, 1) := D_La_law_8 (856, .land, 1) (List.mem_of_getElem? (i := 34) rfl)
theorem d_La_law_857 : decode Y_La_law.2.1 857 = .ok (.lor, 1) := D_La_law_8 (857, .lor, 1) (List.mem_of_getElem? (i := 35) rfl)
theorem d_La_law_858 : decode Y_La_law.2.1 858 = .ok (.invokestatic 119, 3) := D_La_law_8 (858, .invokestatic 119, 3) (List.mem_of_getElem? (i := 36) rfl)
theorem d_La_law_861 : decode Y_La_law.2.1 861 = .ok (.istore 5, 2) := D_La_law_8 (861, .istore 5, 2) (List.mem_of_getElem? (i := 37) rfl)
theorem d_La_law_863 : decode Y_La_law.2.1 863 = .ok (.aload_n 2, 1) := D_La_law_8 (863, .aload_n 2, 1) (List.mem_of_getElem? (i := 38) rfl)
theorem d_La_law_864 : decode Y_La_law.2.1 864 = .ok (.aload_n 0, 1) := D_La_law_8 (864, .aload_n 0, 1) (List.mem_of_getElem? (i := 39) rfl)
theorem d_La_law_865 : decode Y_La_law.2.1 865 = .ok (.iload 4, 2) := D_La_law_8 (865, .iload 4, 2) (List.mem_of_getElem? (i := 40) rfl)
theorem d_La_law_867 : decode Y_La_law.2.1 867 = .ok (.iconst 1, 1) := D_La_law_8 (867, .iconst 1, 1) (List.mem_of_getElem? (i := 41) rfl)
theorem d_La_law_868 : decode Y_La_law.2.1 868 = .ok (.iadd, 1) := D_La_law_8 (868, .iadd, 1) (List.mem_of_getElem? (i := 42) rfl)
theorem d_La_law_869 : decode Y_La_law.2.1 869 = .ok (.iaload, 1) := D_La_law_8 (869, .iaload, 1) (List.mem_of_getElem? (i := 43) rfl)
theorem d_La_law_870 : decode Y_La_law.2.1 870 = .ok (.aload_n 0, 1) := D_La_law_8 (870, .aload_n 0, 1) (List.mem_of_getElem? (i := 44) rfl)
theorem d_La_law_871 : decode Y_La_law.2.1 871 = .ok (.iload 4, 2) := D_La_law_8 (871, .iload 4, 2) (List.mem_of_getElem? (i := 45) rfl)
theorem d_La_law_873 : decode Y_La_law.2.1 873 = .ok (.iconst 2, 1) := D_La_law_8 (873, .iconst 2, 1) (List.mem_of_getElem? (i := 46) rfl)
theorem d_La_law_874 : decode Y_La_law.2.1 874 = .ok (.iadd, 1) := D_La_law_8 (874, .iadd, 1) (List.mem_of_getElem? (i := 47) rfl)
theorem d_La_law_875 : decode Y_La_law.2.1 875 = .ok (.iaload, 1) := D_La_law_8 (875, .iaload, 1) (List.mem_of_getElem? (i := 48) rfl)
theorem d_La_law_876 : decode Y_La_law.2.1 876 = .ok (.i2l, 1) := D_La_law_8 (876, .i2l, 1) (List.mem_of_getElem? (i := 49) rfl)
theorem d_La_law_877 : decode Y_La_law.2.1 877 = .ok (.bipush 32, 2) := D_La_law_8 (877, .bipush 32, 2) (List.mem_of_getElem? (i := 50) rfl)
theorem d_La_law_879 : decode Y_La_law.2.1 879 = .ok (.lshl, 1) := D_La_law_8 (879, .lshl, 1) (List.mem_of_getElem? (i := 51) rfl)
theorem d_La_law_880 : decode Y_La_law.2.1 880 = .ok (.aload_n 0, 1) := D_La_law_8 (880, .aload_n 0, 1) (List.mem_of_getElem? (i := 52) rfl)
theorem d_La_law_881 : decode Y_La_law.2.1 881 = .ok (.iload 4, 2) := D_La_law_8 (881, .iload 4, 2) (List.mem_of_getElem? (i := 53) rfl)
theorem d_La_law_883 : decode Y_La_law.2.1 883 = .ok (.iconst 3, 1) := D_La_law_8 (883, .iconst 3, 1) (List.mem_of_getElem? (i := 54) rfl)
theorem d_La_law_884 : decode Y_La_law.2.1 884 = .ok (.iadd, 1) := D_La_law_8 (884, .iadd, 1) (List.mem_of_getElem? (i := 55) rfl)
theorem d_La_law_885 : decode Y_La_law.2.1 885 = .ok (.iaload, 1) := D_La_law_8 (885, .iaload, 1) (List.mem_of_getElem? (i := 56) rfl)
theorem d_La_law_886 : decode Y_La_law.2.1 886 = .ok (.i2l, 1) := D_La_law_8 (886, .i2l, 1) (List.mem_of_getElem? (i := 57) rfl)
theorem d_La_law_887 : decode Y_La_law.2.1 887 = .ok (.ldc2_w 117, 3) := D_La_law_8 (887, .ldc2_w 117, 3) (List.mem_of_getElem? (i := 58) rfl)
theorem d_La_law_890 : decode Y_La_law.2.1 890 = .ok (.land, 1) := D_La_law_8 (890, .land, 1) (List.mem_of_getElem? (i := 59) rfl)
theorem D_La_law_9 : ∀ q ∈ ([(891, .lor, 1), (892, .invokevirtual 122, 3), (895, .aload_n 2, 1), (896, .invokevirtual 84, 3), (899, .iload 5, 2), (901, .if_icmp .eq 5, 3), (904, .iconst 0, 1), (905, .ireturn, 1), (906, .goto 456, 3), (909, .aload_n 1, 1), (910, .aload_n 0, 1), (911, .iload 4, 2), (913, .iconst 1, 1), (914, .iadd, 1), (915, .iaload, 1), (916, .aload_n 3, 1), (917, .invokestatic 123, 3), (920, .istore 5, 2), (922, .aload_n 2, 1), (923, .aload_n 0, 1), (924, .iload 4, 2), (926, .iconst 1, 1), (927, .iadd, 1), (928, .iaload, 1), (929, .invokevirtual 126, 3), (932, .lstore 6, 2), (934, .aload_n 2, 1), (935, .invokevirtual 84, 3), (938, .iload 5, 2), (940, .if_icmp .eq 5, 3), (943, .iconst 0, 1), (944, .ireturn, 1), (945, .iload 5, 2), (947, .ifCond .ne 14, 3), (950, .aload_n 3, 1), (951, .iconst 0, 1), (952, .laload, 1), (953, .lload 6, 2), (955, .lcmp, 1), (956, .ifCond .eq 5, 3), (959, .iconst 0, 1), (960, .ireturn, 1), (961, .goto 401, 3), (964, .aload_n 1, 1), (965, .invokevirtual 127, 3), (968, .aload_n 2, 1), (969, .invokevirtual 130, 3), (972, .goto 390, 3), (975, .aload_n 1, 1), (976, .aload_n 0, 1), (977, .iload 4, 2), (979, .iconst 1, 1), (980, .iadd, 1), (981, .iaload, 1), (982, .aload_n 0, 1), (983, .iload 4, 2), (985, .iconst 2, 1), (986, .iadd, 1), (987, .iaload, 1), (988, .aload_n 3, 1)] : List (Nat × Instr × Nat)), decode code q.1 = .ok (q.2.1, q.2.2) := by decide +kernel
theorem d_La_law_891 : decode Y_La_law.2.1 891 = .ok (.lor, 1) := D_La_law_9 (891, .lor, 1) (List.mem_of_getElem? (i := 0) rfl)
theorem d_La_law_892 : decode Y_La_law.2.1 892 = .ok (.invokevirtual 122, 3) := D_La_law_9 (892, .invokevirtual 122, 3) (List.mem_of_getElem? (i := 1) rfl)
theorem d_La_law_895 : decode Y_La_law.2.1 895 = .ok (.aload_n 2, 1) := D_La_law_9 (895, .aload_n 2, 1) (List.mem_of_getElem? (i := 2) rfl)
theorem d_La_law_896 : decode Y_La_law.2.1 896 = .ok (.invokevirtual 84, 3) := D_La_law_9 (896, .invokevirtual 84, 3) (List.mem_of_getElem? (i := 3) rfl)
theorem d_La_law_899 : decode Y_La_law.2.1 899 = .ok (.iload 5, 2) := D_La_law_9 (899, .iload 5, 2) (List.mem_of_getElem? (i := 4) rfl)
theorem d_La_law_901 : decode Y_La_law.2.1 901 = .ok (.if_icmp .eq 5, 3) := D_La_law_9 (901, .if_icmp .eq 5, 3) (List.mem_of_getElem? (i := 5) rfl)
theorem d_La_law_904 : decode Y_La_law.2.1 904 = .ok (.iconst 0, 1) := D_La_law_9 (904, .iconst 0, 1) (List.mem_of_getElem? (i := 6) rfl)
theorem d_La_law_905 : decode Y_La_law.2.1 905 = .ok (.ireturn, 1) := D_La_law_9 (905, .ireturn, 1) (List.mem_of_getElem? (i := 7) rfl)
theorem d_La_law_906 : decode Y_La_law.2.1 906 = .ok (.goto 456, 3) := D_La_law_9 (906, .goto 456, 3) (List.mem_of_getElem? (i := 8) rfl)
theorem d_La_law_909 : decode Y_La_law.2.1 909 = .ok (.aload_n 1, 1) := D_La_law_9 (909, .aload_n 1, 1) (List.mem_of_getElem? (i := 9) rfl)
theorem d_La_law_910 : decode Y_La_law.2.1 910 = .ok (.aload_n 0, 1) := D_La_law_9 (910, .aload_n 0, 1) (List.mem_of_getElem? (i := 10) rfl)
theorem d_La_law_911 : decode Y_La_law.2.1 911 = .ok (.iload 4, 2) := D_La_law_9 (911, .iload 4, 2) (List.mem_of_getElem? (i := 11) rfl)
theorem d_La_law_913 : decode Y_La_law.2.1 913 = .ok (.iconst 1, 1) := D_La_law_9 (913, .iconst 1, 1) (List.mem_of_getElem? (i := 12) rfl)
theorem d_La_law_914 : decode Y_La_law.2.1 914 = .ok (.iadd, 1) := D_La_law_9 (914, .iadd, 1) (List.mem_of_getElem? (i := 13) rfl)
theorem d_La_law_915 : decode Y_La_law.2.1 915 = .ok (.iaload, 1) := D_La_law_9 (915, .iaload, 1) (List.mem_of_getElem? (i := 14) rfl)
theorem d_La_law_916 : decode Y_La_law.2.1 916 = .ok (.aload_n 3, 1) := D_La_law_9 (916, .aload_n 3, 1) (List.mem_of_getElem? (i := 15) rfl)
theorem d_La_law_917 : decode Y_La_law.2.1 917 = .ok (.invokestatic 123, 3) := D_La_law_9 (917, .invokestatic 123, 3) (List.mem_of_getElem? (i := 16) rfl)
theorem d_La_law_920 : decode Y_La_law.2.1 920 = .ok (.istore 5, 2) := D_La_law_9 (920, .istore 5, 2) (List.mem_of_getElem? (i := 17) rfl)
theorem d_La_law_922 : decode Y_La_law.2.1 922 = .ok (.aload_n 2, 1) := D_La_law_9 (922, .aload_n 2, 1) (List.mem_of_getElem? (i := 18) rfl)
theorem d_La_law_923 : decode Y_La_law.2.1 923 = .ok (.aload_n 0, 1) := D_La_law_9 (923, .aload_n 0, 1) (List.mem_of_getElem? (i := 19) rfl)
theorem d_La_law_924 : decode Y_La_law.2.1 924 = .ok (.iload 4, 2) := D_La_law_9 (924, .iload 4, 2) (List.mem_of_getElem? (i := 20) rfl)
theorem d_La_law_926 : decode Y_La_law.2.1 926 = .ok (.iconst 1, 1) := D_La_law_9 (926, .iconst 1, 1) (List.mem_of_getElem? (i := 21) rfl)
theorem d_La_law_927 : decode Y_La_law.2.1 927 = .ok (.iadd, 1) := D_La_law_9 (927, .iadd, 1) (List.mem_of_getElem? (i := 22) rfl)
theorem d_La_law_928 : decode Y_La_law.2.1 928 = .ok (.iaload, 1) := D_La_law_9 (928, .iaload, 1) (List.mem_of_getElem? (i := 23) rfl)
theorem d_La_law_929 : decode Y_La_law.2.1 929 = .ok (.invokevirtual 126, 3) := D_La_law_9 (929, .invokevirtual 126, 3) (List.mem_of_getElem? (i := 24) rfl)
theorem d_La_law_932 : decode Y_La_law.2.1 932 = .ok (.lstore 6, 2) := D_La_law_9 (932, .lstore 6, 2) (List.mem_of_getElem? (i := 25) rfl)
theorem d_La_law_934 : decode Y_La_law.2.1 934 = .ok (.aload_n 2, 1) := D_La_law_9 (934, .aload_n 2, 1) (List.mem_of_getElem? (i := 26) rfl)
theorem d_La_law_935 : decode Y_La_law.2.1 935 = .ok (.invokevirtual 84, 3) := D_La_law_9 (935, .invokevirtual 84, 3) (List.mem_of_getElem? (i := 27) rfl)
theorem d_La_law_938 : decode Y_La_law.2.1 938 = .ok (.iload 5, 2) := D_La_law_9 (938, .iload 5, 2) (List.mem_of_getElem? (i := 28) rfl)
theorem d_La_law_940 : decode Y_La_law.2.1 940 = .ok (.if_icmp .eq 5, 3) := D_La_law_9 (940, .if_icmp .eq 5, 3) (List.mem_of_getElem? (i := 29) rfl)
theorem d_La_law_943 : decode Y_La_law.2.1 943 = .ok (.iconst 0, 1) := D_La_law_9 (943, .iconst 0, 1) (List.mem_of_getElem? (i := 30) rfl)
theorem d_La_law_944 : decode Y_La_law.2.1 944 = .ok (.ireturn, 1) := D_La_law_9 (944, .ireturn, 1) (List.mem_of_getElem? (i := 31) rfl)
theorem d_La_law_945 : decode Y_La_law.2.1 945 = .ok (.iload 5, 2) := D_La_law_9 (945, .iload 5, 2) (List.mem_of_getElem? (i := 32) rfl)
theorem d_La_law_947 : decode Y_La_law.2.1 947 = .ok (.ifCond .ne 14, 3) := D_La_law_9 (947, .ifCond .ne 14, 3) (List.mem_of_getElem? (i := 33) rfl)
theorem d_La_law_950 : decode Y_La_law.2.1 950 = .ok (.aload_n 3, 1) := D_La_law_9 (950, .aload_n 3, 1) (List.mem_of_getElem? (i := 34) rfl)
theorem d_La_law_951 : decode Y_La_law.2.1 951 = .ok (.iconst 0, 1) := D_La_law_9 (951, .iconst 0, 1) (List.mem_of_getElem? (i := 35) rfl)
theorem d_La_law_952 : decode Y_La_law.2.1 952 = .ok (.laload, 1) := D_La_law_9 (952, .laload, 1) (List.mem_of_getElem? (i := 36) rfl)
theorem d_La_law_953 : decode Y_La_law.2.1 953 = .ok (.lload 6, 2) := D_La_law_9 (953, .lload 6, 2) (List.mem_of_getElem? (i := 37) rfl)
theorem d_La_law_955 : decode Y_La_law.2.1 955 = .ok (.lcmp, 1) := D_La_law_9 (955, .lcmp, 1) (List.mem_of_getElem? (i := 38) rfl)
theorem d_La_law_956 : decode Y_La_law.2.1 956 = .ok (.ifCond .eq 5, 3) := D_La_law_9 (956, .ifCond .eq 5, 3) (List.mem_of_getElem? (i := 39) rfl)
theorem d_La_law_959 : decode Y_La_law.2.1 959 = .ok (.iconst 0, 1) := D_La_law_9 (959, .iconst 0, 1) (List.mem_of_getElem? (i := 40) rfl)
theorem d_La_law_960 : decode Y_La_law.2.1 960 = .ok (.ireturn, 1) := D_La_law_9 (960, .ireturn, 1) (List.mem_of_getElem? (i := 41) rfl)
theorem d_La_law_961 : decode Y_La_law.2.1 961 = .ok (.goto 401, 3) := D_La_law_9 (961, .goto 401, 3) (List.mem_of_getElem? (i := 42) rfl)
theorem d_La_law_964 : decode Y_La_law.2.1 964 = .ok (.aload_n 1, 1) := D_La_law_9 (964, .aload_n 1, 1) (List.mem_of_getElem? (i := 43) rfl)
theorem d_La_law_965 : decode Y_La_law.2.1 965 = .ok (.invokevirtual 127, 3) := D_La_law_9 (965, .invokevirtual 127, 3) (List.mem_of_getElem? (i := 44) rfl)
theorem d_La_law_968 : decode Y_La_law.2.1 968 = .ok (.aload_n 2, 1) := D_La_law_9 (968, .aload_n 2, 1) (List.mem_of_getElem? (i := 45) rfl)
theorem d_La_law_969 : decode Y_La_law.2.1 969 = .ok (.invokevirtual 130, 3) := D_La_law_9 (969, .invokevirtual 130, 3) (List.mem_of_getElem? (i := 46) rfl)
theorem d_La_law_972 : decode Y_La_law.2.1 972 = .ok (.goto 390, 3) := D_La_law_9 (972, .goto 390, 3) (List.mem_of_getElem? (i := 47) rfl)
theorem d_La_law_975 : decode Y_La_law.2.1 975 = .ok (.aload_n 1, 1) := D_La_law_9 (975, .aload_n 1, 1) (List.mem_of_getElem? (i := 48) rfl)
theorem d_La_law_976 : decode Y_La_law.2.1 976 = .ok (.aload_n 0, 1) := D_La_law_9 (976, .aload_n 0, 1) (List.mem_of_getElem? (i := 49) rfl)
theorem d_La_law_977 : decode Y_La_law.2.1 977 = .ok (.iload 4, 2) := D_La_law_9 (977, .iload 4, 2) (List.mem_of_getElem? (i := 50) rfl)
theorem d_La_law_979 : decode Y_La_law.2.1 979 = .ok (.iconst 1, 1) := D_La_law_9 (979, .iconst 1, 1) (List.mem_of_getElem? (i := 51) rfl)
theorem d_La_law_980 : decode Y_La_law.2.1 980 = .ok (.iadd, 1) := D_La_law_9 (980, .iadd, 1) (List.mem_of_getElem? (i := 52) rfl)
theorem d_La_law_981 : decode Y_La_law.2.1 981 = .ok (.iaload, 1) := D_La_law_9 (981, .iaload, 1) (List.mem_of_getElem? (i := 53) rfl)
theorem d_La_law_982 : decode Y_La_law.2.1 982 = .ok (.aload_n 0, 1) := D_La_law_9 (982, .aload_n 0, 1) (List.mem_of_getElem? (i := 54) rfl)
theorem d_La_law_983 : decode Y_La_law.2.1 983 = .ok (.iload 4, 2) := D_La_law_9 (983, .iload 4, 2) (List.mem_of_getElem? (i := 55) rfl)
theorem d_La_law_985 : decode Y_La_law.2.1 985 = .ok (.iconst 2, 1) := D_La_law_9 (985, .iconst 2, 1) (List.mem_of_getElem? (i := 56) rfl)
theorem d_La_law_986 : decode Y_La_law.2.1 986 = .ok (.iadd, 1) := D_La_law_9 (986, .iadd, 1) (List.mem_of_getElem? (i := 57) rfl)
theorem d_La_law_987 : decode Y_La_law.2.1 987 = .ok (.iaload, 1) := D_La_law_9 (987, .iaload, 1) (List.mem_of_getElem? (i := 58) rfl)
theorem d_La_law_988 : decode Y_La_law.2.1 988 = .ok (.aload_n 3, 1) := D_La_law_9 (988, .aload_n 3, 1) (List.mem_of_getElem? (i := 59) rfl)
theorem D_La_law_10 : ∀ q ∈ ([(989, .invokestatic 131, 3), (992, .istore 5, 2), (994, .aload_n 2, 1), (995, .aload_n 0, 1), (996, .iload 4, 2), (998, .iconst 1, 1), (999, .iadd, 1), (1000, .iaload, 1), (1001, .aload_n 0, 1), (1002, .iload 4, 2), (1004, .iconst 2, 1), (1005, .iadd, 1), (1006, .iaload, 1), (1007, .invokevirtual 133, 3), (1010, .istore 6, 2), (1012, .aload_n 2, 1), (1013, .invokevirtual 84, 3), (1016, .iload 5, 2), (1018, .if_icmp .eq 5, 3), (1021, .iconst 0, 1), (1022, .ireturn, 1), (1023, .iload 5, 2), (1025, .ifCond .ne 15, 3), (1028, .aload_n 3, 1), (1029, .iconst 0, 1), (1030, .laload, 1), (1031, .iload 6, 2), (1033, .i2l, 1), (1034, .lcmp, 1), (1035, .ifCond .eq 5, 3), (1038, .iconst 0, 1), (1039, .ireturn, 1), (1040, .goto 322, 3), (1043, .aload_n 1, 1), (1044, .aload_n 0, 1), (1045, .iload 4, 2), (1047, .iconst 1, 1), (1048, .iadd, 1), (1049, .iaload, 1), (1050, .aload_n 0, 1), (1051, .iload 4, 2), (1053, .iconst 2, 1), (1054, .iadd, 1), (1055, .iaload, 1), (1056, .aload_n 0, 1), (1057, .iload 4, 2), (1059, .iconst 3, 1), (1060, .iadd, 1), (1061, .iaload, 1), (1062, .aload_n 3, 1), (1063, .invokestatic 134, 3), (1066, .istore 5, 2), (1068, .aload_n 2, 1), (1069, .aload_n 0, 1), (1070, .iload 4, 2), (1072, .iconst 1, 1), (1073, .iadd, 1), (1074, .iaload, 1), (1075, .aload_n 0, 1), (1076, .iload 4, 2)] : List (Nat × Instr × Nat)), decode code q.1 = .ok (q.2.1, q.2.2) := by decide +kernel
theorem d_La_law_989 : decode Y_La_law.2.1 989 = .ok (.invokestatic 131, 3) := D_La_law_10 (989, .invokestatic 131, 3) (List.mem_of_getElem? (i := 0) rfl)
theorem d_La_law_992 : decode Y_La_law.2.1 992 = .ok (.istore 5, 2) := D_La_law_10 (992, .istore 5, 2) (List.mem_of_getElem? (i := 1) rfl)
theorem d_La_law_994 : decode Y_La_law.2.1 994 = .ok (.aload_n 2, 1) := D_La_law_10 (994, .aload_n 2, 1) (List.mem_of_getElem? (i := 2) rfl)
theorem d_La_law_995 : decode Y_La_law.2.1 995 = .ok (.aload_n 0, 1) := D_La_law_10 (995, .aload_n 0, 1) (List.mem_of_getElem? (i := 3) rfl)
theorem d_La_law_996 : decode Y_La_law.2.1 996 = .ok (.iload 4, 2) := D_La_law_10 (996, .iload 4, 2) (List.mem_of_getElem? (i := 4) rfl)
theorem d_La_law_998 : decode Y_La_law.2.1 998 = .ok (.iconst 1, 1) := D_La_law_10 (998, .iconst 1, 1) (List.mem_of_getElem? (i := 5) rfl)
theorem d_La_law_999 : decode Y_La_law.2.1 999 = .ok (.iadd, 1) := D_La_law_10 (999, .iadd, 1) (List.mem_of_getElem? (i := 6) rfl)
theorem d_La_law_1000 : decode Y_La_law.2.1 1000 = .ok (.iaload, 1) := D_La_law_10 (1000, .iaload, 1) (List.mem_of_getElem? (i := 7) rfl)
theorem d_La_law_1001 : decode Y_La_law.2.1 1001 = .ok (.aload_n 0, 1) := D_La_law_10 (1001, .aload_n 0, 1) (List.mem_of_getElem? (i := 8) rfl)
theorem d_La_law_1002 : decode Y_La_law.2.1 1002 = .ok (.iload 4, 2) := D_La_law_10 (1002, .iload 4, 2) (List.mem_of_getElem? (i := 9) rfl)
theorem d_La_law_1004 : decode Y_La_law.2.1 1004 = .ok (.iconst 2, 1) := D_La_law_10 (1004, .iconst 2, 1) (List.mem_of_getElem? (i := 10) rfl)
theorem d_La_law_1005 : decode Y_La_law.2.1 1005 = .ok (.iadd, 1) := D_La_law_10 (1005, .iadd, 1) (List.mem_of_getElem? (i := 11) rfl)
theorem d_La_law_1006 : decode Y_La_law.2.1 1006 = .ok (.iaload, 1) := D_La_law_10 (1006, .iaload, 1) (List.mem_of_getElem? (i := 12) rfl)
theorem d_La_law_1007 : decode Y_La_law.2.1 1007 = .ok (.invokevirtual 133, 3) := D_La_law_10 (1007, .invokevirtual 133, 3) (List.mem_of_getElem? (i := 13) rfl)
theorem d_La_law_1010 : decode Y_La_law.2.1 1010 = .ok (.istore 6, 2) := D_La_law_10 (1010, .istore 6, 2) (List.mem_of_getElem? (i := 14) rfl)
theorem d_La_law_1012 : decode Y_La_law.2.1 1012 = .ok (.aload_n 2, 1) := D_La_law_10 (1012, .aload_n 2, 1) (List.mem_of_getElem? (i := 15) rfl)
theorem d_La_law_1013 : decode Y_La_law.2.1 1013 = .ok (.invokevirtual 84, 3) := D_La_law_10 (1013, .invokevirtual 84, 3) (List.mem_of_getElem? (i := 16) rfl)
theorem d_La_law_1016 : decode Y_La_law.2.1 1016 = .ok (.iload 5, 2) := D_La_law_10 (1016, .iload 5, 2) (List.mem_of_getElem? (i := 17) rfl)
theorem d_La_law_1018 : decode Y_La_law.2.1 1018 = .ok (.if_icmp .eq 5, 3) := D_La_law_10 (1018, .if_icmp .eq 5, 3) (List.mem_of_getElem? (i := 18) rfl)
theorem d_La_law_1021 : decode Y_La_law.2.1 1021 = .ok (.iconst 0, 1) := D_La_law_10 (1021, .iconst 0, 1) (List.mem_of_getElem? (i := 19) rfl)
theorem d_La_law_1022 : decode Y_La_law.2.1 1022 = .ok (.ireturn, 1) := D_La_law_10 (1022, .ireturn, 1) (List.mem_of_getElem? (i := 20) rfl)
theorem d_La_law_1023 : decode Y_La_law.2.1 1023 = .ok (.iload 5, 2) := D_La_law_10 (1023, .iload 5, 2) (List.mem_of_getElem? (i := 21) rfl)
theorem d_La_law_1025 : decode Y_La_law.2.1 1025 = .ok (.ifCond .ne 15, 3) := D_La_law_10 (1025, .ifCond .ne 15, 3) (List.mem_of_getElem? (i := 22) rfl)
theorem d_La_law_1028 : decode Y_La_law.2.1 1028 = .ok (.aload_n 3, 1) := D_La_law_10 (1028, .aload_n 3, 1) (List.mem_of_getElem? (i := 23) rfl)
theorem d_La_law_1029 : decode Y_La_law.2.1 1029 = .ok (.iconst 0, 1) := D_La_law_10 (1029, .iconst 0, 1) (List.mem_of_getElem? (i := 24) rfl)
theorem d_La_law_1030 : decode Y_La_law.2.1 1030 = .ok (.laload, 1) := D_La_law_10 (1030, .laload, 1) (List.mem_of_getElem? (i := 25) rfl)
theorem d_La_law_1031 : decode Y_La_law.2.1 1031 = .ok (.iload 6, 2) := D_La_law_10 (1031, .iload 6, 2) (List.mem_of_getElem? (i := 26) rfl)
theorem d_La_law_1033 : decode Y_La_law.2.1 1033 = .ok (.i2l, 1) := D_La_law_10 (1033, .i2l, 1) (List.mem_of_getElem? (i := 27) rfl)
theorem d_La_law_1034 : decode Y_La_law.2.1 1034 = .ok (.lcmp, 1) := D_La_law_10 (1034, .lcmp, 1) (List.mem_of_getElem? (i := 28) rfl)
theorem d_La_law_1035 : decode Y_La_law.2.1 1035 = .ok (.ifCond .eq 5, 3) := D_La_law_10 (1035, .ifCond .eq 5, 3) (List.mem_of_getElem? (i := 29) rfl)
theorem d_La_law_1038 : decode Y_La_law.2.1 1038 = .ok (.iconst 0, 1) := D_La_law_10 (1038, .iconst 0, 1) (List.mem_of_getElem? (i := 30) rfl)
theorem d_La_law_1039 : decode Y_La_law.2.1 1039 = .ok (.ireturn, 1) := D_La_law_10 (1039, .ireturn, 1) (List.mem_of_getElem? (i := 31) rfl)
theorem d_La_law_1040 : decode Y_La_law.2.1 1040 = .ok (.goto 322, 3) := D_La_law_10 (1040, .goto 322, 3) (List.mem_of_getElem? (i := 32) rfl)
theorem d_La_law_1043 : decode Y_La_law.2.1 1043 = .ok (.aload_n 1, 1) := D_La_law_10 (1043, .aload_n 1, 1) (List.mem_of_getElem? (i := 33) rfl)
theorem d_La_law_1044 : decode Y_La_law.2.1 1044 = .ok (.aload_n 0, 1) := D_La_law_10 (1044, .aload_n 0, 1) (List.mem_of_getElem? (i := 34) rfl)
theorem d_La_law_1045 : decode Y_La_law.2.1 1045 = .ok (.iload 4, 2) := D_La_law_10 (1045, .iload 4, 2) (List.mem_of_getElem? (i := 35) rfl)
theorem d_La_law_1047 : decode Y_La_law.2.1 1047 = .ok (.iconst 1, 1) := D_La_law_10 (1047, .iconst 1, 1) (List.mem_of_getElem? (i := 36) rfl)
theorem d_La_law_1048 : decode Y_La_law.2.1 1048 = .ok (.iadd, 1) := D_La_law_10 (1048, .iadd, 1) (List.mem_of_getElem? (i := 37) rfl)
theorem d_La_law_1049 : decode Y_La_law.2.1 1049 = .ok (.iaload, 1) := D_La_law_10 (1049, .iaload, 1) (List.mem_of_getElem? (i := 38) rfl)
theorem d_La_law_1050 : decode Y_La_law.2.1 1050 = .ok (.aload_n 0, 1) := D_La_law_10 (1050, .aload_n 0, 1) (List.mem_of_getElem? (i := 39) rfl)
theorem d_La_law_1051 : decode Y_La_law.2.1 1051 = .ok (.iload 4, 2) := D_La_law_10 (1051, .iload 4, 2) (List.mem_of_getElem? (i := 40) rfl)
theorem d_La_law_1053 : decode Y_La_law.2.1 1053 = .ok (.iconst 2, 1) := D_La_law_10 (1053, .iconst 2, 1) (List.mem_of_getElem? (i := 41) rfl)
theorem d_La_law_1054 : decode Y_La_law.2.1 1054 = .ok (.iadd, 1) := D_La_law_10 (1054, .iadd, 1) (List.mem_of_getElem? (i := 42) rfl)
theorem d_La_law_1055 : decode Y_La_law.2.1 1055 = .ok (.iaload, 1) := D_La_law_10 (1055, .iaload, 1) (List.mem_of_getElem? (i := 43) rfl)
theorem d_La_law_1056 : decode Y_La_law.2.1 1056 = .ok (.aload_n 0, 1) := D_La_law_10 (1056, .aload_n 0, 1) (List.mem_of_getElem? (i := 44) rfl)
theorem d_La_law_1057 : decode Y_La_law.2.1 1057 = .ok (.iload 4, 2) := D_La_law_10 (1057, .iload 4, 2) (List.mem_of_getElem? (i := 45) rfl)
theorem d_La_law_1059 : decode Y_La_law.2.1 1059 = .ok (.iconst 3, 1) := D_La_law_10 (1059, .iconst 3, 1) (List.mem_of_getElem? (i := 46) rfl)
theorem d_La_law_1060 : decode Y_La_law.2.1 1060 = .ok (.iadd, 1) := D_La_law_10 (1060, .iadd, 1) (List.mem_of_getElem? (i := 47) rfl)
theorem d_La_law_1061 : decode Y_La_law.2.1 1061 = .ok (.iaload, 1) := D_La_law_10 (1061, .iaload, 1) (List.mem_of_getElem? (i := 48) rfl)
theorem d_La_law_1062 : decode Y_La_law.2.1 1062 = .ok (.aload_n 3, 1) := D_La_law_10 (1062, .aload_n 3, 1) (List.mem_of_getElem? (i := 49) rfl)
theorem d_La_law_1063 : decode Y_La_law.2.1 1063 = .ok (.invokestatic 134, 3) := D_La_law_10 (1063, .invokestatic 134, 3) (List.mem_of_getElem? (i := 50) rfl)
theorem d_La_law_1066 : decode Y_La_law.2.1 1066 = .ok (.istore 5, 2) := D_La_law_10 (1066, .istore 5, 2) (List.mem_of_getElem? (i := 51) rfl)
theorem d_La_law_1068 : decode Y_La_law.2.1 1068 = .ok (.aload_n 2, 1) := D_La_law_10 (1068, .aload_n 2, 1) (List.mem_of_getElem? (i := 52) rfl)
theorem d_La_law_1069 : decode Y_La_law.2.1 1069 = .ok (.aload_n 0, 1) := D_La_law_10 (1069, .aload_n 0, 1) (List.mem_of_getElem? (i := 53) rfl)
theorem d_La_law_1070 : decode Y_La_law.2.1 1070 = .ok (.iload 4, 2) := D_La_law_10 (1070, .iload 4, 2) (List.mem_of_getElem? (i := 54) rfl)
theorem d_La_law_1072 : decode Y_La_law.2.1 1072 = .ok (.iconst 1, 1) := D_La_law_10 (1072, .iconst 1, 1) (List.mem_of_getElem? (i := 55) rfl)
theorem d_La_law_1073 : decode Y_La_law.2.1 1073 = .ok (.iadd, 1) := D_La_law_10 (1073, .iadd, 1) (List.mem_of_getElem? (i := 56) rfl)
theorem d_La_law_1074 : decode Y_La_law.2.1 1074 = .ok (.iaload, 1) := D_La_law_10 (1074, .iaload, 1) (List.mem_of_getElem? (i := 57) rfl)
theorem d_La_law_1075 : decode Y_La_law.2.1 1075 = .ok (.aload_n 0, 1) := D_La_law_10 (1075, .aload_n 0, 1) (List.mem_of_getElem? (i := 58) rfl)
theorem d_La_law_1076 : decode Y_La_law.2.1 1076 = .ok (.iload 4, 2) := D_La_law_10 (1076, .iload 4, 2) (List.mem_of_getElem? (i := 59) rfl)
theorem D_La_law_11 : ∀ q ∈ ([(1078, .iconst 2, 1), (1079, .iadd, 1), (1080, .iaload, 1), (1081, .aload_n 0, 1), (1082, .iload 4, 2), (1084, .iconst 3, 1), (1085, .iadd, 1), (1086, .iaload, 1), (1087, .invokevirtual 136, 3), (1090, .lstore 6, 2), (1092, .aload_n 2, 1), (1093, .invokevirtual 84, 3), (1096, .iload 5, 2), (1098, .if_icmp .eq 5, 3), (1101, .iconst 0, 1), (1102, .ireturn, 1), (1103, .iload 5, 2), (1105, .ifCond .ne 14, 3), (1108, .aload_n 3, 1), (1109, .iconst 0, 1), (1110, .laload, 1), (1111, .lload 6, 2), (1113, .lcmp, 1), (1114, .ifCond .eq 5, 3), (1117, .iconst 0, 1), (1118, .ireturn, 1), (1119, .goto 243, 3), (1122, .aload_n 1, 1), (1123, .aload_n 0, 1), (1124, .iload 4, 2), (1126, .iconst 1, 1), (1127, .iadd, 1), (1128, .iaload, 1), (1129, .aload_n 0, 1), (1130, .iload 4, 2), (1132, .iconst 2, 1), (1133, .iadd, 1), (1134, .iaload, 1), (1135, .aload_n 0, 1), (1136, .iload 4, 2), (1138, .iconst 3, 1), (1139, .iadd, 1), (1140, .iaload, 1), (1141, .aload_n 3, 1), (1142, .invokestatic 137, 3), (1145, .istore 5, 2), (1147, .aload_n 2, 1), (1148, .aload_n 0, 1), (1149, .iload 4, 2), (1151, .iconst 1, 1), (1152, .iadd, 1), (1153, .iaload, 1), (1154, .aload_n 0, 1), (1155, .iload 4, 2), (1157, .iconst 2, 1), (1158, .iadd, 1), (1159, .iaload, 1), (1160, .aload_n 0, 1), (1161, .iload 4, 2), (1163, .iconst 3, 1)] : List (Nat × Instr × Nat)), decode code q.1 = .ok (q.2.1, q.2.2) := by decide +kernel
theorem d_La_law_1078 : decode Y_La_law.2.1 1078 = .ok (.iconst 2, 1) := D_La_law_11 (1078, .iconst 2, 1) (List.mem_of_getElem? (i := 0) rfl)
theorem d_La_law_1079 : decode Y_La_law.2.1 1079 = .ok (.iadd, 1) := D_La_law_11 (1079, .iadd, 1) (List.mem_of_getElem? (i := 1) rfl)
theorem d_La_law_1080 : decode Y_La_law.2.1 1080 = .ok (.iaload, 1) := D_La_law_11 (1080, .iaload, 1) (List.mem_of_getElem? (i := 2) rfl)
theorem d_La_law_1081 : decode Y_La_law.2.1 1081 = .ok (.aload_n 0, 1) := D_La_law_11 (1081, .aload_n 0, 1) (List.mem_of_getElem? (i := 3) rfl)
theorem d_La_law_1082 : decode Y_La_law.2.1 1082 = .ok (.iload 4, 2) := D_La_law_11 (1082, .iload 4, 2) (List.mem_of_getElem? (i := 4) rfl)
theorem d_La_law_1084 : decode Y_La_law.2.1 1084 = .ok (.iconst 3, 1) := D_La_law_11 (1084, .iconst 3, 1) (List.mem_of_getElem? (i := 5) rfl)
theorem d_La_law_1085 : decode Y_La_law.2.1 1085 = .ok (.iadd, 1) := D_La_law_11 (1085, .iadd, 1) (List.mem_of_getElem? (i := 6) rfl)
theorem d_La_law_1086 : decode Y_La_law.2.1 1086 = .ok (.iaload, 1) := D_La_law_11 (1086, .iaload, 1) (List.mem_of_getElem? (i := 7) rfl)
theorem d_La_law_1087 : decode Y_La_law.2.1 1087 = .ok (.invokevirtual 136, 3) := D_La_law_11 (1087, .invokevirtual 136, 3) (List.mem_of_getElem? (i := 8) rfl)
theorem d_La_law_1090 : decode Y_La_law.2.1 1090 = .ok (.lstore 6, 2) := D_La_law_11 (1090, .lstore 6, 2) (List.mem_of_getElem? (i := 9) rfl)
theorem d_La_law_1092 : decode Y_La_law.2.1 1092 = .ok (.aload_n 2, 1) := D_La_law_11 (1092, .aload_n 2, 1) (List.mem_of_getElem? (i := 10) rfl)
theorem d_La_law_1093 : decode Y_La_law.2.1 1093 = .ok (.invokevirtual 84, 3) := D_La_law_11 (1093, .invokevirtual 84, 3) (List.mem_of_getElem? (i := 11) rfl)
theorem d_La_law_1096 : decode Y_La_law.2.1 1096 = .ok (.iload 5, 2) := D_La_law_11 (1096, .iload 5, 2) (List.mem_of_getElem? (i := 12) rfl)
theorem d_La_law_1098 : decode Y_La_law.2.1 1098 = .ok (.if_icmp .eq 5, 3) := D_La_law_11 (1098, .if_icmp .eq 5, 3) (List.mem_of_getElem? (i := 13) rfl)
theorem d_La_law_1101 : decode Y_La_law.2.1 1101 = .ok (.iconst 0, 1) := D_La_law_11 (1101, .iconst 0, 1) (List.mem_of_getElem? (i := 14) rfl)
theorem d_La_law_1102 : decode Y_La_law.2.1 1102 = .ok (.ireturn, 1) := D_La_law_11 (1102, .ireturn, 1) (List.mem_of_getElem? (i := 15) rfl)
theorem d_La_law_1103 : decode Y_La_law.2.1 1103 = .ok (.iload 5, 2) := D_La_law_11 (1103, .iload 5, 2) (List.mem_of_getElem? (i := 16) rfl)
theorem d_La_law_1105 : decode Y_La_law.2.1 1105 = .ok (.ifCond .ne 14, 3) := D_La_law_11 (1105, .ifCond .ne 14, 3) (List.mem_of_getElem? (i := 17) rfl)
theorem d_La_law_1108 : decode Y_La_law.2.1 1108 = .ok (.aload_n 3, 1) := D_La_law_11 (1108, .aload_n 3, 1) (List.mem_of_getElem? (i := 18) rfl)
theorem d_La_law_1109 : decode Y_La_law.2.1 1109 = .ok (.iconst 0, 1) := D_La_law_11 (1109, .iconst 0, 1) (List.mem_of_getElem? (i := 19) rfl)
theorem d_La_law_1110 : decode Y_La_law.2.1 1110 = .ok (.laload, 1) := D_La_law_11 (1110, .laload, 1) (List.mem_of_getElem? (i := 20) rfl)
theorem d_La_law_1111 : decode Y_La_law.2.1 1111 = .ok (.lload 6, 2) := D_La_law_11 (1111, .lload 6, 2) (List.mem_of_getElem? (i := 21) rfl)
theorem d_La_law_1113 : decode Y_La_law.2.1 1113 = .ok (.lcmp, 1) := D_La_law_11 (1113, .lcmp, 1) (List.mem_of_getElem? (i := 22) rfl)
theorem d_La_law_1114 : decode Y_La_law.2.1 1114 = .ok (.ifCond .eq 5, 3) := D_La_law_11 (1114, .ifCond .eq 5, 3) (List.mem_of_getElem? (i := 23) rfl)
theorem d_La_law_1117 : decode Y_La_law.2.1 1117 = .ok (.iconst 0, 1) := D_La_law_11 (1117, .iconst 0, 1) (List.mem_of_getElem? (i := 24) rfl)
theorem d_La_law_1118 : decode Y_La_law.2.1 1118 = .ok (.ireturn, 1) := D_La_law_11 (1118, .ireturn, 1) (List.mem_of_getElem? (i := 25) rfl)
theorem d_La_law_1119 : decode Y_La_law.2.1 1119 = .ok (.goto 243, 3) := D_La_law_11 (1119, .goto 243, 3) (List.mem_of_getElem? (i := 26) rfl)
theorem d_La_law_1122 : decode Y_La_law.2.1 1122 = .ok (.aload_n 1, 1) := D_La_law_11 (1122, .aload_n 1, 1) (List.mem_of_getElem? (i := 27) rfl)
theorem d_La_law_1123 : decode Y_La_law.2.1 1123 = .ok (.aload_n 0, 1) := D_La_law_11 (1123, .aload_n 0, 1) (List.mem_of_getElem? (i := 28) rfl)
theorem d_La_law_1124 : decode Y_La_law.2.1 1124 = .ok (.iload 4, 2) := D_La_law_11 (1124, .iload 4, 2) (List.mem_of_getElem? (i := 29) rfl)
theorem d_La_law_1126 : decode Y_La_law.2.1 1126 = .ok (.iconst 1, 1) := D_La_law_11 (1126, .iconst 1, 1) (List.mem_of_getElem? (i := 30) rfl)
theorem d_La_law_1127 : decode Y_La_law.2.1 1127 = .ok (.iadd, 1) := D_La_law_11 (1127, .iadd, 1) (List.mem_of_getElem? (i := 31) rfl)
theorem d_La_law_1128 : decode Y_La_law.2.1 1128 = .ok (.iaload, 1) := D_La_law_11 (1128, .iaload, 1) (List.mem_of_getElem? (i := 32) rfl)
theorem d_La_law_1129 : decode Y_La_law.2.1 1129 = .ok (.aload_n 0, 1) := D_La_law_11 (1129, .aload_n 0, 1) (List.mem_of_getElem? (i := 33) rfl)
theorem d_La_law_1130 : decode Y_La_law.2.1 1130 = .ok (.iload 4, 2) := D_La_law_11 (1130, .iload 4, 2) (List.mem_of_getElem? (i := 34) rfl)
theorem d_La_law_1132 : decode Y_La_law.2.1 1132 = .ok (.iconst 2, 1) := D_La_law_11 (1132, .iconst 2, 1) (List.mem_of_getElem? (i := 35) rfl)
theorem d_La_law_1133 : decode Y_La_law.2.1 1133 = .ok (.iadd, 1) := D_La_law_11 (1133, .iadd, 1) (List.mem_of_getElem? (i := 36) rfl)
theorem d_La_law_1134 : decode Y_La_law.2.1 1134 = .ok (.iaload, 1) := D_La_law_11 (1134, .iaload, 1) (List.mem_of_getElem? (i := 37) rfl)
theorem d_La_law_1135 : decode Y_La_law.2.1 1135 = .ok (.aload_n 0, 1) := D_La_law_11 (1135, .aload_n 0, 1) (List.mem_of_getElem? (i := 38) rfl)
theorem d_La_law_1136 : decode Y_La_law.2.1 1136 = .ok (.iload 4, 2) := D_La_law_11 (1136, .iload 4, 2) (List.mem_of_getElem? (i := 39) rfl)
theorem d_La_law_1138 : decode Y_La_law.2.1 1138 = .ok (.iconst 3, 1) := D_La_law_11 (1138, .iconst 3, 1) (List.mem_of_getElem? (i := 40) rfl)
theorem d_La_law_1139 : decode Y_La_law.2.1 1139 = .ok (.iadd, 1) := D_La_law_11 (1139, .iadd, 1) (List.mem_of_getElem? (i := 41) rfl)
theorem d_La_law_1140 : decode Y_La_law.2.1 1140 = .ok (.iaload, 1) := D_La_law_11 (1140, .iaload, 1) (List.mem_of_getElem? (i := 42) rfl)
theorem d_La_law_1141 : decode Y_La_law.2.1 1141 = .ok (.aload_n 3, 1) := D_La_law_11 (1141, .aload_n 3, 1) (List.mem_of_getElem? (i := 43) rfl)
theorem d_La_law_1142 : decode Y_La_law.2.1 1142 = .ok (.invokestatic 137, 3) := D_La_law_11 (1142, .invokestatic 137, 3) (List.mem_of_getElem? (i := 44) rfl)
theorem d_La_law_1145 : decode Y_La_law.2.1 1145 = .ok (.istore 5, 2) := D_La_law_11 (1145, .istore 5, 2) (List.mem_of_getElem? (i := 45) rfl)
theorem d_La_law_1147 : decode Y_La_law.2.1 1147 = .ok (.aload_n 2, 1) := D_La_law_11 (1147, .aload_n 2, 1) (List.mem_of_getElem? (i := 46) rfl)
theorem d_La_law_1148 : decode Y_La_law.2.1 1148 = .ok (.aload_n 0, 1) := D_La_law_11 (1148, .aload_n 0, 1) (List.mem_of_getElem? (i := 47) rfl)
theorem d_La_law_1149 : decode Y_La_law.2.1 1149 = .ok (.iload 4, 2) := D_La_law_11 (1149, .iload 4, 2) (List.mem_of_getElem? (i := 48) rfl)
theorem d_La_law_1151 : decode Y_La_law.2.1 1151 = .ok (.iconst 1, 1) := D_La_law_11 (1151, .iconst 1, 1) (List.mem_of_getElem? (i := 49) rfl)
theorem d_La_law_1152 : decode Y_La_law.2.1 1152 = .ok (.iadd, 1) := D_La_law_11 (1152, .iadd, 1) (List.mem_of_getElem? (i := 50) rfl)
theorem d_La_law_1153 : decode Y_La_law.2.1 1153 = .ok (.iaload, 1) := D_La_law_11 (1153, .iaload, 1) (List.mem_of_getElem? (i := 51) rfl)
theorem d_La_law_1154 : decode Y_La_law.2.1 1154 = .ok (.aload_n 0, 1) := D_La_law_11 (1154, .aload_n 0, 1) (List.mem_of_getElem? (i := 52) rfl)
theorem d_La_law_1155 : decode Y_La_law.2.1 1155 = .ok (.iload 4, 2) := D_La_law_11 (1155, .iload 4, 2) (List.mem_of_getElem? (i := 53) rfl)
theorem d_La_law_1157 : decode Y_La_law.2.1 1157 = .ok (.iconst 2, 1) := D_La_law_11 (1157, .iconst 2, 1) (List.mem_of_getElem? (i := 54) rfl)
theorem d_La_law_1158 : decode Y_La_law.2.1 1158 = .ok (.iadd, 1) := D_La_law_11 (1158, .iadd, 1) (List.mem_of_getElem? (i := 55) rfl)
theorem d_La_law_1159 : decode Y_La_law.2.1 1159 = .ok (.iaload, 1) := D_La_law_11 (1159, .iaload, 1) (List.mem_of_getElem? (i := 56) rfl)
theorem d_La_law_1160 : decode Y_La_law.2.1 1160 = .ok (.aload_n 0, 1) := D_La_law_11 (1160, .aload_n 0, 1) (List.mem_of_getElem? (i := 57) rfl)
theorem d_La_law_1161 : decode Y_La_law.2.1 1161 = .ok (.iload 4, 2) := D_La_law_11 (1161, .iload 4, 2) (List.mem_of_getElem? (i := 58) rfl)
theorem d_La_law_1163 : decode Y_La_law.2.1 1163 = .ok (.iconst 3, 1) := D_La_law_11 (1163, .iconst 3, 1) (List.mem_of_getElem? (i := 59) rfl)
theorem D_La_law_12 : ∀ q ∈ ([(1164, .iadd, 1), (1165, .iaload, 1), (1166, .invokevirtual 139, 3), (1169, .lstore 6, 2), (1171, .aload_n 2, 1), (1172, .invokevirtual 84, 3), (1175, .iload 5, 2), (1177, .if_icmp .eq 5, 3), (1180, .iconst 0, 1), (1181, .ireturn, 1), (1182, .iload 5, 2), (1184, .ifCond .ne 14, 3), (1187, .aload_n 3, 1), (1188, .iconst 0, 1), (1189, .laload, 1), (1190, .lload 6, 2), (1192, .lcmp, 1), (1193, .ifCond .eq 5, 3), (1196, .iconst 0, 1), (1197, .ireturn, 1), (1198, .goto 164, 3), (1201, .aload_n 1, 1), (1202, .aload_n 0, 1), (1203, .iload 4, 2), (1205, .iconst 1, 1), (1206, .iadd, 1), (1207, .iaload, 1), (1208, .aload_n 0, 1), (1209, .iload 4, 2), (1211, .iconst 2, 1), (1212, .iadd, 1), (1213, .iaload, 1), (1214, .aload_n 0, 1), (1215, .iload 4, 2), (1217, .iconst 3, 1), (1218, .iadd, 1), (1219, .iaload, 1), (1220, .invokestatic 140, 3), (1223, .istore 5, 2), (1225, .aload_n 2, 1), (1226, .aload_n 0, 1), (1227, .iload 4, 2), (1229, .iconst 1, 1), (1230, .iadd, 1), (1231, .iaload, 1), (1232, .aload_n 0, 1), (1233, .iload 4, 2), (1235, .iconst 2, 1), (1236, .iadd, 1), (1237, .iaload, 1), (1238, .aload_n 0, 1), (1239, .iload 4, 2), (1241, .iconst 3, 1), (1242, .iadd, 1), (1243, .iaload, 1), (1244, .invokevirtual 142, 3), (1247, .aload_n 2, 1), (1248, .invokevirtual 84, 3), (1251, .iload 5, 2), (1253, .if_icmp .eq 5, 3)] : List (Nat × Instr × Nat)), decode code q.1 = .ok (q.2.1, q.2.2) := by decide +kernel
theorem d_La_law_1164 : decode Y_La_law.2.1 1164 = .ok (.iadd, 1) := D_La_law_12 (1164, .iadd, 1) (List.mem_of_getElem? (i := 0) rfl)
theorem d_La_law_1165 : decode Y_La_law.2.1 1165 = .ok (.iaload, 1) := D_La_law_12 (1165, .iaload, 1) (List.mem_of_getElem? (i := 1) rfl)
theorem d_La_law_1166 : decode Y_La_law.2.1 1166 = .ok (.invokevirtual 139, 3) := D_La_law_12 (1166, .invokevirtual 139, 3) (List.mem_of_getElem? (i := 2) rfl)
theorem d_La_law_1169 : decode Y_La_law.2.1 1169 = .ok (.lstore 6, 2) := D_La_law_12 (1169, .lstore 6, 2) (List.mem_of_getElem? (i := 3) rfl)
theorem d_La_law_1171 : decode Y_La_law.2.1 1171 = .ok (.aload_n 2, 1) := D_La_law_12 (1171, .aload_n 2, 1) (List.mem_of_getElem? (i := 4) rfl)
theorem d_La_law_1172 : decode Y_La_law.2.1 1172 = .ok (.invokevirtual 84, 3) := D_La_law_12 (1172, .invokevirtual 84, 3) (List.mem_of_getElem? (i := 5) rfl)
theorem d_La_law_1175 : decode Y_La_law.2.1 1175 = .ok (.iload 5, 2) := D_La_law_12 (1175, .iload 5, 2) (List.mem_of_getElem? (i := 6) rfl)
theorem d_La_law_1177 : decode Y_La_law.2.1 1177 = .ok (.if_icmp .eq 5, 3) := D_La_law_12 (1177, .if_icmp .eq 5, 3) (List.mem_of_getElem? (i := 7) rfl)
theorem d_La_law_1180 : decode Y_La_law.2.1 1180 = .ok (.iconst 0, 1) := D_La_law_12 (1180, .iconst 0, 1) (List.mem_of_getElem? (i := 8) rfl)
theorem d_La_law_1181 : decode Y_La_law.2.1 1181 = .ok (.ireturn, 1) := D_La_law_12 (1181, .ireturn, 1) (List.mem_of_getElem? (i := 9) rfl)
theorem d_La_law_1182 : decode Y_La_law.2.1 1182 = .ok (.iload 5, 2) := D_La_law_12 (1182, .iload 5, 2) (List.mem_of_getElem? (i := 10) rfl)
theorem d_La_law_1184 : decode Y_La_law.2.1 1184 = .ok (.ifCond .ne 14, 3) := D_La_law_12 (1184, .ifCond .ne 14, 3) (List.mem_of_getElem? (i := 11) rfl)
theorem d_La_law_1187 : decode Y_La_law.2.1 1187 = .ok (.aload_n 3, 1) := D_La_law_12 (1187, .aload_n 3, 1) (List.mem_of_getElem? (i := 12) rfl)
theorem d_La_law_1188 : decode Y_La_law.2.1 1188 = .ok (.iconst 0, 1) := D_La_law_12 (1188, .iconst 0, 1) (List.mem_of_getElem? (i := 13) rfl)
theorem d_La_law_1189 : decode Y_La_law.2.1 1189 = .ok (.laload, 1) := D_La_law_12 (1189, .laload, 1) (List.mem_of_getElem? (i := 14) rfl)
theorem d_La_law_1190 : decode Y_La_law.2.1 1190 = .ok (.lload 6, 2) := D_La_law_12 (1190, .lload 6, 2) (List.mem_of_getElem? (i := 15) rfl)
theorem d_La_law_1192 : decode Y_La_law.2.1 1192 = .ok (.lcmp, 1) := D_La_law_12 (1192, .lcmp, 1) (List.mem_of_getElem? (i := 16) rfl)
theorem d_La_law_1193 : decode Y_La_law.2.1 1193 = .ok (.ifCond .eq 5, 3) := D_La_law_12 (1193, .ifCond .eq 5, 3) (List.mem_of_getElem? (i := 17) rfl)
theorem d_La_law_1196 : decode Y_La_law.2.1 1196 = .ok (.iconst 0, 1) := D_La_law_12 (1196, .iconst 0, 1) (List.mem_of_getElem? (i := 18) rfl)
theorem d_La_law_1197 : decode Y_La_law.2.1 1197 = .ok (.ireturn, 1) := D_La_law_12 (1197, .ireturn, 1) (List.mem_of_getElem? (i := 19) rfl)
theorem d_La_law_1198 : decode Y_La_law.2.1 1198 = .ok (.goto 164, 3) := D_La_law_12 (1198, .goto 164, 3) (List.mem_of_getElem? (i := 20) rfl)
theorem d_La_law_1201 : decode Y_La_law.2.1 1201 = .ok (.aload_n 1, 1) := D_La_law_12 (1201, .aload_n 1, 1) (List.mem_of_getElem? (i := 21) rfl)
theorem d_La_law_1202 : decode Y_La_law.2.1 1202 = .ok (.aload_n 0, 1) := D_La_law_12 (1202, .aload_n 0, 1) (List.mem_of_getElem? (i := 22) rfl)
theorem d_La_law_1203 : decode Y_La_law.2.1 1203 = .ok (.iload 4, 2) := D_La_law_12 (1203, .iload 4, 2) (List.mem_of_getElem? (i := 23) rfl)
theorem d_La_law_1205 : decode Y_La_law.2.1 1205 = .ok (.iconst 1, 1) := D_La_law_12 (1205, .iconst 1, 1) (List.mem_of_getElem? (i := 24) rfl)
theorem d_La_law_1206 : decode Y_La_law.2.1 1206 = .ok (.iadd, 1) := D_La_law_12 (1206, .iadd, 1) (List.mem_of_getElem? (i := 25) rfl)
theorem d_La_law_1207 : decode Y_La_law.2.1 1207 = .ok (.iaload, 1) := D_La_law_12 (1207, .iaload, 1) (List.mem_of_getElem? (i := 26) rfl)
theorem d_La_law_1208 : decode Y_La_law.2.1 1208 = .ok (.aload_n 0, 1) := D_La_law_12 (1208, .aload_n 0, 1) (List.mem_of_getElem? (i := 27) rfl)
theorem d_La_law_1209 : decode Y_La_law.2.1 1209 = .ok (.iload 4, 2) := D_La_law_12 (1209, .iload 4, 2) (List.mem_of_getElem? (i := 28) rfl)
theorem d_La_law_1211 : decode Y_La_law.2.1 1211 = .ok (.iconst 2, 1) := D_La_law_12 (1211, .iconst 2, 1) (List.mem_of_getElem? (i := 29) rfl)
theorem d_La_law_1212 : decode Y_La_law.2.1 1212 = .ok (.iadd, 1) := D_La_law_12 (1212, .iadd, 1) (List.mem_of_getElem? (i := 30) rfl)
theorem d_La_law_1213 : decode Y_La_law.2.1 1213 = .ok (.iaload, 1) := D_La_law_12 (1213, .iaload, 1) (List.mem_of_getElem? (i := 31) rfl)
theorem d_La_law_1214 : decode Y_La_law.2.1 1214 = .ok (.aload_n 0, 1) := D_La_law_12 (1214, .aload_n 0, 1) (List.mem_of_getElem? (i := 32) rfl)
theorem d_La_law_1215 : decode Y_La_law.2.1 1215 = .ok (.iload 4, 2) := D_La_law_12 (1215, .iload 4, 2) (List.mem_of_getElem? (i := 33) rfl)
theorem d_La_law_1217 : decode Y_La_law.2.1 1217 = .ok (.iconst 3, 1) := D_La_law_12 (1217, .iconst 3, 1) (List.mem_of_getElem? (i := 34) rfl)
theorem d_La_law_1218 : decode Y_La_law.2.1 1218 = .ok (.iadd, 1) := D_La_law_12 (1218, .iadd, 1) (List.mem_of_getElem? (i := 35) rfl)
theorem d_La_law_1219 : decode Y_La_law.2.1 1219 = .ok (.iaload, 1) := D_La_law_12 (1219, .iaload, 1) (List.mem_of_getElem? (i := 36) rfl)
theorem d_La_law_1220 : decode Y_La_law.2.1 1220 = .ok (.invokestatic 140, 3) := D_La_law_12 (1220, .invokestatic 140, 3) (List.mem_of_getElem? (i := 37) rfl)
theorem d_La_law_1223 : decode Y_La_law.2.1 1223 = .ok (.istore 5, 2) := D_La_law_12 (1223, .istore 5, 2) (List.mem_of_getElem? (i := 38) rfl)
theorem d_La_law_1225 : decode Y_La_law.2.1 1225 = .ok (.aload_n 2, 1) := D_La_law_12 (1225, .aload_n 2, 1) (List.mem_of_getElem? (i := 39) rfl)
theorem d_La_law_1226 : decode Y_La_law.2.1 1226 = .ok (.aload_n 0, 1) := D_La_law_12 (1226, .aload_n 0, 1) (List.mem_of_getElem? (i := 40) rfl)
theorem d_La_law_1227 : decode Y_La_law.2.1 1227 = .ok (.iload 4, 2) := D_La_law_12 (1227, .iload 4, 2) (List.mem_of_getElem? (i := 41) rfl)
theorem d_La_law_1229 : decode Y_La_law.2.1 1229 = .ok (.iconst 1, 1) := D_La_law_12 (1229, .iconst 1, 1) (List.mem_of_getElem? (i := 42) rfl)
theorem d_La_law_1230 : decode Y_La_law.2.1 1230 = .ok (.iadd, 1) := D_La_law_12 (1230, .iadd, 1) (List.mem_of_getElem? (i := 43) rfl)
theorem d_La_law_1231 : decode Y_La_law.2.1 1231 = .ok (.iaload, 1) := D_La_law_12 (1231, .iaload, 1) (List.mem_of_getElem? (i := 44) rfl)
theorem d_La_law_1232 : decode Y_La_law.2.1 1232 = .ok (.aload_n 0, 1) := D_La_law_12 (1232, .aload_n 0, 1) (List.mem_of_getElem? (i := 45) rfl)
theorem d_La_law_1233 : decode Y_La_law.2.1 1233 = .ok (.iload 4, 2) := D_La_law_12 (1233, .iload 4, 2) (List.mem_of_getElem? (i := 46) rfl)
theorem d_La_law_1235 : decode Y_La_law.2.1 1235 = .ok (.iconst 2, 1) := D_La_law_12 (1235, .iconst 2, 1) (List.mem_of_getElem? (i := 47) rfl)
theorem d_La_law_1236 : decode Y_La_law.2.1 1236 = .ok (.iadd, 1) := D_La_law_12 (1236, .iadd, 1) (List.mem_of_getElem? (i := 48) rfl)
theorem d_La_law_1237 : decode Y_La_law.2.1 1237 = .ok (.iaload, 1) := D_La_law_12 (1237, .iaload, 1) (List.mem_of_getElem? (i := 49) rfl)
theorem d_La_law_1238 : decode Y_La_law.2.1 1238 = .ok (.aload_n 0, 1) := D_La_law_12 (1238, .aload_n 0, 1) (List.mem_of_getElem? (i := 50) rfl)
theorem d_La_law_1239 : decode Y_La_law.2.1 1239 = .ok (.iload 4, 2) := D_La_law_12 (1239, .iload 4, 2) (List.mem_of_getElem? (i := 51) rfl)
theorem d_La_law_1241 : decode Y_La_law.2.1 1241 = .ok (.iconst 3, 1) := D_La_law_12 (1241, .iconst 3, 1) (List.mem_of_getElem? (i := 52) rfl)
theorem d_La_law_1242 : decode Y_La_law.2.1 1242 = .ok (.iadd, 1) := D_La_law_12 (1242, .iadd, 1) (List.mem_of_getElem? (i := 53) rfl)
theorem d_La_law_1243 : decode Y_La_law.2.1 1243 = .ok (.iaload, 1) := D_La_law_12 (1243, .iaload, 1) (List.mem_of_getElem? (i := 54) rfl)
theorem d_La_law_1244 : decode Y_La_law.2.1 1244 = .ok (.invokevirtual 142, 3) := D_La_law_12 (1244, .invokevirtual 142, 3) (List.mem_of_getElem? (i := 55) rfl)
theorem d_La_law_1247 : decode Y_La_law.2.1 1247 = .ok (.aload_n 2, 1) := D_La_law_12 (1247, .aload_n 2, 1) (List.mem_of_getElem? (i := 56) rfl)
theorem d_La_law_1248 : decode Y_La_law.2.1 1248 = .ok (.invokevirtual 84, 3) := D_La_law_12 (1248, .invokevirtual 84, 3) (List.mem_of_getElem? (i := 57) rfl)
theorem d_La_law_1251 : decode Y_La_law.2.1 1251 = .ok (.iload 5, 2) := D_La_law_12 (1251, .iload 5, 2) (List.mem_of_getElem? (i := 58) rfl)
theorem d_La_law_1253 : decode Y_La_law.2.1 1253 = .ok (.if_icmp .eq 5, 3) := D_La_law_12 (1253, .if_icmp .eq 5, 3) (List.mem_of_getElem? (i := 59) rfl)
theorem D_La_law_13 : ∀ q ∈ ([(1256, .iconst 0, 1), (1257, .ireturn, 1), (1258, .goto 104, 3), (1261, .aload_n 1, 1), (1262, .aload_n 0, 1), (1263, .iload 4, 2), (1265, .iconst 1, 1), (1266, .iadd, 1), (1267, .iaload, 1), (1268, .aload_n 0, 1), (1269, .iload 4, 2), (1271, .iconst 2, 1), (1272, .iadd, 1), (1273, .iaload, 1), (1274, .aload_n 0, 1), (1275, .iload 4, 2), (1277, .iconst 3, 1), (1278, .iadd, 1), (1279, .iaload, 1), (1280, .aload_n 3, 1), (1281, .invokestatic 143, 3), (1284, .istore 5, 2), (1286, .aload_n 2, 1), (1287, .aload_n 0, 1), (1288, .iload 4, 2), (1290, .iconst 1, 1), (1291, .iadd, 1), (1292, .iaload, 1), (1293, .aload_n 0, 1), (1294, .iload 4, 2), (1296, .iconst 2, 1), (1297, .iadd, 1), (1298, .iaload, 1), (1299, .aload_n 0, 1), (1300, .iload 4, 2), (1302, .iconst 3, 1), (1303, .iadd, 1), (1304, .iaload, 1), (1305, .invokevirtual 145, 3), (1308, .istore 6, 2), (1310, .aload_n 2, 1), (1311, .invokevirtual 84, 3), (1314, .iload 5, 2), (1316, .if_icmp .eq 5, 3), (1319, .iconst 0, 1), (1320, .ireturn, 1), (1321, .iload 5, 2), (1323, .ifCond .ne 22, 3), (1326, .aload_n 3, 1), (1327, .iconst 0, 1), (1328, .laload, 1), (1329, .iload 6, 2), (1331, .ifCond .eq 7, 3), (1334, .lconst 1, 1), (1335, .goto 4, 3), (1338, .lconst 0, 1), (1339, .lcmp, 1), (1340, .ifCond .eq 5, 3), (1343, .iconst 0, 1), (1344, .ireturn, 1)] : List (Nat × Instr × Nat)), decode code q.1 = .ok (q.2.1, q.2.2) := by decide +kernel
theorem d_La_law_1256 : decode Y_La_law.2.1 1256 = .ok (.iconst 0, 1) := D_La_law_13 (1256, .iconst 0, 1) (List.mem_of_getElem? (i := 0) rfl)
theorem d_La_law_1257 : decode Y_La_law.2.1 1257 = .ok (.ireturn, 1) := D_La_law_13 (1257, .ireturn, 1) (List.mem_of_getElem? (i := 1) rfl)
theorem d_La_law_1258 : decode Y_La_law.2.1 1258 = .ok (.goto 104, 3) := D_La_law_13 (1258, .goto 104, 3) (List.mem_of_getElem? (i := 2) rfl)
theorem d_La_law_1261 : decode Y_La_law.2.1 1261 = .ok (.aload_n 1, 1) := D_La_law_13 (1261, .aload_n 1, 1) (List.mem_of_getElem? (i := 3) rfl)
theorem d_La_law_1262 : decode Y_La_law.2.1 1262 = .ok (.aload_n 0, 1) := D_La_law_13 (1262, .aload_n 0, 1) (List.mem_of_getElem? (i := 4) rfl)
theorem d_La_law_1263 : decode Y_La_law.2.1 1263 = .ok (.iload 4, 2) := D_La_law_13 (1263, .iload 4, 2) (List.mem_of_getElem? (i := 5) rfl)
theorem d_La_law_1265 : decode Y_La_law.2.1 1265 = .ok (.iconst 1, 1) := D_La_law_13 (1265, .iconst 1, 1) (List.mem_of_getElem? (i := 6) rfl)
theorem d_La_law_1266 : decode Y_La_law.2.1 1266 = .ok (.iadd, 1) := D_La_law_13 (1266, .iadd, 1) (List.mem_of_getElem? (i := 7) rfl)
theorem d_La_law_1267 : decode Y_La_law.2.1 1267 = .ok (.iaload, 1) := D_La_law_13 (1267, .iaload, 1) (List.mem_of_getElem? (i := 8) rfl)
theorem d_La_law_1268 : decode Y_La_law.2.1 1268 = .ok (.aload_n 0, 1) := D_La_law_13 (1268, .aload_n 0, 1) (List.mem_of_getElem? (i := 9) rfl)
theorem d_La_law_1269 : decode Y_La_law.2.1 1269 = .ok (.iload 4, 2) := D_La_law_13 (1269, .iload 4, 2) (List.mem_of_getElem? (i := 10) rfl)
theorem d_La_law_1271 : decode Y_La_law.2.1 1271 = .ok (.iconst 2, 1) := D_La_law_13 (1271, .iconst 2, 1) (List.mem_of_getElem? (i := 11) rfl)
theorem d_La_law_1272 : decode Y_La_law.2.1 1272 = .ok (.iadd, 1) := D_La_law_13 (1272, .iadd, 1) (List.mem_of_getElem? (i := 12) rfl)
theorem d_La_law_1273 : decode Y_La_law.2.1 1273 = .ok (.iaload, 1) := D_La_law_13 (1273, .iaload, 1) (List.mem_of_getElem? (i := 13) rfl)
theorem d_La_law_1274 : decode Y_La_law.2.1 1274 = .ok (.aload_n 0, 1) := D_La_law_13 (1274, .aload_n 0, 1) (List.mem_of_getElem? (i := 14) rfl)
theorem d_La_law_1275 : decode Y_La_law.2.1 1275 = .ok (.iload 4, 2) := D_La_law_13 (1275, .iload 4, 2) (List.mem_of_getElem? (i := 15) rfl)
theorem d_La_law_1277 : decode Y_La_law.2.1 1277 = .ok (.iconst 3, 1) := D_La_law_13 (1277, .iconst 3, 1) (List.mem_of_getElem? (i := 16) rfl)
theorem d_La_law_1278 : decode Y_La_law.2.1 1278 = .ok (.iadd, 1) := D_La_law_13 (1278, .iadd, 1) (List.mem_of_getElem? (i := 17) rfl)
theorem d_La_law_1279 : decode Y_La_law.2.1 1279 = .ok (.iaload, 1) := D_La_law_13 (1279, .iaload, 1) (List.mem_of_getElem? (i := 18) rfl)
theorem d_La_law_1280 : decode Y_La_law.2.1 1280 = .ok (.aload_n 3, 1) := D_La_law_13 (1280, .aload_n 3, 1) (List.mem_of_getElem? (i := 19) rfl)
theorem d_La_law_1281 : decode Y_La_law.2.1 1281 = .ok (.invokestatic 143, 3) := D_La_law_13 (1281, .invokestatic 143, 3) (List.mem_of_getElem? (i := 20) rfl)
theorem d_La_law_1284 : decode Y_La_law.2.1 1284 = .ok (.istore 5, 2) := D_La_law_13 (1284, .istore 5, 2) (List.mem_of_getElem? (i := 21) rfl)
theorem d_La_law_1286 : decode Y_La_law.2.1 1286 = .ok (.aload_n 2, 1) := D_La_law_13 (1286, .aload_n 2, 1) (List.mem_of_getElem? (i := 22) rfl)
theorem d_La_law_1287 : decode Y_La_law.2.1 1287 = .ok (.aload_n 0, 1) := D_La_law_13 (1287, .aload_n 0, 1) (List.mem_of_getElem? (i := 23) rfl)
theorem d_La_law_1288 : decode Y_La_law.2.1 1288 = .ok (.iload 4, 2) := D_La_law_13 (1288, .iload 4, 2) (List.mem_of_getElem? (i := 24) rfl)
theorem d_La_law_1290 : decode Y_La_law.2.1 1290 = .ok (.iconst 1, 1) := D_La_law_13 (1290, .iconst 1, 1) (List.mem_of_getElem? (i := 25) rfl)
theorem d_La_law_1291 : decode Y_La_law.2.1 1291 = .ok (.iadd, 1) := D_La_law_13 (1291, .iadd, 1) (List.mem_of_getElem? (i := 26) rfl)
theorem d_La_law_1292 : decode Y_La_law.2.1 1292 = .ok (.iaload, 1) := D_La_law_13 (1292, .iaload, 1) (List.mem_of_getElem? (i := 27) rfl)
theorem d_La_law_1293 : decode Y_La_law.2.1 1293 = .ok (.aload_n 0, 1) := D_La_law_13 (1293, .aload_n 0, 1) (List.mem_of_getElem? (i := 28) rfl)
theorem d_La_law_1294 : decode Y_La_law.2.1 1294 = .ok (.iload 4, 2) := D_La_law_13 (1294, .iload 4, 2) (List.mem_of_getElem? (i := 29) rfl)
theorem d_La_law_1296 : decode Y_La_law.2.1 1296 = .ok (.iconst 2, 1) := D_La_law_13 (1296, .iconst 2, 1) (List.mem_of_getElem? (i := 30) rfl)
theorem d_La_law_1297 : decode Y_La_law.2.1 1297 = .ok (.iadd, 1) := D_La_law_13 (1297, .iadd, 1) (List.mem_of_getElem? (i := 31) rfl)
theorem d_La_law_1298 : decode Y_La_law.2.1 1298 = .ok (.iaload, 1) := D_La_law_13 (1298, .iaload, 1) (List.mem_of_getElem? (i := 32) rfl)
theorem d_La_law_1299 : decode Y_La_law.2.1 1299 = .ok (.aload_n 0, 1) := D_La_law_13 (1299, .aload_n 0, 1) (List.mem_of_getElem? (i := 33) rfl)
theorem d_La_law_1300 : decode Y_La_law.2.1 1300 = .ok (.iload 4, 2) := D_La_law_13 (1300, .iload 4, 2) (List.mem_of_getElem? (i := 34) rfl)
theorem d_La_law_1302 : decode Y_La_law.2.1 1302 = .ok (.iconst 3, 1) := D_La_law_13 (1302, .iconst 3, 1) (List.mem_of_getElem? (i := 35) rfl)
theorem d_La_law_1303 : decode Y_La_law.2.1 1303 = .ok (.iadd, 1) := D_La_law_13 (1303, .iadd, 1) (List.mem_of_getElem? (i := 36) rfl)
theorem d_La_law_1304 : decode Y_La_law.2.1 1304 = .ok (.iaload, 1) := D_La_law_13 (1304, .iaload, 1) (List.mem_of_getElem? (i := 37) rfl)
theorem d_La_law_1305 : decode Y_La_law.2.1 1305 = .ok (.invokevirtual 145, 3) := D_La_law_13 (1305, .invokevirtual 145, 3) (List.mem_of_getElem? (i := 38) rfl)
theorem d_La_law_1308 : decode Y_La_law.2.1 1308 = .ok (.istore 6, 2) := D_La_law_13 (1308, .istore 6, 2) (List.mem_of_getElem? (i := 39) rfl)
theorem d_La_law_1310 : decode Y_La_law.2.1 1310 = .ok (.aload_n 2, 1) := D_La_law_13 (1310, .aload_n 2, 1) (List.mem_of_getElem? (i := 40) rfl)
theorem d_La_law_1311 : decode Y_La_law.2.1 1311 = .ok (.invokevirtual 84, 3) := D_La_law_13 (1311, .invokevirtual 84, 3) (List.mem_of_getElem? (i := 41) rfl)
theorem d_La_law_1314 : decode Y_La_law.2.1 1314 = .ok (.iload 5, 2) := D_La_law_13 (1314, .iload 5, 2) (List.mem_of_getElem? (i := 42) rfl)
theorem d_La_law_1316 : decode Y_La_law.2.1 1316 = .ok (.if_icmp .eq 5, 3) := D_La_law_13 (1316, .if_icmp .eq 5, 3) (List.mem_of_getElem? (i := 43) rfl)
theorem d_La_law_1319 : decode Y_La_law.2.1 1319 = .ok (.iconst 0, 1) := D_La_law_13 (1319, .iconst 0, 1) (List.mem_of_getElem? (i := 44) rfl)
theorem d_La_law_1320 : decode Y_La_law.2.1 1320 = .ok (.ireturn, 1) := D_La_law_13 (1320, .ireturn, 1) (List.mem_of_getElem? (i := 45) rfl)
theorem d_La_law_1321 : decode Y_La_law.2.1 1321 = .ok (.iload 5, 2) := D_La_law_13 (1321, .iload 5, 2) (List.mem_of_getElem? (i := 46) rfl)
theorem d_La_law_1323 : decode Y_La_law.2.1 1323 = .ok (.ifCond .ne 22, 3) := D_La_law_13 (1323, .ifCond .ne 22, 3) (List.mem_of_getElem? (i := 47) rfl)
theorem d_La_law_1326 : decode Y_La_law.2.1 1326 = .ok (.aload_n 3, 1) := D_La_law_13 (1326, .aload_n 3, 1) (List.mem_of_getElem? (i := 48) rfl)
theorem d_La_law_1327 : decode Y_La_law.2.1 1327 = .ok (.iconst 0, 1) := D_La_law_13 (1327, .iconst 0, 1) (List.mem_of_getElem? (i := 49) rfl)
theorem d_La_law_1328 : decode Y_La_law.2.1 1328 = .ok (.laload, 1) := D_La_law_13 (1328, .laload, 1) (List.mem_of_getElem? (i := 50) rfl)
theorem d_La_law_1329 : decode Y_La_law.2.1 1329 = .ok (.iload 6, 2) := D_La_law_13 (1329, .iload 6, 2) (List.mem_of_getElem? (i := 51) rfl)
theorem d_La_law_1331 : decode Y_La_law.2.1 1331 = .ok (.ifCond .eq 7, 3) := D_La_law_13 (1331, .ifCond .eq 7, 3) (List.mem_of_getElem? (i := 52) rfl)
theorem d_La_law_1334 : decode Y_La_law.2.1 1334 = .ok (.lconst 1, 1) := D_La_law_13 (1334, .lconst 1, 1) (List.mem_of_getElem? (i := 53) rfl)
theorem d_La_law_1335 : decode Y_La_law.2.1 1335 = .ok (.goto 4, 3) := D_La_law_13 (1335, .goto 4, 3) (List.mem_of_getElem? (i := 54) rfl)
theorem d_La_law_1338 : decode Y_La_law.2.1 1338 = .ok (.lconst 0, 1) := D_La_law_13 (1338, .lconst 0, 1) (List.mem_of_getElem? (i := 55) rfl)
theorem d_La_law_1339 : decode Y_La_law.2.1 1339 = .ok (.lcmp, 1) := D_La_law_13 (1339, .lcmp, 1) (List.mem_of_getElem? (i := 56) rfl)
theorem d_La_law_1340 : decode Y_La_law.2.1 1340 = .ok (.ifCond .eq 5, 3) := D_La_law_13 (1340, .ifCond .eq 5, 3) (List.mem_of_getElem? (i := 57) rfl)
theorem d_La_law_1343 : decode Y_La_law.2.1 1343 = .ok (.iconst 0, 1) := D_La_law_13 (1343, .iconst 0, 1) (List.mem_of_getElem? (i := 58) rfl)
theorem d_La_law_1344 : decode Y_La_law.2.1 1344 = .ok (.ireturn, 1) := D_La_law_13 (1344, .ireturn, 1) (List.mem_of_getElem? (i := 59) rfl)
theorem D_La_law_14 : ∀ q ∈ ([(1345, .goto 17, 3), (1348, .aload_n 1, 1), (1349, .invokevirtual 146, 3), (1352, .aload_n 2, 1), (1353, .invokevirtual 150, 3), (1356, .lcmp, 1), (1357, .ifCond .eq 5, 3), (1360, .iconst 0, 1), (1361, .ireturn, 1), (1362, .iinc 4 7, 3), (1365, .goto (-1342), 3), (1368, .iconst 1, 1), (1369, .ireturn, 1)] : List (Nat × Instr × Nat)), decode code q.1 = .ok (q.2.1, q.2.2) := by decide +kernel
theorem d_La_law_1345 : decode Y_La_law.2.1 1345 = .ok (.goto 17, 3) := D_La_law_14 (1345, .goto 17, 3) (List.mem_of_getElem? (i := 0) rfl)
theorem d_La_law_1348 : decode Y_La_law.2.1 1348 = .ok (.aload_n 1, 1) := D_La_law_14 (1348, .aload_n 1, 1) (List.mem_of_getElem? (i := 1) rfl)
theorem d_La_law_1349 : decode Y_La_law.2.1 1349 = .ok (.invokevirtual 146, 3) := D_La_law_14 (1349, .invokevirtual 146, 3) (List.mem_of_getElem? (i := 2) rfl)
theorem d_La_law_1352 : decode Y_La_law.2.1 1352 = .ok (.aload_n 2, 1) := D_La_law_14 (1352, .aload_n 2, 1) (List.mem_of_getElem? (i := 3) rfl)
theorem d_La_law_1353 : decode Y_La_law.2.1 1353 = .ok (.invokevirtual 150, 3) := D_La_law_14 (1353, .invokevirtual 150, 3) (List.mem_of_getElem? (i := 4) rfl)
theorem d_La_law_1356 : decode Y_La_law.2.1 1356 = .ok (.lcmp, 1) := D_La_law_14 (1356, .lcmp, 1) (List.mem_of_getElem? (i := 5) rfl)
theorem d_La_law_1357 : decode Y_La_law.2.1 1357 = .ok (.ifCond .eq 5, 3) := D_La_law_14 (1357, .ifCond .eq 5, 3) (List.mem_of_getElem? (i := 6) rfl)
theorem d_La_law_1360 : decode Y_La_law.2.1 1360 = .ok (.iconst 0, 1) := D_La_law_14 (1360, .iconst 0, 1) (List.mem_of_getElem? (i := 7) rfl)
theorem d_La_law_1361 : decode Y_La_law.2.1 1361 = .ok (.ireturn, 1) := D_La_law_14 (1361, .ireturn, 1) (List.mem_of_getElem? (i := 8) rfl)
theorem d_La_law_1362 : decode Y_La_law.2.1 1362 = .ok (.iinc 4 7, 3) := D_La_law_14 (1362, .iinc 4 7, 3) (List.mem_of_getElem? (i := 9) rfl)
theorem d_La_law_1365 : decode Y_La_law.2.1 1365 = .ok (.goto (-1342), 3) := D_La_law_14 (1365, .goto (-1342), 3) (List.mem_of_getElem? (i := 10) rfl)
theorem d_La_law_1368 : decode Y_La_law.2.1 1368 = .ok (.iconst 1, 1) := D_La_law_14 (1368, .iconst 1, 1) (List.mem_of_getElem? (i := 11) rfl)
theorem d_La_law_1369 : decode Y_La_law.2.1 1369 = .ok (.ireturn, 1) := D_La_law_14 (1369, .ireturn, 1) (List.mem_of_getElem? (i := 12) rfl)
end
section
/-! THE STATE: what a picture of the class's objects and of the reference's is -/
abbrev cB : Type := Int32 × Int32 × Int64 × Int64 × Int64 × Int32 × Int32
abbrev cS : Type := Int32 × Int32 × Int32 × Int32 × Int32 × Int32
abbrev cP : Type := Int64 × Int64 × Int64 × Int64 × Int64
/-- a bin: kind, most, dry, water, reading, low, high -/
def bc_ (b : cB) : va_E := .inr (3, [.int b.1, .int b.2.1, .long b.2.2.1, .long b.2.2.2.1, .long b.2.2.2.2.1, .int b.2.2.2.2.2.1, .int b.2.2.2.2.2.2])
/-- a screen: told, bin0, bin1, bin2, share1, share2 -/
def sc_ (c : cS) : va_E := .inr (4, [.int c.1, .int c.2.1, .int c.2.2.1, .int c.2.2.2.1, .int c.2.2.2.2.1, .int c.2.2.2.2.2])
/-- parts: bark, chips, dust, offcuts, boards -/
def pc_ (p : cP) : va_E := .inr (2, [.long p.1, .long p.2.1, .long p.2.2.1, .long p.2.2.2.1, .long p.2.2.2.2])
def fB : Nat → Option Nat := va_up (va_up (va_up (va_up (va_up (va_up (va_up (va_up (fun _ => none) 0 (some 6)) 1 (some 7)) 2 (some 8)) 3 (some 9)) 4 (some 10)) 5 (some 11)) 6 (some 12)) 7 (some 13)
def fS : Nat → Option Nat := va_up (va_up (va_up (va_up (fun _ => none) 0 (some 15)) 1 (some 16)) 2 (some 17)) 3 (some 18)
theorem lt8 {P : Nat → Prop} (h0 : P 0) (h1 : P 1) (h2 : P 2) (h3 : P 3) (h4 : P 4) (h5 : P 5) (h6 : P 6) (h7 : P 7) {i : Nat} (hi : i < 8) : P i := by
  match i, hi with
  | 0, _ => exact h0
  | 1, _ => exact h1
  | 2, _ => exact h2
  | 3, _ => exact h3
  | 4, _ => exact h4
  | 5, _ => exact h5
  | 6, _ => exact h6
  | 7, _ => exact h7
  | i + 8, h => exact absurd h (by omega)
theorem lt4 {P : Nat → Prop} (h0 : P 0) (h1 : P 1) (h2 : P 2) (h3 : P 3) {i : Nat} (hi : i < 4) : P i := by
  match i, hi with
  | 0, _ => exact h0
  | 1, _ => exact h1
  | 2, _ => exact h2
  | 3, _ => exact h3
  | i + 4, h => exact absurd h (by omega)
theorem fB_at {i : Nat} (hi : i < 8) : fB i = some (6 + i) := lt8 (P := fun i => fB i = some (6 + i)) rfl rfl rfl rfl rfl rfl rfl rfl hi
theorem fS_at {i : Nat} (hi : i < 4) : fS i = some (15 + i) := lt4 (P := fun i => fS i = some (15 + i)) rfl rfl rfl rfl hi
/-- the class's objects: places 0 to 21 -/
def ch (sa sb : Int32 × Int32) (lt tt : cP) (lg bc : Int32) (gi go : Int64) (sh : Int32) (bn : Nat → cB) (sc : Nat → cS) (rw : Int32) (dy pt : Nat → Int32) (R : List va_E) : List va_E :=
  .inr (0, [.ref 1, .ref 2, .ref 3, .ref 4, .int lg, .ref 5, .int bc, .ref 14, .ref 19, .long gi, .long go, .int sh]) ::
  .inr (1, [.int sa.1, .int sa.2]) :: .inr (1, [.int sb.1, .int sb.2]) :: pc_ lt :: pc_ tt ::
  .inl (3, 8, .inr (.inr (.inr (.inr fB)))) ::
  bc_ (bn 0) :: bc_ (bn 1) :: bc_ (bn 2) :: bc_ (bn 3) :: bc_ (bn 4) :: bc_ (bn 5) :: bc_ (bn 6) :: bc_ (bn 7) ::
  .inl (4, 4, .inr (.inr (.inr (.inr fS)))) ::
  sc_ (sc 0) :: sc_ (sc 1) :: sc_ (sc 2) :: sc_ (sc 3) ::
  .inr (5, [.int rw, .ref 20, .ref 21]) :: .inl (0, 8, .inl dy) :: .inl (0, 8, .inl pt) :: R
/-- the reference's: places 22 to 38 -/
def mh (th : Int32) (ab be : Nat → Int32) (lg : Int32) (lt sm : Nat → Int64) (bs : Int32) (kd : Nat → Int32) (mo dr wa re : Nat → Int64) (lo hi : Nat → Int32) (sc ou sr : Nat → Int32) (gi go sh : Int64) (rw : Int32) (dy pt : Nat → Int32) (td tw : Int64) (R : List va_E) : List va_E :=
  .inr (6, [.int th, .ref 23, .ref 24, .int lg, .ref 25, .ref 26, .int bs, .ref 27, .ref 28, .ref 29, .ref 30, .ref 31, .ref 32, .ref 33, .ref 34, .ref 35, .ref 36, .long gi, .long go, .long sh, .int rw, .ref 37, .ref 38, .long td, .long tw]) ::
  .inl (0, 2, .inl ab) :: .inl (0, 2, .inl be) :: .inl (1, 5, .inr (.inl lt)) :: .inl (1, 5, .inr (.inl sm)) ::
  .inl (0, 8, .inl kd) :: .inl (1, 8, .inr (.inl mo)) :: .inl (1, 8, .inr (.inl dr)) :: .inl (1, 8, .inr (.inl wa)) :: .inl (1, 8, .inr (.inl re)) ::
  .inl (0, 8, .inl lo) :: .inl (0, 8, .inl hi) :: .inl (2, 4, .inl sc) :: .inl (0, 12, .inl ou) :: .inl (0, 12, .inl sr) :: .inl (0, 8, .inl dy) :: .inl (0, 8, .inl pt) :: R
theorem xset_get {h : List va_E} {p : Nat} {c d : va_E} (hh : h[p]? = some d) : (h.set p c)[p]? = some c := by
  have hl : p < h.length := (List.getElem?_eq_some_iff.mp hh).1
  rw [List.getElem?_set, if_pos rfl, if_pos hl]
/-- the array types of the picture -/
def gTok (G : xG) : Prop := ∃ c0 c1 c2 c3 c4 : ClassId, gT G = [(c0, .int), (c1, .long), (c2, .boolean), (c3, .object "ResidueFlows$Bin"), (c4, .object "ResidueFlows$Screen")]
section XO
variable {G : xG} {y : xY} {pc : Nat} {L : List (Nat × Value)} {st : List Value} {w : xH} {r : xR}
/-- a call of a method that checks: it returns, or throws -/
theorem J_callO {P : Prop} {z : xY} {avs st0 : List Value} {v : Option Value} {E : String} (hg : xGo G y (0, 0) pc L st0 w z avs st) (hz : xwd z ∈ xTw ∧ Cond.initialized z.1.cls ∈ xTw) (hR : xcR z (0, 0) y.2.2.2.2.1) (hst : (st.map fun v => v.category).sum ≤ 8) (hM : (P → XM G z avs (1, w.2) (.inl v, (1, w.2), 0, 0)) ∧ (¬ P → XM G z avs (1, w.2) (.inr E, (0, w.2), 1, 6))) (hhh : y.2.2.2.2.2 = []) (ok : P → JW G y (0, 0) (pc + 3) L (v.toList ++ st) w r) (no : ¬ P → r = (.inr E, (0, w.2), 1, 6)) : JW G y (0, 0) pc L st0 w r := by
  by_cases h : P
  · exact J_callP hg hz hR hst (hM.1 h) (ok h)
  · exact J_callE hg hz hR hst (hM.2 h) hhh (no h)
end XO
theorem XM_if {G : xG} {y : xY} {avs : List Value} {w : xH} {P : Prop} {a b : xR} (h : ∀ r, (P → r = a) → (¬ P → r = b) → XM G y avs w r) : (P → XM G y avs w a) ∧ (¬ P → XM G y avs w b) :=
  ⟨fun p => h a (fun _ => rfl) (fun n => absurd p n), fun n => h b (fun p => absurd p n) (fun _ => rfl)⟩
theorem gt0 {G : xG} (h : gTok G) : ∃ cA, (gT G)[0]? = some (cA, .int) := by obtain ⟨c0, c1, c2, c3, c4, e⟩ := h; rw [e]; exact ⟨_, rfl⟩
theorem gt1 {G : xG} (h : gTok G) : ∃ cA, (gT G)[1]? = some (cA, .long) := by obtain ⟨c0, c1, c2, c3, c4, e⟩ := h; rw [e]; exact ⟨_, rfl⟩
theorem gt2 {G : xG} (h : gTok G) : ∃ cA, (gT G)[2]? = some (cA, .boolean) := by obtain ⟨c0, c1, c2, c3, c4, e⟩ := h; rw [e]; exact ⟨_, rfl⟩
theorem gt3 {G : xG} (h : gTok G) : ∃ cA, (gT G)[3]? = some (cA, .object "ResidueFlows$Bin") := by obtain ⟨c0, c1, c2, c3, c4, e⟩ := h; rw [e]; exact ⟨_, rfl⟩
theorem gt4 {G : xG} (h : gTok G) : ∃ cA, (gT G)[4]? = some (cA, .object "ResidueFlows$Screen") := by obtain ⟨c0, c1, c2, c3, c4, e⟩ := h; rw [e]; exact ⟨_, rfl⟩
theorem gt3' {G : xG} (h : gTok G) : ∃ cA C, (gT G)[3]? = some (cA, .object C) := by obtain ⟨c, e⟩ := gt3 h; exact ⟨c, _, e⟩
theorem gt4' {G : xG} (h : gTok G) : ∃ cA C, (gT G)[4]? = some (cA, .object C) := by obtain ⟨c, e⟩ := gt4 h; exact ⟨c, _, e⟩
section XS
variable {sa sb : Int32 × Int32} {lt tt : cP} {lg bc : Int32} {gi go : Int64} {sh : Int32} {bn : Nat → cB} {sc : Nat → cS} {rw : Int32} {dy pt : Nat → Int32} {R : List va_E} {i : Nat}
theorem ch_bin (hi : i < 8) : (ch sa sb lt tt lg bc gi go sh bn sc rw dy pt R)[6 + i]? = some (bc_ (bn i)) := lt8 (P := fun i => (ch sa sb lt tt lg bc gi go sh bn sc rw dy pt R)[6 + i]? = some (bc_ (bn i))) rfl rfl rfl rfl rfl rfl rfl rfl hi
theorem ch_setb (hi : i < 8) {v : cB} : (ch sa sb lt tt lg bc gi go sh bn sc rw dy pt R).set (6 + i) (bc_ v) = ch sa sb lt tt lg bc gi go sh (vf_upd bn i v) sc rw dy pt R := lt8 (P := fun i => (ch sa sb lt tt lg bc gi go sh bn sc rw dy pt R).set (6 + i) (bc_ v) = ch sa sb lt tt lg bc gi go sh (vf_upd bn i v) sc rw dy pt R) rfl rfl rfl rfl rfl rfl rfl rfl hi
theorem ch_scr (hi : i < 4) : (ch sa sb lt tt lg bc gi go sh bn sc rw dy pt R)[15 + i]? = some (sc_ (sc i)) := lt4 (P := fun i => (ch sa sb lt tt lg bc gi go sh bn sc rw dy pt R)[15 + i]? = some (sc_ (sc i))) rfl rfl rfl rfl hi
theorem ch_sets (hi : i < 4) {v : cS} : (ch sa sb lt tt lg bc gi go sh bn sc rw dy pt R).set (15 + i) (sc_ v) = ch sa sb lt tt lg bc gi go sh bn (vf_upd sc i v) rw dy pt R := lt4 (P := fun i => (ch sa sb lt tt lg bc gi go sh bn sc rw dy pt R).set (15 + i) (sc_ v) = ch sa sb lt tt lg bc gi go sh bn (vf_upd sc i v) rw dy pt R) rfl rfl rfl rfl hi
end XS
noncomputable def xif {α : Type} (P : Prop) (a b : α) : α := @ite _ P (Classical.propDecidable P) a b
theorem xif_pos {α : Type} {P : Prop} {a b : α} (h : P) : xif P a b = a := if_pos h
theorem xif_neg {α : Type} {P : Prop} {a b : α} (h : ¬ P) : xif P a b = b := if_neg h
/-- a bin's number is good -/
def okB (bc n : Int32) : Prop := ¬ n < 0 ∧ ¬ bc ≤ n ∧ n < 8
theorem okB_lt {bc n : Int32} (h : okB bc n) : n.toNatClampNeg < 8 ∧ n = nI n.toNatClampNeg ∧ vp_in n 8 := by
  have e8 : (8 : Int32).toInt = ((8 : Nat) : Int) := by decide
  obtain ⟨j, hj, e⟩ := nI_of2 e8 h.1 (Int32.le_of_lt h.2.2)
  have hj8 : j < 8 := by
    rcases Nat.lt_or_ge j 8 with q | q
    · exact q
    · have : j = 8 := by omega
      subst this
      exact absurd h.2.2 (by rw [e]; decide)
  subst e
  rw [nI_clamp (by omega)]
  exact ⟨hj8, rfl, vp_in_nI hj8 (by decide)⟩
def okS (n : Int32) : Prop := ¬ n < 0 ∧ n < 4
theorem okS_lt {n : Int32} (h : okS n) : n.toNatClampNeg < 4 ∧ n = nI n.toNatClampNeg ∧ vp_in n 4 := by
  have e8 : (4 : Int32).toInt = ((4 : Nat) : Int) := by decide
  obtain ⟨j, hj, e⟩ := nI_of2 e8 h.1 (Int32.le_of_lt h.2)
  have hj8 : j < 4 := by
    rcases Nat.lt_or_ge j 4 with q | q
    · exact q
    · have : j = 4 := by omega
      subst this
      exact absurd h.2 (by rw [e]; decide)
  subst e
  rw [nI_clamp (by omega)]
  exact ⟨hj8, rfl, vp_in_nI hj8 (by decide)⟩
theorem ti {k : Int32} {n : Int} (c : Int32) (hc : c.toInt = n) (h : ¬ k = c) : ¬ k.toInt = n := fun q => h (Int32.toInt_inj.mp (q.trans hc.symm))
end
section
def s_gr (b : cB) : Int64 := b.2.2.1 + b.2.2.2.1
def s_po (a b c : Int64) : Int64 := if 1 ≤ c then a * b / c else 0
def s_hr (b : cB) (k : Int32) : Int32 := if b.2.1.toInt64 * 1000 < s_gr b + k.toInt64 * 1000 then 0 else 1
def s_wi (b : cB) (k : Int32) : Int64 := s_po b.2.2.2.1 (k.toInt64 * 1000) (s_gr b)
def s_di (b : cB) (k : Int32) : Int64 := k.toInt64 * 1000 - s_wi b k
def s_sp (b : cB) (d w : Int64) : Int64 := s_po (b.2.2.2.1 + w) 1000 (s_gr b + d + w)
def s_sa (b : cB) (d w : Int64) : Int32 := if s_sp b d w < b.2.2.2.2.2.1.toInt64 then 0 else if b.2.2.2.2.2.2.toInt64 < s_sp b d w then 0 else 1
def s_ch (b : cB) (d w : Int64) : cB := (b.1, b.2.1, b.2.2.1 + d, b.2.2.2.1 + w, b.2.2.2.2.1, b.2.2.2.2.2.1, b.2.2.2.2.2.2)
set_option maxHeartbeats 4000000 in
set_option maxRecDepth 100000 in
theorem m_Bi_grams {G : xG} {h : List va_E} {p : Nat} {b : cB} (hh : h[p]? = some (bc_ b)) : XM G Y_Bi_grams [.ref p] (1, h) (.inl (some (.long (s_gr b))), (1, h), 0, 0) := by
  refine XM_of (by decide +kernel) (Nat.le_of_ble_eq_true rfl) (Or.inl rfl) ?_
  refine J_aload_n d_Bi_grams_0 rfl rfl ?_
  refine J_get d_Bi_grams_1 xf_Bi_21 hh rfl ?_
  refine J_aload_n d_Bi_grams_4 rfl rfl ?_
  refine J_get d_Bi_grams_5 xf_Bi_24 hh rfl ?_
  refine J_ladd d_Bi_grams_8 ?_
  exact J_lreturn d_Bi_grams_9 rfl rfl
set_option maxHeartbeats 4000000 in
set_option maxRecDepth 100000 in
theorem m_portion {G : xG} {h : List va_E} {a b c : Int64} : XM G Y_RF_portion [.long a, .long b, .long c] (1, h) (.inl (some (.long (s_po a b c))), (1, h), 0, 0) := by
  refine XM_of (by decide +kernel) (Nat.le_of_ble_eq_true rfl) (Or.inl rfl) ?_
  refine J_lload d_RF_portion_0 rfl ?_
  refine J_lconst (v := 1) d_RF_portion_2 (by decide) ?_
  refine J_lcmp d_RF_portion_3 ?_
  refine J_lif_ge (tgt := 11) d_RF_portion_4 (by decide) (fun c4 => ?_) (fun c4 => ?_)
  · skip
    refine J_lload_n d_RF_portion_11 rfl rfl ?_
    refine J_lload_n d_RF_portion_12 rfl rfl ?_
    refine J_lmul d_RF_portion_13 ?_
    refine J_lload d_RF_portion_14 rfl ?_
    refine J_ldiv d_RF_portion_16 (fun q => absurd c4 (by rw [q]; decide)) ?_
    exact J_lreturn d_RF_portion_17 rfl (by simp only [s_po, c4, if_true, if_false, not_true_eq_false, not_false_eq_true, and_true, true_and, and_false, false_and, or_true, true_or, or_false, false_or, and_self, or_self])
  · skip
    refine J_lconst (v := 0) d_RF_portion_7 (by decide) ?_
    refine J_goto (tgt := 17) d_RF_portion_8 (by decide) ?_
    exact J_lreturn d_RF_portion_17 rfl (by simp only [s_po, c4, if_true, if_false, not_true_eq_false, not_false_eq_true, and_true, true_and, and_false, false_and, or_true, true_or, or_false, false_or, and_self, or_self])
set_option maxHeartbeats 4000000 in
set_option maxRecDepth 100000 in
theorem m_Bi_hasRoom {G : xG} {h : List va_E} {p : Nat} {b : cB} {k : Int32} (hh : h[p]? = some (bc_ b)) : XM G Y_Bi_hasRoom [.ref p, .int k] (1, h) (.inl (some (.int (s_hr b k))), (1, h), 0, 0) := by
  refine XM_of (by decide +kernel) (Nat.le_of_ble_eq_true rfl) (Or.inl rfl) ?_
  refine J_aload_n d_Bi_hasRoom_0 rfl rfl ?_
  refine J_callP (xGo_v0 d_Bi_hasRoom_1 xc_Bi_27 hh rfl rfl) ⟨xq_Bi_grams.1, xq_Bi_grams.2.1⟩ ⟨Nat.le_of_ble_eq_true rfl, Nat.le_of_ble_eq_true rfl, Nat.le_of_ble_eq_true rfl, Nat.le_of_ble_eq_true rfl⟩ (Nat.le_of_ble_eq_true rfl) (m_Bi_grams hh) ?_
  refine J_iload_n d_Bi_hasRoom_4 rfl rfl ?_
  refine J_i2l d_Bi_hasRoom_5 ?_
  refine J_ldc2_w d_Bi_hasRoom_6 xj_Bi_31 ?_
  refine J_lmul d_Bi_hasRoom_9 ?_
  refine J_ladd d_Bi_hasRoom_10 ?_
  refine J_aload_n d_Bi_hasRoom_11 rfl rfl ?_
  refine J_get d_Bi_hasRoom_12 xf_Bi_33 hh rfl ?_
  refine J_i2l d_Bi_hasRoom_15 ?_
  refine J_ldc2_w d_Bi_hasRoom_16 xj_Bi_31 ?_
  refine J_lmul d_Bi_hasRoom_19 ?_
  refine J_lcmp d_Bi_hasRoom_20 ?_
  refine J_lif_gt (tgt := 28) d_Bi_hasRoom_21 (by decide) (fun c21 => ?_) (fun c21 => ?_)
  · skip
    refine J_iconst (v := 0) d_Bi_hasRoom_28 (by decide) ?_
    exact J_zreturn d_Bi_hasRoom_29 rfl rfl (by simp only [s_hr, c21, if_true, if_false, not_true_eq_false, not_false_eq_true, and_true, true_and, and_false, false_and, or_true, true_or, or_false, false_or, and_self, or_self])
  · skip
    refine J_iconst (v := 1) d_Bi_hasRoom_24 (by decide) ?_
    refine J_goto (tgt := 29) d_Bi_hasRoom_25 (by decide) ?_
    exact J_zreturn d_Bi_hasRoom_29 rfl rfl (by simp only [s_hr, c21, if_true, if_false, not_true_eq_false, not_false_eq_true, and_true, true_and, and_false, false_and, or_true, true_or, or_false, false_or, and_self, or_self])
set_option maxHeartbeats 4000000 in
set_option maxRecDepth 100000 in
theorem m_Bi_waterIn {G : xG} {h : List va_E} {p : Nat} {b : cB} {k : Int32} (hh : h[p]? = some (bc_ b)) : XM G Y_Bi_waterIn [.ref p, .int k] (1, h) (.inl (some (.long (s_wi b k))), (1, h), 0, 0) := by
  refine XM_of (by decide +kernel) (Nat.le_of_ble_eq_true rfl) (Or.inl rfl) ?_
  refine J_aload_n d_Bi_waterIn_0 rfl rfl ?_
  refine J_get d_Bi_waterIn_1 xf_Bi_24 hh rfl ?_
  refine J_iload_n d_Bi_waterIn_4 rfl rfl ?_
  refine J_i2l d_Bi_waterIn_5 ?_
  refine J_ldc2_w d_Bi_waterIn_6 xj_Bi_31 ?_
  refine J_lmul d_Bi_waterIn_9 ?_
  refine J_aload_n d_Bi_waterIn_10 rfl rfl ?_
  refine J_callP (xGo_v0 d_Bi_waterIn_11 xc_Bi_27 hh rfl rfl) ⟨xq_Bi_grams.1, xq_Bi_grams.2.1⟩ ⟨Nat.le_of_ble_eq_true rfl, Nat.le_of_ble_eq_true rfl, Nat.le_of_ble_eq_true rfl, Nat.le_of_ble_eq_true rfl⟩ (Nat.le_of_ble_eq_true rfl) (m_Bi_grams hh) ?_
  refine J_callP (xGo_n3 d_Bi_waterIn_14 xc_Bi_36) ⟨xq_RF_portion.1, xq_RF_portion.2.1⟩ ⟨Nat.le_of_ble_eq_true rfl, Nat.le_of_ble_eq_true rfl, Nat.le_of_ble_eq_true rfl, Nat.le_of_ble_eq_true rfl⟩ (Nat.le_of_ble_eq_true rfl) m_portion ?_
  exact J_lreturn d_Bi_waterIn_17 rfl rfl
set_option maxHeartbeats 4000000 in
set_option maxRecDepth 100000 in
theorem m_Bi_dryIn {G : xG} {h : List va_E} {p : Nat} {b : cB} {k : Int32} (hh : h[p]? = some (bc_ b)) : XM G Y_Bi_dryIn [.ref p, .int k] (1, h) (.inl (some (.long (s_di b k))), (1, h), 0, 0) := by
  refine XM_of (by decide +kernel) (Nat.le_of_ble_eq_true rfl) (Or.inl rfl) ?_
  refine J_iload_n d_Bi_dryIn_0 rfl rfl ?_
  refine J_i2l d_Bi_dryIn_1 ?_
  refine J_ldc2_w d_Bi_dryIn_2 xj_Bi_31 ?_
  refine J_lmul d_Bi_dryIn_5 ?_
  refine J_aload_n d_Bi_dryIn_6 rfl rfl ?_
  refine J_iload_n d_Bi_dryIn_7 rfl rfl ?_
  refine J_callP (xGo_v1 d_Bi_dryIn_8 xc_Bi_40 hh rfl rfl) ⟨xq_Bi_waterIn.1, xq_Bi_waterIn.2.1⟩ ⟨Nat.le_of_ble_eq_true rfl, Nat.le_of_ble_eq_true rfl, Nat.le_of_ble_eq_true rfl, Nat.le_of_ble_eq_true rfl⟩ (Nat.le_of_ble_eq_true rfl) (m_Bi_waterIn hh) ?_
  refine J_lsub d_Bi_dryIn_11 ?_
  exact J_lreturn d_Bi_dryIn_12 rfl rfl
set_option maxHeartbeats 4000000 in
set_option maxRecDepth 100000 in
theorem m_Bi_spanAllows {G : xG} {h : List va_E} {p : Nat} {b : cB} {d w : Int64} (hh : h[p]? = some (bc_ b)) : XM G Y_Bi_spanAllows [.ref p, .long d, .long w] (1, h) (.inl (some (.int (s_sa b d w))), (1, h), 0, 0) := by
  refine XM_of (by decide +kernel) (Nat.le_of_ble_eq_true rfl) (Or.inl rfl) ?_
  refine J_aload_n d_Bi_spanAllows_0 rfl rfl ?_
  refine J_get d_Bi_spanAllows_1 xf_Bi_24 hh rfl ?_
  refine J_lload_n d_Bi_spanAllows_4 rfl rfl ?_
  refine J_ladd d_Bi_spanAllows_5 ?_
  refine J_ldc2_w d_Bi_spanAllows_6 xj_Bi_31 ?_
  refine J_aload_n d_Bi_spanAllows_9 rfl rfl ?_
  refine J_callP (xGo_v0 d_Bi_spanAllows_10 xc_Bi_27 hh rfl rfl) ⟨xq_Bi_grams.1, xq_Bi_grams.2.1⟩ ⟨Nat.le_of_ble_eq_true rfl, Nat.le_of_ble_eq_true rfl, Nat.le_of_ble_eq_true rfl, Nat.le_of_ble_eq_true rfl⟩ (Nat.le_of_ble_eq_true rfl) (m_Bi_grams hh) ?_
  refine J_lload_n d_Bi_spanAllows_13 rfl rfl ?_
  refine J_ladd d_Bi_spanAllows_14 ?_
  refine J_lload_n d_Bi_spanAllows_15 rfl rfl ?_
  refine J_ladd d_Bi_spanAllows_16 ?_
  refine J_callP (xGo_n3 d_Bi_spanAllows_17 xc_Bi_36) ⟨xq_RF_portion.1, xq_RF_portion.2.1⟩ ⟨Nat.le_of_ble_eq_true rfl, Nat.le_of_ble_eq_true rfl, Nat.le_of_ble_eq_true rfl, Nat.le_of_ble_eq_true rfl⟩ (Nat.le_of_ble_eq_true rfl) m_portion ?_
  refine J_lstore d_Bi_spanAllows_20 (by decide) ?_
  refine J_lload d_Bi_spanAllows_22 rfl ?_
  refine J_aload_n d_Bi_spanAllows_24 rfl rfl ?_
  refine J_get d_Bi_spanAllows_25 xf_Bi_44 hh rfl ?_
  refine J_i2l d_Bi_spanAllows_28 ?_
  refine J_lcmp d_Bi_spanAllows_29 ?_
  refine J_lif_lt (tgt := 48) d_Bi_spanAllows_30 (by decide) (fun c30 => ?_) (fun c30 => ?_)
  · skip
    refine J_iconst (v := 0) d_Bi_spanAllows_48 (by decide) ?_
    exact J_zreturn d_Bi_spanAllows_49 rfl rfl (by simp only [s_sa, s_sp, c30, if_true, if_false, not_true_eq_false, not_false_eq_true, and_true, true_and, and_false, false_and, or_true, true_or, or_false, false_or, and_self, or_self])
  · skip
    refine J_lload d_Bi_spanAllows_33 rfl ?_
    refine J_aload_n d_Bi_spanAllows_35 rfl rfl ?_
    refine J_get d_Bi_spanAllows_36 xf_Bi_17 hh rfl ?_
    refine J_i2l d_Bi_spanAllows_39 ?_
    refine J_lcmp d_Bi_spanAllows_40 ?_
    refine J_lif_gt (tgt := 48) d_Bi_spanAllows_41 (by decide) (fun c41 => ?_) (fun c41 => ?_)
    · skip
      refine J_iconst (v := 0) d_Bi_spanAllows_48 (by decide) ?_
      exact J_zreturn d_Bi_spanAllows_49 rfl rfl (by simp only [s_sa, s_sp, c30, c41, if_true, if_false, not_true_eq_false, not_false_eq_true, and_true, true_and, and_false, false_and, or_true, true_or, or_false, false_or, and_self, or_self])
    · skip
      refine J_iconst (v := 1) d_Bi_spanAllows_44 (by decide) ?_
      refine J_goto (tgt := 49) d_Bi_spanAllows_45 (by decide) ?_
      exact J_zreturn d_Bi_spanAllows_49 rfl rfl (by simp only [s_sa, s_sp, c30, c41, if_true, if_false, not_true_eq_false, not_false_eq_true, and_true, true_and, and_false, false_and, or_true, true_or, or_false, false_or, and_self, or_self])
set_option maxHeartbeats 4000000 in
set_option maxRecDepth 100000 in
theorem m_Bi_change {G : xG} {h : List va_E} {p : Nat} {b : cB} {d w : Int64} (hh : h[p]? = some (bc_ b)) : XM G Y_Bi_change [.ref p, .long d, .long w] (1, h) (.inl (none), (0, h.set p (bc_ (s_ch b d w))), 0, 0) := by
  refine XM_of (by decide +kernel) (Nat.le_of_ble_eq_true rfl) (Or.inl rfl) ?_
  refine J_aload_n d_Bi_change_0 rfl rfl ?_
  refine J_dup d_Bi_change_1 ?_
  refine J_get d_Bi_change_2 xf_Bi_21 hh rfl ?_
  refine J_lload_n d_Bi_change_5 rfl rfl ?_
  refine J_ladd d_Bi_change_6 ?_
  refine J_put d_Bi_change_7 xf_Bi_21 xt_Bi (fun _ _ _ h => by cases h; rfl) rfl rfl hh (Nat.le_of_ble_eq_true rfl) ?_
  refine J_aload_n d_Bi_change_10 rfl rfl ?_
  refine J_dup d_Bi_change_11 ?_
  refine J_get d_Bi_change_12 xf_Bi_24 (xset_get hh) rfl ?_
  refine J_lload_n d_Bi_change_15 rfl rfl ?_
  refine J_ladd d_Bi_change_16 ?_
  refine J_put d_Bi_change_17 xf_Bi_24 xt_Bi (fun _ _ _ h => by cases h; rfl) rfl rfl (xset_get hh) (Nat.le_of_ble_eq_true rfl) ?_
  exact J_return d_Bi_change_20 rfl (by rw [List.set_set]; rfl)
set_option maxHeartbeats 4000000 in
set_option maxRecDepth 100000 in
theorem m_Sh_of {G : xG} {h : List va_E} {p : Nat} {a b : Int32} {v : Int64} (hh : h[p]? = some (.inr (1, [.int a, .int b]))) : XM G Y_Sh_of [.ref p, .long v] (1, h) (.inl (some (.long (s_po v a.toInt64 b.toInt64))), (1, h), 0, 0) := by
  refine XM_of (by decide +kernel) (Nat.le_of_ble_eq_true rfl) (Or.inl rfl) ?_
  refine J_lload_n d_Sh_of_0 rfl rfl ?_
  refine J_aload_n d_Sh_of_1 rfl rfl ?_
  refine J_get d_Sh_of_2 xf_Sh_7 hh rfl ?_
  refine J_i2l d_Sh_of_5 ?_
  refine J_aload_n d_Sh_of_6 rfl rfl ?_
  refine J_get d_Sh_of_7 xf_Sh_13 hh rfl ?_
  refine J_i2l d_Sh_of_10 ?_
  refine J_callP (xGo_n3 d_Sh_of_11 xc_Sh_16) ⟨xq_RF_portion.1, xq_RF_portion.2.1⟩ ⟨Nat.le_of_ble_eq_true rfl, Nat.le_of_ble_eq_true rfl, Nat.le_of_ble_eq_true rfl, Nat.le_of_ble_eq_true rfl⟩ (Nat.le_of_ble_eq_true rfl) m_portion ?_
  exact J_lreturn d_Sh_of_14 rfl rfl
set_option maxHeartbeats 4000000 in
set_option maxRecDepth 100000 in
theorem m_Pa_tell {G : xG} {h : List va_E} {p : Nat} {q : cP} {v1 v2 v3 v4 v5 : Int64} (hh : h[p]? = some (pc_ q)) : XM G Y_Pa_tell [.ref p, .long v1, .long v2, .long v3, .long v4, .long v5] (1, h) (.inl (none), (0, h.set p (pc_ (v1, v3 - v4, v2, v4, v5))), 0, 0) := by
  refine XM_of (by decide +kernel) (Nat.le_of_ble_eq_true rfl) (Or.inl rfl) ?_
  refine J_aload_n d_Pa_tell_0 rfl rfl ?_
  refine J_lload_n d_Pa_tell_1 rfl rfl ?_
  refine J_put d_Pa_tell_2 xf_Pa_9 xt_Pa (fun _ _ _ h => by cases h; rfl) rfl rfl hh (Nat.le_of_ble_eq_true rfl) ?_
  refine J_aload_n d_Pa_tell_5 rfl rfl ?_
  refine J_lload d_Pa_tell_6 rfl ?_
  refine J_lload d_Pa_tell_8 rfl ?_
  refine J_lsub d_Pa_tell_10 ?_
  refine J_put d_Pa_tell_11 xf_Pa_15 xt_Pa (fun _ _ _ h => by cases h; rfl) rfl rfl (xset_get hh) (Nat.le_of_ble_eq_true rfl) ?_
  refine J_aload_n d_Pa_tell_14 rfl rfl ?_
  refine J_lload_n d_Pa_tell_15 rfl rfl ?_
  refine J_put d_Pa_tell_16 xf_Pa_18 xt_Pa (fun _ _ _ h => by cases h; rfl) rfl rfl (xset_get (xset_get hh)) (Nat.le_of_ble_eq_true rfl) ?_
  refine J_aload_n d_Pa_tell_19 rfl rfl ?_
  refine J_lload d_Pa_tell_20 rfl ?_
  refine J_put d_Pa_tell_22 xf_Pa_21 xt_Pa (fun _ _ _ h => by cases h; rfl) rfl rfl (xset_get (xset_get (xset_get hh))) (Nat.le_of_ble_eq_true rfl) ?_
  refine J_aload_n d_Pa_tell_25 rfl rfl ?_
  refine J_lload d_Pa_tell_26 rfl ?_
  refine J_put d_Pa_tell_28 xf_Pa_24 xt_Pa (fun _ _ _ h => by cases h; rfl) rfl rfl (xset_get (xset_get (xset_get (xset_get hh)))) (Nat.le_of_ble_eq_true rfl) ?_
  exact J_return d_Pa_tell_31 rfl (by rw [List.set_set, List.set_set, List.set_set, List.set_set]; rfl)
set_option maxHeartbeats 4000000 in
set_option maxRecDepth 100000 in
theorem m_Pa_ofKind {G : xG} {h : List va_E} {p : Nat} {q : cP} {k : Int32} (hh : h[p]? = some (pc_ q)) : XM G Y_Pa_ofKind [.ref p, .int k] (1, h) (.inl (some (.long (if k = 0 then q.1 else if k = 1 then q.2.1 else if k = 2 then q.2.2.1 else q.2.2.2.1))), (1, h), 0, 0) := by
  refine XM_of (by decide +kernel) (Nat.le_of_ble_eq_true rfl) (Or.inl rfl) ?_
  refine J_iload_n d_Pa_ofKind_0 rfl rfl ?_
  by_cases e0 : k = 0
  · subst e0
    refine J_tableIn (tgt := 28) d_Pa_ofKind_1 (by decide) (by decide) rfl (by decide) ?_
    refine J_aload_n d_Pa_ofKind_28 rfl rfl ?_
    refine J_get d_Pa_ofKind_29 xf_Pa_9 hh rfl ?_
    exact J_lreturn d_Pa_ofKind_32 rfl rfl
  by_cases e1 : k = 1
  · subst e1
    refine J_tableIn (tgt := 33) d_Pa_ofKind_1 (by decide) (by decide) rfl (by decide) ?_
    refine J_aload_n d_Pa_ofKind_33 rfl rfl ?_
    refine J_get d_Pa_ofKind_34 xf_Pa_15 hh rfl ?_
    exact J_lreturn d_Pa_ofKind_37 rfl rfl
  by_cases e2 : k = 2
  · subst e2
    refine J_tableIn (tgt := 38) d_Pa_ofKind_1 (by decide) (by decide) rfl (by decide) ?_
    refine J_aload_n d_Pa_ofKind_38 rfl rfl ?_
    refine J_get d_Pa_ofKind_39 xf_Pa_18 hh rfl ?_
    exact J_lreturn d_Pa_ofKind_42 rfl rfl
  refine J_tableOut (tgt := 43) d_Pa_ofKind_1 (by have q0 := ti (n := 0) 0 (by decide) e0; have q1 := ti (n := 1) 1 (by decide) e1; have q2 := ti (n := 2) 2 (by decide) e2; omega) (by decide) ?_
  refine J_aload_n d_Pa_ofKind_43 rfl rfl ?_
  refine J_get d_Pa_ofKind_44 xf_Pa_21 hh rfl ?_
  exact J_lreturn d_Pa_ofKind_47 rfl (by simp only [e0, e1, e2, if_true, if_false, not_true_eq_false, not_false_eq_true, and_true, true_and, and_false, false_and, or_true, true_or, or_false, false_or, and_self, or_self])
set_option maxHeartbeats 4000000 in
set_option maxRecDepth 100000 in
theorem m_Sc_tell {G : xG} {h : List va_E} {p : Nat} {q : cS} {v1 v2 v3 v4 v5 : Int32} (hh : h[p]? = some (sc_ q)) : XM G Y_Sc_tell [.ref p, .int v1, .int v2, .int v3, .int v4, .int v5] (1, h) (.inl (none), (0, h.set p (sc_ (1, v1, v2, v3, v4, v5))), 0, 0) := by
  refine XM_of (by decide +kernel) (Nat.le_of_ble_eq_true rfl) (Or.inl rfl) ?_
  refine J_aload_n d_Sc_tell_0 rfl rfl ?_
  refine J_iconst (v := 1) d_Sc_tell_1 (by decide) ?_
  refine J_put d_Sc_tell_2 xf_Sc_7 xt_Sc (fun _ _ _ h => by cases h; rfl) rfl rfl hh (Nat.le_of_ble_eq_true rfl) ?_
  refine J_aload_n d_Sc_tell_5 rfl rfl ?_
  refine J_iload_n d_Sc_tell_6 rfl rfl ?_
  refine J_put d_Sc_tell_7 xf_Sc_13 xt_Sc (fun _ _ _ h => by cases h; rfl) rfl rfl (xset_get hh) (Nat.le_of_ble_eq_true rfl) ?_
  refine J_aload_n d_Sc_tell_10 rfl rfl ?_
  refine J_iload_n d_Sc_tell_11 rfl rfl ?_
  refine J_put d_Sc_tell_12 xf_Sc_17 xt_Sc (fun _ _ _ h => by cases h; rfl) rfl rfl (xset_get (xset_get hh)) (Nat.le_of_ble_eq_true rfl) ?_
  refine J_aload_n d_Sc_tell_15 rfl rfl ?_
  refine J_iload_n d_Sc_tell_16 rfl rfl ?_
  refine J_put d_Sc_tell_17 xf_Sc_20 xt_Sc (fun _ _ _ h => by cases h; rfl) rfl rfl (xset_get (xset_get (xset_get hh))) (Nat.le_of_ble_eq_true rfl) ?_
  refine J_aload_n d_Sc_tell_20 rfl rfl ?_
  refine J_iload d_Sc_tell_21 rfl ?_
  refine J_put d_Sc_tell_23 xf_Sc_23 xt_Sc (fun _ _ _ h => by cases h; rfl) rfl rfl (xset_get (xset_get (xset_get (xset_get hh)))) (Nat.le_of_ble_eq_true rfl) ?_
  refine J_aload_n d_Sc_tell_26 rfl rfl ?_
  refine J_iload d_Sc_tell_27 rfl ?_
  refine J_put d_Sc_tell_29 xf_Sc_26 xt_Sc (fun _ _ _ h => by cases h; rfl) rfl rfl (xset_get (xset_get (xset_get (xset_get (xset_get hh))))) (Nat.le_of_ble_eq_true rfl) ?_
  exact J_return d_Sc_tell_32 rfl (by rw [List.set_set, List.set_set, List.set_set, List.set_set, List.set_set]; rfl)
end
section
section XC1
variable {G : xG} {sa sb : Int32 × Int32} {lt tt : cP} {lg bc : Int32} {gi go : Int64} {sh : Int32} {bn : Nat → cB} {sc : Nat → cS} {rw : Int32} {dy pt : Nat → Int32} {R : List va_E}
def okK (k : Int32) : Prop := ¬ k < 0 ∧ k < 4
def okP (k w : Int32) : Prop := ¬ k < 0 ∧ ¬ 1000000 < k ∧ ¬ w < 0 ∧ w ≤ 1000
def okT (k : Int32) : Prop := ¬ k < 1 ∧ k ≤ 1000000
def okD (d : Int32) : Prop := ¬ d < 0 ∧ d < 365
def okE (b : cB) (k : Int32) : Prop := k.toInt64 * 1000 ≤ s_gr b
set_option maxHeartbeats 4000000 in
set_option maxRecDepth 100000 in
theorem m_checkKind {k : Int32} : (okK k → XM G Y_RF_checkKind [.int k] (1, ch sa sb lt tt lg bc gi go sh bn sc rw dy pt R) (.inl (none), (1, ch sa sb lt tt lg bc gi go sh bn sc rw dy pt R), 0, 0)) ∧ (¬ okK k → XM G Y_RF_checkKind [.int k] (1, ch sa sb lt tt lg bc gi go sh bn sc rw dy pt R) (.inr "java/lang/IndexOutOfBoundsException", (0, ch sa sb lt tt lg bc gi go sh bn sc rw dy pt R), 1, 6)) := by
  refine XM_if (fun r ha hb => ?_)
  refine XM_of (by decide +kernel) (Nat.le_of_ble_eq_true rfl) (Or.inl rfl) ?_
  refine J_iload_n d_RF_checkKind_0 rfl rfl ?_
  refine J_if_lt (tgt := 9) d_RF_checkKind_1 (by decide) (fun c1 => ?_) (fun c1 => ?_)
  · skip
    exact J_throwW xh_RF_52 xs_RF_280 ⟨Nat.le_of_ble_eq_true rfl, Nat.le_of_ble_eq_true rfl, Nat.le_of_ble_eq_true rfl, Nat.le_of_ble_eq_true rfl⟩ rfl d_RF_checkKind_9 d_RF_checkKind_12 d_RF_checkKind_13 d_RF_checkKind_16 d_RF_checkKind_19 rfl rfl (hb (fun q => absurd c1 q.1))
  · skip
    refine J_iload_n d_RF_checkKind_4 rfl rfl ?_
    refine J_iconst (v := 4) d_RF_checkKind_5 (by decide) ?_
    refine J_icmp_lt (tgt := 20) d_RF_checkKind_6 (by decide) (fun c6 => ?_) (fun c6 => ?_)
    · skip
      exact J_return d_RF_checkKind_20 rfl (ha ⟨c1, c6⟩)
    · skip
      exact J_throwW xh_RF_52 xs_RF_280 ⟨Nat.le_of_ble_eq_true rfl, Nat.le_of_ble_eq_true rfl, Nat.le_of_ble_eq_true rfl, Nat.le_of_ble_eq_true rfl⟩ rfl d_RF_checkKind_9 d_RF_checkKind_12 d_RF_checkKind_13 d_RF_checkKind_16 d_RF_checkKind_19 rfl rfl (hb (fun q => absurd q.2 c6))
set_option maxHeartbeats 4000000 in
set_option maxRecDepth 100000 in
theorem m_checkLogs  : (¬ lg = 0 → XM G Y_RF_checkLogs [.ref 0] (1, ch sa sb lt tt lg bc gi go sh bn sc rw dy pt R) (.inl (none), (1, ch sa sb lt tt lg bc gi go sh bn sc rw dy pt R), 0, 0)) ∧ (¬ ¬ lg = 0 → XM G Y_RF_checkLogs [.ref 0] (1, ch sa sb lt tt lg bc gi go sh bn sc rw dy pt R) (.inr "java/lang/IllegalStateException", (0, ch sa sb lt tt lg bc gi go sh bn sc rw dy pt R), 1, 6)) := by
  refine XM_if (fun r ha hb => ?_)
  refine XM_of (by decide +kernel) (Nat.le_of_ble_eq_true rfl) (Or.inl rfl) ?_
  refine J_aload_n d_RF_checkLogs_0 rfl rfl ?_
  refine J_get d_RF_checkLogs_1 xf_RF_91 rfl rfl ?_
  refine J_if_ne (tgt := 18) d_RF_checkLogs_4 (by decide) (fun c4 => ?_) (fun c4 => ?_)
  · skip
    exact J_return d_RF_checkLogs_18 rfl (ha c4)
  · skip
    exact J_throwW xh_RF_115 xs_RF_282 ⟨Nat.le_of_ble_eq_true rfl, Nat.le_of_ble_eq_true rfl, Nat.le_of_ble_eq_true rfl, Nat.le_of_ble_eq_true rfl⟩ rfl d_RF_checkLogs_7 d_RF_checkLogs_10 d_RF_checkLogs_11 d_RF_checkLogs_14 d_RF_checkLogs_17 rfl rfl (hb c4)
set_option maxHeartbeats 4000000 in
set_option maxRecDepth 100000 in
theorem m_checkPoured {k w : Int32} : (okP k w → XM G Y_RF_checkPoured [.int k, .int w] (1, ch sa sb lt tt lg bc gi go sh bn sc rw dy pt R) (.inl (none), (1, ch sa sb lt tt lg bc gi go sh bn sc rw dy pt R), 0, 0)) ∧ (¬ okP k w → XM G Y_RF_checkPoured [.int k, .int w] (1, ch sa sb lt tt lg bc gi go sh bn sc rw dy pt R) (.inr "java/lang/IllegalArgumentException", (0, ch sa sb lt tt lg bc gi go sh bn sc rw dy pt R), 1, 6)) := by
  refine XM_if (fun r ha hb => ?_)
  refine XM_of (by decide +kernel) (Nat.le_of_ble_eq_true rfl) (Or.inl rfl) ?_
  refine J_iload_n d_RF_checkPoured_0 rfl rfl ?_
  refine J_if_lt (tgt := 21) d_RF_checkPoured_1 (by decide) (fun c1 => ?_) (fun c1 => ?_)
  · skip
    exact J_throwW xh_RF_59 xs_RF_284 ⟨Nat.le_of_ble_eq_true rfl, Nat.le_of_ble_eq_true rfl, Nat.le_of_ble_eq_true rfl, Nat.le_of_ble_eq_true rfl⟩ rfl d_RF_checkPoured_21 d_RF_checkPoured_24 d_RF_checkPoured_25 d_RF_checkPoured_28 d_RF_checkPoured_31 rfl rfl (hb (fun q => q.1 c1))
  · skip
    refine J_iload_n d_RF_checkPoured_4 rfl rfl ?_
    refine J_ldc d_RF_checkPoured_5 xi_RF_109 ?_
    refine J_icmp_gt (tgt := 21) d_RF_checkPoured_7 (by decide) (fun c7 => ?_) (fun c7 => ?_)
    · skip
      exact J_throwW xh_RF_59 xs_RF_284 ⟨Nat.le_of_ble_eq_true rfl, Nat.le_of_ble_eq_true rfl, Nat.le_of_ble_eq_true rfl, Nat.le_of_ble_eq_true rfl⟩ rfl d_RF_checkPoured_21 d_RF_checkPoured_24 d_RF_checkPoured_25 d_RF_checkPoured_28 d_RF_checkPoured_31 rfl rfl (hb (fun q => q.2.1 c7))
    · skip
      refine J_iload_n d_RF_checkPoured_10 rfl rfl ?_
      refine J_if_lt (tgt := 21) d_RF_checkPoured_11 (by decide) (fun c11 => ?_) (fun c11 => ?_)
      · skip
        exact J_throwW xh_RF_59 xs_RF_284 ⟨Nat.le_of_ble_eq_true rfl, Nat.le_of_ble_eq_true rfl, Nat.le_of_ble_eq_true rfl, Nat.le_of_ble_eq_true rfl⟩ rfl d_RF_checkPoured_21 d_RF_checkPoured_24 d_RF_checkPoured_25 d_RF_checkPoured_28 d_RF_checkPoured_31 rfl rfl (hb (fun q => q.2.2.1 c11))
      · skip
        refine J_iload_n d_RF_checkPoured_14 rfl rfl ?_
        refine J_sipush (v := 1000) d_RF_checkPoured_15 (by decide) ?_
        refine J_icmp_le (tgt := 32) d_RF_checkPoured_18 (by decide) (fun c18 => ?_) (fun c18 => ?_)
        · skip
          exact J_return d_RF_checkPoured_32 rfl (ha ⟨c1, c7, c11, c18⟩)
        · skip
          exact J_throwW xh_RF_59 xs_RF_284 ⟨Nat.le_of_ble_eq_true rfl, Nat.le_of_ble_eq_true rfl, Nat.le_of_ble_eq_true rfl, Nat.le_of_ble_eq_true rfl⟩ rfl d_RF_checkPoured_21 d_RF_checkPoured_24 d_RF_checkPoured_25 d_RF_checkPoured_28 d_RF_checkPoured_31 rfl rfl (hb (fun q => absurd q.2.2.2 c18))
set_option maxHeartbeats 4000000 in
set_option maxRecDepth 100000 in
theorem m_checkTaken {k : Int32} : (okT k → XM G Y_RF_checkTaken [.int k] (1, ch sa sb lt tt lg bc gi go sh bn sc rw dy pt R) (.inl (none), (1, ch sa sb lt tt lg bc gi go sh bn sc rw dy pt R), 0, 0)) ∧ (¬ okT k → XM G Y_RF_checkTaken [.int k] (1, ch sa sb lt tt lg bc gi go sh bn sc rw dy pt R) (.inr "java/lang/IllegalArgumentException", (0, ch sa sb lt tt lg bc gi go sh bn sc rw dy pt R), 1, 6)) := by
  refine XM_if (fun r ha hb => ?_)
  refine XM_of (by decide +kernel) (Nat.le_of_ble_eq_true rfl) (Or.inl rfl) ?_
  refine J_iload_n d_RF_checkTaken_0 rfl rfl ?_
  refine J_iconst (v := 1) d_RF_checkTaken_1 (by decide) ?_
  refine J_icmp_lt (tgt := 11) d_RF_checkTaken_2 (by decide) (fun c2 => ?_) (fun c2 => ?_)
  · skip
    exact J_throwW xh_RF_59 xs_RF_286 ⟨Nat.le_of_ble_eq_true rfl, Nat.le_of_ble_eq_true rfl, Nat.le_of_ble_eq_true rfl, Nat.le_of_ble_eq_true rfl⟩ rfl d_RF_checkTaken_11 d_RF_checkTaken_14 d_RF_checkTaken_15 d_RF_checkTaken_18 d_RF_checkTaken_21 rfl rfl (hb (fun q => q.1 c2))
  · skip
    refine J_iload_n d_RF_checkTaken_5 rfl rfl ?_
    refine J_ldc d_RF_checkTaken_6 xi_RF_109 ?_
    refine J_icmp_le (tgt := 22) d_RF_checkTaken_8 (by decide) (fun c8 => ?_) (fun c8 => ?_)
    · skip
      exact J_return d_RF_checkTaken_22 rfl (ha ⟨c2, c8⟩)
    · skip
      exact J_throwW xh_RF_59 xs_RF_286 ⟨Nat.le_of_ble_eq_true rfl, Nat.le_of_ble_eq_true rfl, Nat.le_of_ble_eq_true rfl, Nat.le_of_ble_eq_true rfl⟩ rfl d_RF_checkTaken_11 d_RF_checkTaken_14 d_RF_checkTaken_15 d_RF_checkTaken_18 d_RF_checkTaken_21 rfl rfl (hb (fun q => absurd q.2 c8))
set_option maxHeartbeats 4000000 in
set_option maxRecDepth 100000 in
theorem m_checkDay {k : Int32} : (okD k → XM G Y_RF_checkDay [.int k] (1, ch sa sb lt tt lg bc gi go sh bn sc rw dy pt R) (.inl (none), (1, ch sa sb lt tt lg bc gi go sh bn sc rw dy pt R), 0, 0)) ∧ (¬ okD k → XM G Y_RF_checkDay [.int k] (1, ch sa sb lt tt lg bc gi go sh bn sc rw dy pt R) (.inr "java/lang/IllegalArgumentException", (0, ch sa sb lt tt lg bc gi go sh bn sc rw dy pt R), 1, 6)) := by
  refine XM_if (fun r ha hb => ?_)
  refine XM_of (by decide +kernel) (Nat.le_of_ble_eq_true rfl) (Or.inl rfl) ?_
  refine J_iload_n d_RF_checkDay_0 rfl rfl ?_
  refine J_if_lt (tgt := 11) d_RF_checkDay_1 (by decide) (fun c1 => ?_) (fun c1 => ?_)
  · skip
    exact J_throwW xh_RF_59 xs_RF_288 ⟨Nat.le_of_ble_eq_true rfl, Nat.le_of_ble_eq_true rfl, Nat.le_of_ble_eq_true rfl, Nat.le_of_ble_eq_true rfl⟩ rfl d_RF_checkDay_11 d_RF_checkDay_14 d_RF_checkDay_15 d_RF_checkDay_18 d_RF_checkDay_21 rfl rfl (hb (fun q => q.1 c1))
  · skip
    refine J_iload_n d_RF_checkDay_4 rfl rfl ?_
    refine J_sipush (v := 365) d_RF_checkDay_5 (by decide) ?_
    refine J_icmp_lt (tgt := 22) d_RF_checkDay_8 (by decide) (fun c8 => ?_) (fun c8 => ?_)
    · skip
      exact J_return d_RF_checkDay_22 rfl (ha ⟨c1, c8⟩)
    · skip
      exact J_throwW xh_RF_59 xs_RF_288 ⟨Nat.le_of_ble_eq_true rfl, Nat.le_of_ble_eq_true rfl, Nat.le_of_ble_eq_true rfl, Nat.le_of_ble_eq_true rfl⟩ rfl d_RF_checkDay_11 d_RF_checkDay_14 d_RF_checkDay_15 d_RF_checkDay_18 d_RF_checkDay_21 rfl rfl (hb (fun q => absurd q.2 c8))
set_option maxHeartbeats 4000000 in
set_option maxRecDepth 100000 in
theorem m_checkEnough {i : Nat} {k : Int32} (hi : i < 8) : (okE (bn i) k → XM G Y_RF_checkEnough [.ref (6 + i), .int k] (1, ch sa sb lt tt lg bc gi go sh bn sc rw dy pt R) (.inl (none), (1, ch sa sb lt tt lg bc gi go sh bn sc rw dy pt R), 0, 0)) ∧ (¬ okE (bn i) k → XM G Y_RF_checkEnough [.ref (6 + i), .int k] (1, ch sa sb lt tt lg bc gi go sh bn sc rw dy pt R) (.inr "java/lang/IllegalStateException", (0, ch sa sb lt tt lg bc gi go sh bn sc rw dy pt R), 1, 6)) := by
  refine XM_if (fun r ha hb => ?_)
  refine XM_of (by decide +kernel) (Nat.le_of_ble_eq_true rfl) (Or.inl rfl) ?_
  refine J_iload_n d_RF_checkEnough_0 rfl rfl ?_
  refine J_i2l d_RF_checkEnough_1 ?_
  refine J_ldc2_w d_RF_checkEnough_2 xj_RF_290 ?_
  refine J_lmul d_RF_checkEnough_5 ?_
  refine J_aload_n d_RF_checkEnough_6 rfl rfl ?_
  refine J_callP (xGo_v0 d_RF_checkEnough_7 xc_RF_150 (ch_bin hi) rfl rfl) ⟨xq_Bi_grams.1, xq_Bi_grams.2.1⟩ ⟨Nat.le_of_ble_eq_true rfl, Nat.le_of_ble_eq_true rfl, Nat.le_of_ble_eq_true rfl, Nat.le_of_ble_eq_true rfl⟩ (Nat.le_of_ble_eq_true rfl) (m_Bi_grams (ch_bin hi)) ?_
  refine J_lcmp d_RF_checkEnough_10 ?_
  refine J_lif_le (tgt := 25) d_RF_checkEnough_11 (by decide) (fun c11 => ?_) (fun c11 => ?_)
  · skip
    exact J_return d_RF_checkEnough_25 rfl (ha c11)
  · skip
    exact J_throwW xh_RF_115 xs_RF_292 ⟨Nat.le_of_ble_eq_true rfl, Nat.le_of_ble_eq_true rfl, Nat.le_of_ble_eq_true rfl, Nat.le_of_ble_eq_true rfl⟩ rfl d_RF_checkEnough_14 d_RF_checkEnough_17 d_RF_checkEnough_18 d_RF_checkEnough_21 d_RF_checkEnough_24 rfl rfl (hb c11)
set_option maxHeartbeats 4000000 in
set_option maxRecDepth 100000 in
theorem m_binAt {n : Int32} (hG : gTok G) : (okB bc n → XM G Y_RF_binAt [.ref 0, .int n] (1, ch sa sb lt tt lg bc gi go sh bn sc rw dy pt R) (.inl (some (.ref (6 + n.toNatClampNeg))), (1, ch sa sb lt tt lg bc gi go sh bn sc rw dy pt R), 0, 0)) ∧ (¬ okB bc n → XM G Y_RF_binAt [.ref 0, .int n] (1, ch sa sb lt tt lg bc gi go sh bn sc rw dy pt R) (.inr "java/lang/IndexOutOfBoundsException", (0, ch sa sb lt tt lg bc gi go sh bn sc rw dy pt R), 1, 6)) := by
  refine XM_if (fun r ha hb => ?_)
  refine XM_of (by decide +kernel) (Nat.le_of_ble_eq_true rfl) (Or.inl rfl) ?_
  refine J_iload_n d_RF_binAt_0 rfl rfl ?_
  refine J_if_lt (tgt := 18) d_RF_binAt_1 (by decide) (fun c1 => ?_) (fun c1 => ?_)
  · skip
    exact J_throwW xh_RF_52 xs_RF_294 ⟨Nat.le_of_ble_eq_true rfl, Nat.le_of_ble_eq_true rfl, Nat.le_of_ble_eq_true rfl, Nat.le_of_ble_eq_true rfl⟩ rfl d_RF_binAt_18 d_RF_binAt_21 d_RF_binAt_22 d_RF_binAt_25 d_RF_binAt_28 rfl rfl (hb (fun q => q.1 c1))
  · skip
    refine J_iload_n d_RF_binAt_4 rfl rfl ?_
    refine J_aload_n d_RF_binAt_5 rfl rfl ?_
    refine J_get d_RF_binAt_6 xf_RF_112 rfl rfl ?_
    refine J_icmp_ge (tgt := 18) d_RF_binAt_9 (by decide) (fun c9 => ?_) (fun c9 => ?_)
    · skip
      exact J_throwW xh_RF_52 xs_RF_294 ⟨Nat.le_of_ble_eq_true rfl, Nat.le_of_ble_eq_true rfl, Nat.le_of_ble_eq_true rfl, Nat.le_of_ble_eq_true rfl⟩ rfl d_RF_binAt_18 d_RF_binAt_21 d_RF_binAt_22 d_RF_binAt_25 d_RF_binAt_28 rfl rfl (hb (fun q => q.2.1 c9))
    · skip
      refine J_iload_n d_RF_binAt_12 rfl rfl ?_
      refine J_bipush (v := 8) d_RF_binAt_13 (by decide) ?_
      refine J_icmp_lt (tgt := 29) d_RF_binAt_15 (by decide) (fun c15 => ?_) (fun c15 => ?_)
      · skip
        refine J_aload_n d_RF_binAt_29 rfl rfl ?_
        refine J_get d_RF_binAt_30 xf_RF_33 rfl rfl ?_
        refine J_iload_n d_RF_binAt_33 rfl rfl ?_
        refine J_aald d_RF_binAt_34 (gt3' hG) rfl (okB_lt (bc := bc) ⟨c1, c9, c15⟩).2.2 (fB_at (okB_lt (bc := bc) ⟨c1, c9, c15⟩).1) ?_
        exact J_areturn d_RF_binAt_35 rfl (ha ⟨c1, c9, c15⟩)
      · skip
        exact J_throwW xh_RF_52 xs_RF_294 ⟨Nat.le_of_ble_eq_true rfl, Nat.le_of_ble_eq_true rfl, Nat.le_of_ble_eq_true rfl, Nat.le_of_ble_eq_true rfl⟩ rfl d_RF_binAt_18 d_RF_binAt_21 d_RF_binAt_22 d_RF_binAt_25 d_RF_binAt_28 rfl rfl (hb (fun q => absurd q.2.2 c15))
set_option maxHeartbeats 4000000 in
set_option maxRecDepth 100000 in
theorem m_screenAt {n : Int32} (hG : gTok G) : (okS n → XM G Y_RF_screenAt [.ref 0, .int n] (1, ch sa sb lt tt lg bc gi go sh bn sc rw dy pt R) (.inl (some (.ref (15 + n.toNatClampNeg))), (1, ch sa sb lt tt lg bc gi go sh bn sc rw dy pt R), 0, 0)) ∧ (¬ okS n → XM G Y_RF_screenAt [.ref 0, .int n] (1, ch sa sb lt tt lg bc gi go sh bn sc rw dy pt R) (.inr "java/lang/IndexOutOfBoundsException", (0, ch sa sb lt tt lg bc gi go sh bn sc rw dy pt R), 1, 6)) := by
  refine XM_if (fun r ha hb => ?_)
  refine XM_of (by decide +kernel) (Nat.le_of_ble_eq_true rfl) (Or.inl rfl) ?_
  refine J_iload_n d_RF_screenAt_0 rfl rfl ?_
  refine J_if_lt (tgt := 9) d_RF_screenAt_1 (by decide) (fun c1 => ?_) (fun c1 => ?_)
  · skip
    exact J_throwW xh_RF_52 xs_RF_296 ⟨Nat.le_of_ble_eq_true rfl, Nat.le_of_ble_eq_true rfl, Nat.le_of_ble_eq_true rfl, Nat.le_of_ble_eq_true rfl⟩ rfl d_RF_screenAt_9 d_RF_screenAt_12 d_RF_screenAt_13 d_RF_screenAt_16 d_RF_screenAt_19 rfl rfl (hb (fun q => q.1 c1))
  · skip
    refine J_iload_n d_RF_screenAt_4 rfl rfl ?_
    refine J_iconst (v := 4) d_RF_screenAt_5 (by decide) ?_
    refine J_icmp_lt (tgt := 20) d_RF_screenAt_6 (by decide) (fun c6 => ?_) (fun c6 => ?_)
    · skip
      refine J_aload_n d_RF_screenAt_20 rfl rfl ?_
      refine J_get d_RF_screenAt_21 xf_RF_40 rfl rfl ?_
      refine J_iload_n d_RF_screenAt_24 rfl rfl ?_
      refine J_aald d_RF_screenAt_25 (gt4' hG) rfl (okS_lt ⟨c1, c6⟩).2.2 (fS_at (okS_lt ⟨c1, c6⟩).1) ?_
      exact J_areturn d_RF_screenAt_26 rfl (ha ⟨c1, c6⟩)
    · skip
      exact J_throwW xh_RF_52 xs_RF_296 ⟨Nat.le_of_ble_eq_true rfl, Nat.le_of_ble_eq_true rfl, Nat.le_of_ble_eq_true rfl, Nat.le_of_ble_eq_true rfl⟩ rfl d_RF_screenAt_9 d_RF_screenAt_12 d_RF_screenAt_13 d_RF_screenAt_16 d_RF_screenAt_19 rfl rfl (hb (fun q => absurd q.2 c6))
end XC1
end
section
section XC2
theorem vf_us {α : Type} {f : Nat → α} {k : Nat} {x : α} : vf_upd f k x k = x := if_pos rfl
theorem vf_un {α : Type} {f : Nat → α} {k j : Nat} {x : α} (h : ¬ j = k) : vf_upd f k x j = f j := if_neg h
theorem vf_uu {α : Type} {f : Nat → α} {k : Nat} {x z : α} : vf_upd (vf_upd f k x) k z = vf_upd f k z := by
  funext j
  unfold vf_upd
  by_cases h : j = k <;> simp [h]
theorem J_heap {G : xG} {y : xY} {k : Nat × Nat} {pc : Nat} {L : List (Nat × Value)} {st : List Value} {w : xH} {r : xR} {h2 : List va_E} (e : w.2 = h2) (h : JW G y k pc L st (w.1, h2) r) : JW G y k pc L st w r := by
  subst e
  exact h
variable {G : xG} {sa sb : Int32 × Int32} {lt tt : cP} {lg bc : Int32} {gi go : Int64} {sh : Int32} {bn : Nat → cB} {sc : Nat → cS} {rw : Int32} {dy pt : Nat → Int32} {R : List va_E}
set_option maxHeartbeats 4000000 in
set_option maxRecDepth 100000 in
theorem m_share {t a b : Int32} : XM G Y_RF_share [.ref 0, .int t, .int a, .int b] (1, ch sa sb lt tt lg bc gi go sh bn sc rw dy pt R) (xif (¬ t < 0 ∧ t ≤ 1) (xif (¬ b < 1 ∧ ¬ 10 < b ∧ ¬ a < 0 ∧ a ≤ b) (xif (t = 0) (.inl (none), (0, ch ((a, b)) sb lt tt lg bc gi go sh bn sc rw dy pt R), 0, 0) (.inl (none), (0, ch sa ((a, b)) lt tt lg bc gi go sh bn sc rw dy pt R), 0, 0)) (.inr "java/lang/IllegalArgumentException", (0, ch sa sb lt tt lg bc gi go sh bn sc rw dy pt R), 1, 6)) (.inr "java/lang/IndexOutOfBoundsException", (0, ch sa sb lt tt lg bc gi go sh bn sc rw dy pt R), 1, 6)) := by
  refine XM_of (by decide +kernel) (Nat.le_of_ble_eq_true rfl) (Or.inl rfl) ?_
  refine J_iload_n d_RF_share_0 rfl rfl ?_
  refine J_if_lt (tgt := 9) d_RF_share_1 (by decide) (fun c1 => ?_) (fun c1 => ?_)
  · skip
    exact J_throw xh_RF_52 xs_RF_54 ⟨Nat.le_of_ble_eq_true rfl, Nat.le_of_ble_eq_true rfl, Nat.le_of_ble_eq_true rfl, Nat.le_of_ble_eq_true rfl⟩ rfl d_RF_share_9 d_RF_share_12 d_RF_share_13 d_RF_share_15 d_RF_share_18 rfl rfl (by simp only [xif, c1, Classical.not_not, if_true, if_false, not_true_eq_false, not_false_eq_true, and_true, true_and, and_false, false_and, or_true, true_or, or_false, false_or, and_self, or_self] <;> rfl)
  · skip
    refine J_iload_n d_RF_share_4 rfl rfl ?_
    refine J_iconst (v := 1) d_RF_share_5 (by decide) ?_
    refine J_icmp_le (tgt := 19) d_RF_share_6 (by decide) (fun c6 => ?_) (fun c6 => ?_)
    · skip
      refine J_iload_n d_RF_share_19 rfl rfl ?_
      refine J_iconst (v := 1) d_RF_share_20 (by decide) ?_
      refine J_icmp_lt (tgt := 39) d_RF_share_21 (by decide) (fun c21 => ?_) (fun c21 => ?_)
      · skip
        exact J_throw xh_RF_59 xs_RF_61 ⟨Nat.le_of_ble_eq_true rfl, Nat.le_of_ble_eq_true rfl, Nat.le_of_ble_eq_true rfl, Nat.le_of_ble_eq_true rfl⟩ rfl d_RF_share_39 d_RF_share_42 d_RF_share_43 d_RF_share_45 d_RF_share_48 rfl rfl (by simp only [xif, c1, c6, c21, Classical.not_not, if_true, if_false, not_true_eq_false, not_false_eq_true, and_true, true_and, and_false, false_and, or_true, true_or, or_false, false_or, and_self, or_self] <;> rfl)
      · skip
        refine J_iload_n d_RF_share_24 rfl rfl ?_
        refine J_bipush (v := 10) d_RF_share_25 (by decide) ?_
        refine J_icmp_gt (tgt := 39) d_RF_share_27 (by decide) (fun c27 => ?_) (fun c27 => ?_)
        · skip
          exact J_throw xh_RF_59 xs_RF_61 ⟨Nat.le_of_ble_eq_true rfl, Nat.le_of_ble_eq_true rfl, Nat.le_of_ble_eq_true rfl, Nat.le_of_ble_eq_true rfl⟩ rfl d_RF_share_39 d_RF_share_42 d_RF_share_43 d_RF_share_45 d_RF_share_48 rfl rfl (by simp only [xif, c1, c6, c21, c27, Classical.not_not, if_true, if_false, not_true_eq_false, not_false_eq_true, and_true, true_and, and_false, false_and, or_true, true_or, or_false, false_or, and_self, or_self] <;> rfl)
        · skip
          refine J_iload_n d_RF_share_30 rfl rfl ?_
          refine J_if_lt (tgt := 39) d_RF_share_31 (by decide) (fun c31 => ?_) (fun c31 => ?_)
          · skip
            exact J_throw xh_RF_59 xs_RF_61 ⟨Nat.le_of_ble_eq_true rfl, Nat.le_of_ble_eq_true rfl, Nat.le_of_ble_eq_true rfl, Nat.le_of_ble_eq_true rfl⟩ rfl d_RF_share_39 d_RF_share_42 d_RF_share_43 d_RF_share_45 d_RF_share_48 rfl rfl (by simp only [xif, c1, c6, c21, c27, c31, Classical.not_not, if_true, if_false, not_true_eq_false, not_false_eq_true, and_true, true_and, and_false, false_and, or_true, true_or, or_false, false_or, and_self, or_self] <;> rfl)
          · skip
            refine J_iload_n d_RF_share_34 rfl rfl ?_
            refine J_iload_n d_RF_share_35 rfl rfl ?_
            refine J_icmp_le (tgt := 49) d_RF_share_36 (by decide) (fun c36 => ?_) (fun c36 => ?_)
            · skip
              refine J_iload_n d_RF_share_49 rfl rfl ?_
              refine J_if_ne (tgt := 60) d_RF_share_50 (by decide) (fun c50 => ?_) (fun c50 => ?_)
              · skip
                refine J_aload_n d_RF_share_60 rfl rfl ?_
                refine J_get d_RF_share_61 xf_RF_18 rfl rfl ?_
                refine J_astore d_RF_share_64 (by decide) ?_
                refine J_aload d_RF_share_66 rfl ?_
                refine J_iload_n d_RF_share_68 rfl rfl ?_
                refine J_put d_RF_share_69 xf_RF_64 xt_Sh (fun _ _ _ h => by cases h; rfl) rfl rfl rfl (Nat.le_of_ble_eq_true rfl) ?_
                refine J_aload d_RF_share_72 rfl ?_
                refine J_iload_n d_RF_share_74 rfl rfl ?_
                refine J_put d_RF_share_75 xf_RF_68 xt_Sh (fun _ _ _ h => by cases h; rfl) rfl rfl rfl (Nat.le_of_ble_eq_true rfl) ?_
                exact J_return d_RF_share_78 rfl (by simp only [xif, c1, c6, c21, c27, c31, c36, c50, Classical.not_not, if_true, if_false, not_true_eq_false, not_false_eq_true, and_true, true_and, and_false, false_and, or_true, true_or, or_false, false_or, and_self, or_self] <;> rfl)
              · skip
                have c50 := Classical.not_not.mp c50
                refine J_aload_n d_RF_share_53 rfl rfl ?_
                refine J_get d_RF_share_54 xf_RF_12 rfl rfl ?_
                refine J_goto (tgt := 64) d_RF_share_57 (by decide) ?_
                refine J_astore d_RF_share_64 (by decide) ?_
                refine J_aload d_RF_share_66 rfl ?_
                refine J_iload_n d_RF_share_68 rfl rfl ?_
                refine J_put d_RF_share_69 xf_RF_64 xt_Sh (fun _ _ _ h => by cases h; rfl) rfl rfl rfl (Nat.le_of_ble_eq_true rfl) ?_
                refine J_aload d_RF_share_72 rfl ?_
                refine J_iload_n d_RF_share_74 rfl rfl ?_
                refine J_put d_RF_share_75 xf_RF_68 xt_Sh (fun _ _ _ h => by cases h; rfl) rfl rfl rfl (Nat.le_of_ble_eq_true rfl) ?_
                exact J_return d_RF_share_78 rfl (by simp only [xif, c1, c6, c21, c27, c31, c36, c50, Classical.not_not, if_true, if_false, not_true_eq_false, not_false_eq_true, and_true, true_and, and_false, false_and, or_true, true_or, or_false, false_or, and_self, or_self] <;> rfl)
            · skip
              exact J_throw xh_RF_59 xs_RF_61 ⟨Nat.le_of_ble_eq_true rfl, Nat.le_of_ble_eq_true rfl, Nat.le_of_ble_eq_true rfl, Nat.le_of_ble_eq_true rfl⟩ rfl d_RF_share_39 d_RF_share_42 d_RF_share_43 d_RF_share_45 d_RF_share_48 rfl rfl (by simp only [xif, c1, c6, c21, c27, c31, c36, Classical.not_not, if_true, if_false, not_true_eq_false, not_false_eq_true, and_true, true_and, and_false, false_and, or_true, true_or, or_false, false_or, and_self, or_self] <;> rfl)
    · skip
      exact J_throw xh_RF_52 xs_RF_54 ⟨Nat.le_of_ble_eq_true rfl, Nat.le_of_ble_eq_true rfl, Nat.le_of_ble_eq_true rfl, Nat.le_of_ble_eq_true rfl⟩ rfl d_RF_share_9 d_RF_share_12 d_RF_share_13 d_RF_share_15 d_RF_share_18 rfl rfl (by simp only [xif, c1, c6, Classical.not_not, if_true, if_false, not_true_eq_false, not_false_eq_true, and_true, true_and, and_false, false_and, or_true, true_or, or_false, false_or, and_self, or_self] <;> rfl)
def s_lw (v : Int32) : Int64 := v.toInt64 * 63504000
def s_lb (sa : Int32 × Int32) (v : Int32) : Int64 := s_po (s_lw v) sa.1.toInt64 sa.2.toInt64
def s_ll (sa : Int32 × Int32) (v b k : Int32) : Int64 := s_lw v - s_lb sa v - b.toInt64 * 25200 - k.toInt64 * 25200
def s_lp (sa sb : Int32 × Int32) (v b k : Int32) : cP := (s_lb sa v, s_ll sa v b k - s_po (s_ll sa v b k) sb.1.toInt64 sb.2.toInt64, k.toInt64 * 25200, s_po (s_ll sa v b k) sb.1.toInt64 sb.2.toInt64, b.toInt64 * 25200)
def s_pa (a b : cP) : cP := (a.1 + b.1, a.2.1 + b.2.1, a.2.2.1 + b.2.2.1, a.2.2.2.1 + b.2.2.2.1, a.2.2.2.2 + b.2.2.2.2)
set_option maxHeartbeats 4000000 in
set_option maxRecDepth 100000 in
theorem m_Pa_add : XM G Y_Pa_add [.ref 4, .ref 3] (1, ch sa sb lt tt lg bc gi go sh bn sc rw dy pt R) (.inl (none), (0, ch sa sb lt (s_pa tt lt) lg bc gi go sh bn sc rw dy pt R), 0, 0) := by
  refine XM_of (by decide +kernel) (Nat.le_of_ble_eq_true rfl) (Or.inl rfl) ?_
  refine J_aload_n d_Pa_add_0 rfl rfl ?_
  refine J_dup d_Pa_add_1 ?_
  refine J_get d_Pa_add_2 xf_Pa_9 rfl rfl ?_
  refine J_aload_n d_Pa_add_5 rfl rfl ?_
  refine J_get d_Pa_add_6 xf_Pa_9 rfl rfl ?_
  refine J_ladd d_Pa_add_9 ?_
  refine J_put d_Pa_add_10 xf_Pa_9 xt_Pa (fun _ _ _ h => by cases h; rfl) rfl rfl rfl (Nat.le_of_ble_eq_true rfl) ?_
  refine J_aload_n d_Pa_add_13 rfl rfl ?_
  refine J_dup d_Pa_add_14 ?_
  refine J_get d_Pa_add_15 xf_Pa_15 rfl rfl ?_
  refine J_aload_n d_Pa_add_18 rfl rfl ?_
  refine J_get d_Pa_add_19 xf_Pa_15 rfl rfl ?_
  refine J_ladd d_Pa_add_22 ?_
  refine J_put d_Pa_add_23 xf_Pa_15 xt_Pa (fun _ _ _ h => by cases h; rfl) rfl rfl rfl (Nat.le_of_ble_eq_true rfl) ?_
  refine J_aload_n d_Pa_add_26 rfl rfl ?_
  refine J_dup d_Pa_add_27 ?_
  refine J_get d_Pa_add_28 xf_Pa_18 rfl rfl ?_
  refine J_aload_n d_Pa_add_31 rfl rfl ?_
  refine J_get d_Pa_add_32 xf_Pa_18 rfl rfl ?_
  refine J_ladd d_Pa_add_35 ?_
  refine J_put d_Pa_add_36 xf_Pa_18 xt_Pa (fun _ _ _ h => by cases h; rfl) rfl rfl rfl (Nat.le_of_ble_eq_true rfl) ?_
  refine J_aload_n d_Pa_add_39 rfl rfl ?_
  refine J_dup d_Pa_add_40 ?_
  refine J_get d_Pa_add_41 xf_Pa_21 rfl rfl ?_
  refine J_aload_n d_Pa_add_44 rfl rfl ?_
  refine J_get d_Pa_add_45 xf_Pa_21 rfl rfl ?_
  refine J_ladd d_Pa_add_48 ?_
  refine J_put d_Pa_add_49 xf_Pa_21 xt_Pa (fun _ _ _ h => by cases h; rfl) rfl rfl rfl (Nat.le_of_ble_eq_true rfl) ?_
  refine J_aload_n d_Pa_add_52 rfl rfl ?_
  refine J_dup d_Pa_add_53 ?_
  refine J_get d_Pa_add_54 xf_Pa_24 rfl rfl ?_
  refine J_aload_n d_Pa_add_57 rfl rfl ?_
  refine J_get d_Pa_add_58 xf_Pa_24 rfl rfl ?_
  refine J_ladd d_Pa_add_61 ?_
  refine J_put d_Pa_add_62 xf_Pa_24 xt_Pa (fun _ _ _ h => by cases h; rfl) rfl rfl rfl (Nat.le_of_ble_eq_true rfl) ?_
  exact J_return d_Pa_add_65 rfl rfl
set_option maxHeartbeats 4000000 in
set_option maxRecDepth 100000 in
theorem m_log {v b k : Int32} : XM G Y_RF_log [.ref 0, .int v, .int b, .int k] (1, ch sa sb lt tt lg bc gi go sh bn sc rw dy pt R) (xif (¬ v < 1 ∧ ¬ 1000 < v ∧ ¬ b < 0 ∧ 0 ≤ k) (xif (0 ≤ s_ll sa v b k) (.inl (some (.int lg)), (0, ch sa sb (s_lp sa sb v b k) (s_pa tt (s_lp sa sb v b k)) (lg + 1) bc gi go sh bn sc rw dy pt R), 0, 0) (.inr "java/lang/IllegalArgumentException", (0, ch sa sb lt tt lg bc gi go sh bn sc rw dy pt R), 1, 6)) (.inr "java/lang/IllegalArgumentException", (0, ch sa sb lt tt lg bc gi go sh bn sc rw dy pt R), 1, 6)) := by
  refine XM_of (by decide +kernel) (Nat.le_of_ble_eq_true rfl) (Or.inl rfl) ?_
  refine J_iload_n d_RF_log_0 rfl rfl ?_
  refine J_iconst (v := 1) d_RF_log_1 (by decide) ?_
  refine J_icmp_lt (tgt := 20) d_RF_log_2 (by decide) (fun c2 => ?_) (fun c2 => ?_)
  · skip
    exact J_throw xh_RF_59 xs_RF_71 ⟨Nat.le_of_ble_eq_true rfl, Nat.le_of_ble_eq_true rfl, Nat.le_of_ble_eq_true rfl, Nat.le_of_ble_eq_true rfl⟩ rfl d_RF_log_20 d_RF_log_23 d_RF_log_24 d_RF_log_26 d_RF_log_29 rfl rfl (by simp only [xif, c2, Classical.not_not, if_true, if_false, not_true_eq_false, not_false_eq_true, and_true, true_and, and_false, false_and, or_true, true_or, or_false, false_or, and_self, or_self] <;> rfl)
  · skip
    refine J_iload_n d_RF_log_5 rfl rfl ?_
    refine J_sipush (v := 1000) d_RF_log_6 (by decide) ?_
    refine J_icmp_gt (tgt := 20) d_RF_log_9 (by decide) (fun c9 => ?_) (fun c9 => ?_)
    · skip
      exact J_throw xh_RF_59 xs_RF_71 ⟨Nat.le_of_ble_eq_true rfl, Nat.le_of_ble_eq_true rfl, Nat.le_of_ble_eq_true rfl, Nat.le_of_ble_eq_true rfl⟩ rfl d_RF_log_20 d_RF_log_23 d_RF_log_24 d_RF_log_26 d_RF_log_29 rfl rfl (by simp only [xif, c2, c9, Classical.not_not, if_true, if_false, not_true_eq_false, not_false_eq_true, and_true, true_and, and_false, false_and, or_true, true_or, or_false, false_or, and_self, or_self] <;> rfl)
    · skip
      refine J_iload_n d_RF_log_12 rfl rfl ?_
      refine J_if_lt (tgt := 20) d_RF_log_13 (by decide) (fun c13 => ?_) (fun c13 => ?_)
      · skip
        exact J_throw xh_RF_59 xs_RF_71 ⟨Nat.le_of_ble_eq_true rfl, Nat.le_of_ble_eq_true rfl, Nat.le_of_ble_eq_true rfl, Nat.le_of_ble_eq_true rfl⟩ rfl d_RF_log_20 d_RF_log_23 d_RF_log_24 d_RF_log_26 d_RF_log_29 rfl rfl (by simp only [xif, c2, c9, c13, Classical.not_not, if_true, if_false, not_true_eq_false, not_false_eq_true, and_true, true_and, and_false, false_and, or_true, true_or, or_false, false_or, and_self, or_self] <;> rfl)
      · skip
        refine J_iload_n d_RF_log_16 rfl rfl ?_
        refine J_if_ge (tgt := 30) d_RF_log_17 (by decide) (fun c17 => ?_) (fun c17 => ?_)
        · skip
          refine J_iload_n d_RF_log_30 rfl rfl ?_
          refine J_i2l d_RF_log_31 ?_
          refine J_ldc2_w d_RF_log_32 xj_RF_73 ?_
          refine J_lmul d_RF_log_35 ?_
          refine J_lstore d_RF_log_36 (by decide) ?_
          refine J_aload_n d_RF_log_38 rfl rfl ?_
          refine J_get d_RF_log_39 xf_RF_12 rfl rfl ?_
          refine J_lload d_RF_log_42 rfl ?_
          refine J_callP (xGo_v1 d_RF_log_44 xc_RF_75 rfl rfl rfl) ⟨xq_Sh_of.1, xq_Sh_of.2.1⟩ ⟨Nat.le_of_ble_eq_true rfl, Nat.le_of_ble_eq_true rfl, Nat.le_of_ble_eq_true rfl, Nat.le_of_ble_eq_true rfl⟩ (Nat.le_of_ble_eq_true rfl) (m_Sh_of rfl) ?_
          refine J_lstore d_RF_log_47 (by decide) ?_
          refine J_iload_n d_RF_log_49 rfl rfl ?_
          refine J_i2l d_RF_log_50 ?_
          refine J_ldc2_w d_RF_log_51 xj_RF_79 ?_
          refine J_lmul d_RF_log_54 ?_
          refine J_lstore d_RF_log_55 (by decide) ?_
          refine J_iload_n d_RF_log_57 rfl rfl ?_
          refine J_i2l d_RF_log_58 ?_
          refine J_ldc2_w d_RF_log_59 xj_RF_79 ?_
          refine J_lmul d_RF_log_62 ?_
          refine J_lstore d_RF_log_63 (by decide) ?_
          refine J_lload d_RF_log_65 rfl ?_
          refine J_lload d_RF_log_67 rfl ?_
          refine J_lsub d_RF_log_69 ?_
          refine J_lload d_RF_log_70 rfl ?_
          refine J_lsub d_RF_log_72 ?_
          refine J_lload d_RF_log_73 rfl ?_
          refine J_lsub d_RF_log_75 ?_
          refine J_lstore d_RF_log_76 (by decide) ?_
          refine J_lload d_RF_log_78 rfl ?_
          refine J_lconst (v := 0) d_RF_log_80 (by decide) ?_
          refine J_lcmp d_RF_log_81 ?_
          refine J_lif_ge (tgt := 95) d_RF_log_82 (by decide) (fun c82 => ?_) (fun c82 => ?_)
          · skip
            refine J_aload_n d_RF_log_95 rfl rfl ?_
            refine J_get d_RF_log_96 xf_RF_24 rfl rfl ?_
            refine J_lload d_RF_log_99 rfl ?_
            refine J_lload d_RF_log_101 rfl ?_
            refine J_lload d_RF_log_103 rfl ?_
            refine J_aload_n d_RF_log_105 rfl rfl ?_
            refine J_get d_RF_log_106 xf_RF_18 rfl rfl ?_
            refine J_lload d_RF_log_109 rfl ?_
            refine J_callP (xGo_v1 d_RF_log_111 xc_RF_75 rfl rfl rfl) ⟨xq_Sh_of.1, xq_Sh_of.2.1⟩ ⟨Nat.le_of_ble_eq_true rfl, Nat.le_of_ble_eq_true rfl, Nat.le_of_ble_eq_true rfl, Nat.le_of_ble_eq_true rfl⟩ (Nat.le_of_ble_eq_true rfl) (m_Sh_of rfl) ?_
            refine J_lload d_RF_log_114 rfl ?_
            refine J_callW (xGo_v5 d_RF_log_116 xc_RF_83 rfl rfl rfl) ⟨xq_Pa_tell.1, xq_Pa_tell.2.1⟩ ⟨Nat.le_of_ble_eq_true rfl, Nat.le_of_ble_eq_true rfl, Nat.le_of_ble_eq_true rfl, Nat.le_of_ble_eq_true rfl⟩ (Nat.le_of_ble_eq_true rfl) (m_Pa_tell rfl) ?_
            refine J_heap (h2 := ch sa sb (s_lp sa sb v b k) tt lg bc gi go sh bn sc rw dy pt R) rfl ?_
            refine J_aload_n d_RF_log_119 rfl rfl ?_
            refine J_get d_RF_log_120 xf_RF_28 rfl rfl ?_
            refine J_aload_n d_RF_log_123 rfl rfl ?_
            refine J_get d_RF_log_124 xf_RF_24 rfl rfl ?_
            refine J_callW (xGo_v1 d_RF_log_127 xc_RF_87 rfl rfl rfl) ⟨xq_Pa_add.1, xq_Pa_add.2.1⟩ ⟨Nat.le_of_ble_eq_true rfl, Nat.le_of_ble_eq_true rfl, Nat.le_of_ble_eq_true rfl, Nat.le_of_ble_eq_true rfl⟩ (Nat.le_of_ble_eq_true rfl) m_Pa_add ?_
            refine J_aload_n d_RF_log_130 rfl rfl ?_
            refine J_get d_RF_log_131 xf_RF_91 rfl rfl ?_
            refine J_istore d_RF_log_134 (by decide) ?_
            refine J_aload_n d_RF_log_136 rfl rfl ?_
            refine J_dup d_RF_log_137 ?_
            refine J_get d_RF_log_138 xf_RF_91 rfl rfl ?_
            refine J_iconst (v := 1) d_RF_log_141 (by decide) ?_
            refine J_iadd d_RF_log_142 ?_
            refine J_put d_RF_log_143 xf_RF_91 xt_RF (fun _ _ _ h => by cases h; rfl) rfl rfl rfl (Nat.le_of_ble_eq_true rfl) ?_
            refine J_iload d_RF_log_146 rfl ?_
            exact J_ireturn d_RF_log_148 rfl (by have c82 : 0 ≤ s_ll sa v b k := c82; simp only [xif, c2, c9, c13, c17, c82, Classical.not_not, if_true, if_false, not_true_eq_false, not_false_eq_true, and_true, true_and, and_false, false_and, or_true, true_or, or_false, false_or, and_self, or_self] <;> rfl)
          · skip
            exact J_throw xh_RF_59 xs_RF_81 ⟨Nat.le_of_ble_eq_true rfl, Nat.le_of_ble_eq_true rfl, Nat.le_of_ble_eq_true rfl, Nat.le_of_ble_eq_true rfl⟩ rfl d_RF_log_85 d_RF_log_88 d_RF_log_89 d_RF_log_91 d_RF_log_94 rfl rfl (by have c82 : ¬ 0 ≤ s_ll sa v b k := c82; simp only [xif, c2, c9, c13, c17, c82, Classical.not_not, if_true, if_false, not_true_eq_false, not_false_eq_true, and_true, true_and, and_false, false_and, or_true, true_or, or_false, false_or, and_self, or_self] <;> rfl)
        · skip
          exact J_throw xh_RF_59 xs_RF_71 ⟨Nat.le_of_ble_eq_true rfl, Nat.le_of_ble_eq_true rfl, Nat.le_of_ble_eq_true rfl, Nat.le_of_ble_eq_true rfl⟩ rfl d_RF_log_20 d_RF_log_23 d_RF_log_24 d_RF_log_26 d_RF_log_29 rfl rfl (by simp only [xif, c2, c9, c13, c17, Classical.not_not, if_true, if_false, not_true_eq_false, not_false_eq_true, and_true, true_and, and_false, false_and, or_true, true_or, or_false, false_or, and_self, or_self] <;> rfl)
set_option maxHeartbeats 4000000 in
set_option maxRecDepth 100000 in
theorem m_volume {k a : Int32} : XM G Y_RF_volume [.ref 0, .int k, .int a] (1, ch sa sb lt tt lg bc gi go sh bn sc rw dy pt R) (xif (okK k) (xif (¬ lg = 0) (xif (a = 0) (.inl (some (.long (if k = 0 then lt.1 else if k = 1 then lt.2.1 else if k = 2 then lt.2.2.1 else lt.2.2.2.1))), (1, ch sa sb lt tt lg bc gi go sh bn sc rw dy pt R), 0, 0) (.inl (some (.long (if k = 0 then tt.1 else if k = 1 then tt.2.1 else if k = 2 then tt.2.2.1 else tt.2.2.2.1))), (1, ch sa sb lt tt lg bc gi go sh bn sc rw dy pt R), 0, 0)) (.inr "java/lang/IllegalStateException", (0, ch sa sb lt tt lg bc gi go sh bn sc rw dy pt R), 1, 6)) (.inr "java/lang/IndexOutOfBoundsException", (0, ch sa sb lt tt lg bc gi go sh bn sc rw dy pt R), 1, 6)) := by
  refine XM_of (by decide +kernel) (Nat.le_of_ble_eq_true rfl) (Or.inl rfl) ?_
  refine J_iload_n d_RF_volume_0 rfl rfl ?_
  refine J_callO (xGo_s1 d_RF_volume_1 xc_RF_94) ⟨xq_RF_checkKind.1, xq_RF_checkKind.2.1⟩ ⟨Nat.le_of_ble_eq_true rfl, Nat.le_of_ble_eq_true rfl, Nat.le_of_ble_eq_true rfl, Nat.le_of_ble_eq_true rfl⟩ (Nat.le_of_ble_eq_true rfl) m_checkKind rfl (fun c1 => ?_) (fun c1 => (by simp only [xif, c1, Classical.not_not, if_true, if_false, not_true_eq_false, not_false_eq_true, and_true, true_and, and_false, false_and, or_true, true_or, or_false, false_or, and_self, or_self] <;> rfl))
  refine J_aload_n d_RF_volume_4 rfl rfl ?_
  refine J_callO (xGo_v0 d_RF_volume_5 xc_RF_98 rfl rfl rfl) ⟨xq_RF_checkLogs.1, xq_RF_checkLogs.2.1⟩ ⟨Nat.le_of_ble_eq_true rfl, Nat.le_of_ble_eq_true rfl, Nat.le_of_ble_eq_true rfl, Nat.le_of_ble_eq_true rfl⟩ (Nat.le_of_ble_eq_true rfl) m_checkLogs rfl (fun c5 => ?_) (fun c5 => (by simp only [xif, c1, c5, Classical.not_not, if_true, if_false, not_true_eq_false, not_false_eq_true, and_true, true_and, and_false, false_and, or_true, true_or, or_false, false_or, and_self, or_self] <;> rfl))
  refine J_iload_n d_RF_volume_8 rfl rfl ?_
  refine J_if_eq (tgt := 23) d_RF_volume_9 (by decide) (fun c9 => ?_) (fun c9 => ?_)
  · skip
    refine J_aload_n d_RF_volume_23 rfl rfl ?_
    refine J_get d_RF_volume_24 xf_RF_24 rfl rfl ?_
    refine J_iload_n d_RF_volume_27 rfl rfl ?_
    refine J_callP (xGo_v1 d_RF_volume_28 xc_RF_101 rfl rfl rfl) ⟨xq_Pa_ofKind.1, xq_Pa_ofKind.2.1⟩ ⟨Nat.le_of_ble_eq_true rfl, Nat.le_of_ble_eq_true rfl, Nat.le_of_ble_eq_true rfl, Nat.le_of_ble_eq_true rfl⟩ (Nat.le_of_ble_eq_true rfl) (m_Pa_ofKind rfl) ?_
    exact J_lreturn d_RF_volume_31 rfl (by simp only [xif, c1, c5, c9, Classical.not_not, if_true, if_false, not_true_eq_false, not_false_eq_true, and_true, true_and, and_false, false_and, or_true, true_or, or_false, false_or, and_self, or_self] <;> rfl)
  · skip
    refine J_aload_n d_RF_volume_12 rfl rfl ?_
    refine J_get d_RF_volume_13 xf_RF_28 rfl rfl ?_
    refine J_iload_n d_RF_volume_16 rfl rfl ?_
    refine J_callP (xGo_v1 d_RF_volume_17 xc_RF_101 rfl rfl rfl) ⟨xq_Pa_ofKind.1, xq_Pa_ofKind.2.1⟩ ⟨Nat.le_of_ble_eq_true rfl, Nat.le_of_ble_eq_true rfl, Nat.le_of_ble_eq_true rfl, Nat.le_of_ble_eq_true rfl⟩ (Nat.le_of_ble_eq_true rfl) (m_Pa_ofKind rfl) ?_
    refine J_goto (tgt := 31) d_RF_volume_20 (by decide) ?_
    exact J_lreturn d_RF_volume_31 rfl (by simp only [xif, c1, c5, c9, Classical.not_not, if_true, if_false, not_true_eq_false, not_false_eq_true, and_true, true_and, and_false, false_and, or_true, true_or, or_false, false_or, and_self, or_self] <;> rfl)
set_option maxHeartbeats 4000000 in
set_option maxRecDepth 100000 in
theorem m_boards {a : Int32} : XM G Y_RF_boards [.ref 0, .int a] (1, ch sa sb lt tt lg bc gi go sh bn sc rw dy pt R) (xif (¬ lg = 0) (xif (a = 0) (.inl (some (.long lt.2.2.2.2)), (1, ch sa sb lt tt lg bc gi go sh bn sc rw dy pt R), 0, 0) (.inl (some (.long tt.2.2.2.2)), (1, ch sa sb lt tt lg bc gi go sh bn sc rw dy pt R), 0, 0)) (.inr "java/lang/IllegalStateException", (0, ch sa sb lt tt lg bc gi go sh bn sc rw dy pt R), 1, 6)) := by
  refine XM_of (by decide +kernel) (Nat.le_of_ble_eq_true rfl) (Or.inl rfl) ?_
  refine J_aload_n d_RF_boards_0 rfl rfl ?_
  refine J_callO (xGo_v0 d_RF_boards_1 xc_RF_98 rfl rfl rfl) ⟨xq_RF_checkLogs.1, xq_RF_checkLogs.2.1⟩ ⟨Nat.le_of_ble_eq_true rfl, Nat.le_of_ble_eq_true rfl, Nat.le_of_ble_eq_true rfl, Nat.le_of_ble_eq_true rfl⟩ (Nat.le_of_ble_eq_true rfl) m_checkLogs rfl (fun c1 => ?_) (fun c1 => (by simp only [xif, c1, Classical.not_not, if_true, if_false, not_true_eq_false, not_false_eq_true, and_true, true_and, and_false, false_and, or_true, true_or, or_false, false_or, and_self, or_self] <;> rfl))
  refine J_iload_n d_RF_boards_4 rfl rfl ?_
  refine J_if_eq (tgt := 18) d_RF_boards_5 (by decide) (fun c5 => ?_) (fun c5 => ?_)
  · skip
    refine J_aload_n d_RF_boards_18 rfl rfl ?_
    refine J_get d_RF_boards_19 xf_RF_24 rfl rfl ?_
    refine J_get d_RF_boards_22 xf_RF_105 rfl rfl ?_
    exact J_lreturn d_RF_boards_25 rfl (by simp only [xif, c1, c5, Classical.not_not, if_true, if_false, not_true_eq_false, not_false_eq_true, and_true, true_and, and_false, false_and, or_true, true_or, or_false, false_or, and_self, or_self] <;> rfl)
  · skip
    refine J_aload_n d_RF_boards_8 rfl rfl ?_
    refine J_get d_RF_boards_9 xf_RF_28 rfl rfl ?_
    refine J_get d_RF_boards_12 xf_RF_105 rfl rfl ?_
    refine J_goto (tgt := 25) d_RF_boards_15 (by decide) ?_
    exact J_lreturn d_RF_boards_25 rfl (by simp only [xif, c1, c5, Classical.not_not, if_true, if_false, not_true_eq_false, not_false_eq_true, and_true, true_and, and_false, false_and, or_true, true_or, or_false, false_or, and_self, or_self] <;> rfl)
theorem nb_lt {nb : Nat} (hn : nb ≤ 8) (h : nI nb < 8) : nb < 8 := by
  rcases Nat.lt_or_ge nb 8 with q | q
  · exact q
  · have : nb = 8 := by omega
    subst this
    exact absurd h (by decide)
set_option maxHeartbeats 4000000 in
set_option maxRecDepth 100000 in
theorem m_bin {k m : Int32} (hG : gTok G) {nb : Nat} (hb : bc = nI nb) (hn : nb ≤ 8) : XM G Y_RF_bin [.ref 0, .int k, .int m] (1, ch sa sb lt tt lg bc gi go sh bn sc rw dy pt R) (xif (okK k) (xif (¬ m < 1 ∧ m ≤ 1000000) (xif (bc < 8) (.inl (some (.int bc)), (0, ch sa sb lt tt lg (bc + 1) gi go sh (vf_upd bn nb (k, m, (bn nb).2.2)) sc rw dy pt R), 0, 0) (.inr "java/lang/IllegalStateException", (0, ch sa sb lt tt lg bc gi go sh bn sc rw dy pt R), 1, 6)) (.inr "java/lang/IllegalArgumentException", (0, ch sa sb lt tt lg bc gi go sh bn sc rw dy pt R), 1, 6)) (.inr "java/lang/IndexOutOfBoundsException", (0, ch sa sb lt tt lg bc gi go sh bn sc rw dy pt R), 1, 6)) := by
  refine XM_of (by decide +kernel) (Nat.le_of_ble_eq_true rfl) (Or.inl rfl) ?_
  refine J_iload_n d_RF_bin_0 rfl rfl ?_
  refine J_callO (xGo_s1 d_RF_bin_1 xc_RF_94) ⟨xq_RF_checkKind.1, xq_RF_checkKind.2.1⟩ ⟨Nat.le_of_ble_eq_true rfl, Nat.le_of_ble_eq_true rfl, Nat.le_of_ble_eq_true rfl, Nat.le_of_ble_eq_true rfl⟩ (Nat.le_of_ble_eq_true rfl) m_checkKind rfl (fun c1 => ?_) (fun c1 => (by simp only [xif, c1, Classical.not_not, if_true, if_false, not_true_eq_false, not_false_eq_true, and_true, true_and, and_false, false_and, or_true, true_or, or_false, false_or, and_self, or_self] <;> rfl))
  refine J_iload_n d_RF_bin_4 rfl rfl ?_
  refine J_iconst (v := 1) d_RF_bin_5 (by decide) ?_
  refine J_icmp_lt (tgt := 15) d_RF_bin_6 (by decide) (fun c6 => ?_) (fun c6 => ?_)
  · skip
    exact J_throw xh_RF_59 xs_RF_110 ⟨Nat.le_of_ble_eq_true rfl, Nat.le_of_ble_eq_true rfl, Nat.le_of_ble_eq_true rfl, Nat.le_of_ble_eq_true rfl⟩ rfl d_RF_bin_15 d_RF_bin_18 d_RF_bin_19 d_RF_bin_21 d_RF_bin_24 rfl rfl (by simp only [xif, c1, c6, Classical.not_not, if_true, if_false, not_true_eq_false, not_false_eq_true, and_true, true_and, and_false, false_and, or_true, true_or, or_false, false_or, and_self, or_self] <;> rfl)
  · skip
    refine J_iload_n d_RF_bin_9 rfl rfl ?_
    refine J_ldc d_RF_bin_10 xi_RF_109 ?_
    refine J_icmp_le (tgt := 25) d_RF_bin_12 (by decide) (fun c12 => ?_) (fun c12 => ?_)
    · skip
      refine J_aload_n d_RF_bin_25 rfl rfl ?_
      refine J_get d_RF_bin_26 xf_RF_112 rfl rfl ?_
      refine J_bipush (v := 8) d_RF_bin_29 (by decide) ?_
      refine J_icmp_lt (tgt := 44) d_RF_bin_31 (by decide) (fun c31 => ?_) (fun c31 => ?_)
      · skip
        refine J_aload_n d_RF_bin_44 rfl rfl ?_
        refine J_get d_RF_bin_45 xf_RF_112 rfl rfl ?_
        refine J_istore_n d_RF_bin_48 rfl (by decide) ?_
        refine J_aload_n d_RF_bin_49 rfl rfl ?_
        refine J_get d_RF_bin_50 xf_RF_33 rfl rfl ?_
        refine J_iload_n d_RF_bin_53 rfl rfl ?_
        refine J_aald d_RF_bin_54 (gt3' hG) rfl (by rw [hb]; exact vp_in_nI (nb_lt hn (hb ▸ c31)) (by decide)) (by rw [hb, nI_clamp (by omega)]; exact fB_at (nb_lt hn (hb ▸ c31))) ?_
        refine J_iload_n d_RF_bin_55 rfl rfl ?_
        refine J_put d_RF_bin_56 xf_RF_120 xt_Bi (fun _ _ _ h => by cases h; rfl) rfl rfl (ch_bin (nb_lt hn (hb ▸ c31))) (Nat.le_of_ble_eq_true rfl) ?_
        refine J_heap (ch_setb (v := (k, (bn nb).2)) (nb_lt hn (hb ▸ c31))) ?_
        refine J_aload_n d_RF_bin_59 rfl rfl ?_
        refine J_get d_RF_bin_60 xf_RF_33 rfl rfl ?_
        refine J_iload_n d_RF_bin_63 rfl rfl ?_
        refine J_aald d_RF_bin_64 (gt3' hG) rfl (by rw [hb]; exact vp_in_nI (nb_lt hn (hb ▸ c31)) (by decide)) (by rw [hb, nI_clamp (by omega)]; exact fB_at (nb_lt hn (hb ▸ c31))) ?_
        refine J_iload_n d_RF_bin_65 rfl rfl ?_
        refine J_put d_RF_bin_66 xf_RF_123 xt_Bi (fun _ _ _ h => by cases h; rfl) rfl rfl (ch_bin (nb_lt hn (hb ▸ c31))) (Nat.le_of_ble_eq_true rfl) ?_
        refine J_heap (ch_setb (v := ((vf_upd bn nb (k, (bn nb).2) nb).1, m, (vf_upd bn nb (k, (bn nb).2) nb).2.2)) (nb_lt hn (hb ▸ c31))) ?_
        simp only [vf_us, vf_uu]
        refine J_aload_n d_RF_bin_69 rfl rfl ?_
        refine J_dup d_RF_bin_70 ?_
        refine J_get d_RF_bin_71 xf_RF_112 rfl rfl ?_
        refine J_iconst (v := 1) d_RF_bin_74 (by decide) ?_
        refine J_iadd d_RF_bin_75 ?_
        refine J_put d_RF_bin_76 xf_RF_112 xt_RF (fun _ _ _ h => by cases h; rfl) rfl rfl rfl (Nat.le_of_ble_eq_true rfl) ?_
        refine J_iload_n d_RF_bin_79 rfl rfl ?_
        exact J_ireturn d_RF_bin_80 rfl (by simp only [xif, c1, c6, c12, c31, Classical.not_not, if_true, if_false, not_true_eq_false, not_false_eq_true, and_true, true_and, and_false, false_and, or_true, true_or, or_false, false_or, and_self, or_self] <;> rfl)
      · skip
        exact J_throw xh_RF_115 xs_RF_117 ⟨Nat.le_of_ble_eq_true rfl, Nat.le_of_ble_eq_true rfl, Nat.le_of_ble_eq_true rfl, Nat.le_of_ble_eq_true rfl⟩ rfl d_RF_bin_34 d_RF_bin_37 d_RF_bin_38 d_RF_bin_40 d_RF_bin_43 rfl rfl (by simp only [xif, c1, c6, c12, c31, Classical.not_not, if_true, if_false, not_true_eq_false, not_false_eq_true, and_true, true_and, and_false, false_and, or_true, true_or, or_false, false_or, and_self, or_self] <;> rfl)
    · skip
      exact J_throw xh_RF_59 xs_RF_110 ⟨Nat.le_of_ble_eq_true rfl, Nat.le_of_ble_eq_true rfl, Nat.le_of_ble_eq_true rfl, Nat.le_of_ble_eq_true rfl⟩ rfl d_RF_bin_15 d_RF_bin_18 d_RF_bin_19 d_RF_bin_21 d_RF_bin_24 rfl rfl (by simp only [xif, c1, c6, c12, Classical.not_not, if_true, if_false, not_true_eq_false, not_false_eq_true, and_true, true_and, and_false, false_and, or_true, true_or, or_false, false_or, and_self, or_self] <;> rfl)
def s_pi (b : cB) (k w : Int32) : cB := s_ch b (k.toInt64 * (1000 - w).toInt64) (k.toInt64 * w.toInt64)
def s_ta (b : cB) (d w : Int64) : cB := s_ch b (-d) (-w)
set_option maxHeartbeats 4000000 in
set_option maxRecDepth 100000 in
theorem m_pourInto {i : Nat} {k w : Int32} (hi : i < 8) : XM G Y_RF_pourInto [.ref 0, .ref (6 + i), .int k, .int w] (1, ch sa sb lt tt lg bc gi go sh bn sc rw dy pt R) (.inl (none), (0, ch sa sb lt tt lg bc (gi + k.toInt64 * 1000) go sh (vf_upd bn i (s_pi (bn i) k w)) sc rw dy pt R), 0, 0) := by
  refine XM_of (by decide +kernel) (Nat.le_of_ble_eq_true rfl) (Or.inl rfl) ?_
  refine J_aload_n d_RF_pourInto_0 rfl rfl ?_
  refine J_iload_n d_RF_pourInto_1 rfl rfl ?_
  refine J_i2l d_RF_pourInto_2 ?_
  refine J_sipush (v := 1000) d_RF_pourInto_3 (by decide) ?_
  refine J_iload_n d_RF_pourInto_6 rfl rfl ?_
  refine J_isub d_RF_pourInto_7 ?_
  refine J_i2l d_RF_pourInto_8 ?_
  refine J_lmul d_RF_pourInto_9 ?_
  refine J_iload_n d_RF_pourInto_10 rfl rfl ?_
  refine J_i2l d_RF_pourInto_11 ?_
  refine J_iload_n d_RF_pourInto_12 rfl rfl ?_
  refine J_i2l d_RF_pourInto_13 ?_
  refine J_lmul d_RF_pourInto_14 ?_
  refine J_callW (xGo_v2 d_RF_pourInto_15 xc_RF_274 (ch_bin hi) rfl rfl) ⟨xq_Bi_change.1, xq_Bi_change.2.1⟩ ⟨Nat.le_of_ble_eq_true rfl, Nat.le_of_ble_eq_true rfl, Nat.le_of_ble_eq_true rfl, Nat.le_of_ble_eq_true rfl⟩ (Nat.le_of_ble_eq_true rfl) (m_Bi_change (ch_bin hi)) ?_
  refine J_heap (ch_setb hi) ?_
  refine J_aload_n d_RF_pourInto_18 rfl rfl ?_
  refine J_dup d_RF_pourInto_19 ?_
  refine J_get d_RF_pourInto_20 xf_RF_199 rfl rfl ?_
  refine J_iload_n d_RF_pourInto_23 rfl rfl ?_
  refine J_i2l d_RF_pourInto_24 ?_
  refine J_ldc2_w d_RF_pourInto_25 xj_RF_290 ?_
  refine J_lmul d_RF_pourInto_28 ?_
  refine J_ladd d_RF_pourInto_29 ?_
  refine J_put d_RF_pourInto_30 xf_RF_199 xt_RF (fun _ _ _ h => by cases h; rfl) rfl rfl rfl (Nat.le_of_ble_eq_true rfl) ?_
  exact J_return d_RF_pourInto_33 rfl rfl
set_option maxHeartbeats 4000000 in
set_option maxRecDepth 100000 in
theorem m_takeAway {i : Nat} {d w : Int64} (hi : i < 8) : XM G Y_RF_takeAway [.ref 0, .ref (6 + i), .long d, .long w] (1, ch sa sb lt tt lg bc gi go sh bn sc rw dy pt R) (.inl (none), (0, ch sa sb lt tt lg bc gi (go + (d + w)) sh (vf_upd bn i (s_ta (bn i) d w)) sc rw dy pt R), 0, 0) := by
  refine XM_of (by decide +kernel) (Nat.le_of_ble_eq_true rfl) (Or.inl rfl) ?_
  refine J_aload_n d_RF_takeAway_0 rfl rfl ?_
  refine J_lload_n d_RF_takeAway_1 rfl rfl ?_
  refine J_lneg d_RF_takeAway_2 ?_
  refine J_lload d_RF_takeAway_3 rfl ?_
  refine J_lneg d_RF_takeAway_5 ?_
  refine J_callW (xGo_v2 d_RF_takeAway_6 xc_RF_274 (ch_bin hi) rfl rfl) ⟨xq_Bi_change.1, xq_Bi_change.2.1⟩ ⟨Nat.le_of_ble_eq_true rfl, Nat.le_of_ble_eq_true rfl, Nat.le_of_ble_eq_true rfl, Nat.le_of_ble_eq_true rfl⟩ (Nat.le_of_ble_eq_true rfl) (m_Bi_change (ch_bin hi)) ?_
  refine J_heap (ch_setb hi) ?_
  refine J_aload_n d_RF_takeAway_9 rfl rfl ?_
  refine J_dup d_RF_takeAway_10 ?_
  refine J_get d_RF_takeAway_11 xf_RF_202 rfl rfl ?_
  refine J_lload_n d_RF_takeAway_14 rfl rfl ?_
  refine J_lload d_RF_takeAway_15 rfl ?_
  refine J_ladd d_RF_takeAway_17 ?_
  refine J_ladd d_RF_takeAway_18 ?_
  refine J_put d_RF_takeAway_19 xf_RF_202 xt_RF (fun _ _ _ h => by cases h; rfl) rfl rfl rfl (Nat.le_of_ble_eq_true rfl) ?_
  exact J_return d_RF_takeAway_22 rfl rfl
set_option maxHeartbeats 4000000 in
set_option maxRecDepth 100000 in
theorem m_pour {n k w : Int32} (hG : gTok G) : XM G Y_RF_pour [.ref 0, .int n, .int k, .int w] (1, ch sa sb lt tt lg bc gi go sh bn sc rw dy pt R) (xif (okB bc n) (xif (okP k w) (xif (s_hr (bn n.toNatClampNeg) k = 0) (.inl (some (.int 0)), (1, ch sa sb lt tt lg bc gi go sh bn sc rw dy pt R), 0, 0) (.inl (some (.int 1)), (0, ch sa sb lt tt lg bc (gi + k.toInt64 * 1000) go sh (vf_upd bn n.toNatClampNeg (s_pi (bn n.toNatClampNeg) k w)) sc rw dy pt R), 0, 0)) (.inr "java/lang/IllegalArgumentException", (0, ch sa sb lt tt lg bc gi go sh bn sc rw dy pt R), 1, 6)) (.inr "java/lang/IndexOutOfBoundsException", (0, ch sa sb lt tt lg bc gi go sh bn sc rw dy pt R), 1, 6)) := by
  refine XM_of (by decide +kernel) (Nat.le_of_ble_eq_true rfl) (Or.inl rfl) ?_
  refine J_aload_n d_RF_pour_0 rfl rfl ?_
  refine J_iload_n d_RF_pour_1 rfl rfl ?_
  refine J_callO (xGo_v1 d_RF_pour_2 xc_RF_126 rfl rfl rfl) ⟨xq_RF_binAt.1, xq_RF_binAt.2.1⟩ ⟨Nat.le_of_ble_eq_true rfl, Nat.le_of_ble_eq_true rfl, Nat.le_of_ble_eq_true rfl, Nat.le_of_ble_eq_true rfl⟩ (Nat.le_of_ble_eq_true rfl) (m_binAt hG) rfl (fun c2 => ?_) (fun c2 => (by simp only [xif, c2, Classical.not_not, if_true, if_false, not_true_eq_false, not_false_eq_true, and_true, true_and, and_false, false_and, or_true, true_or, or_false, false_or, and_self, or_self] <;> rfl))
  have hi := (okB_lt c2).1
  refine J_astore d_RF_pour_5 (by decide) ?_
  refine J_iload_n d_RF_pour_7 rfl rfl ?_
  refine J_iload_n d_RF_pour_8 rfl rfl ?_
  refine J_callO (xGo_s2 d_RF_pour_9 xc_RF_130) ⟨xq_RF_checkPoured.1, xq_RF_checkPoured.2.1⟩ ⟨Nat.le_of_ble_eq_true rfl, Nat.le_of_ble_eq_true rfl, Nat.le_of_ble_eq_true rfl, Nat.le_of_ble_eq_true rfl⟩ (Nat.le_of_ble_eq_true rfl) m_checkPoured rfl (fun c9 => ?_) (fun c9 => (by simp only [xif, c2, c9, Classical.not_not, if_true, if_false, not_true_eq_false, not_false_eq_true, and_true, true_and, and_false, false_and, or_true, true_or, or_false, false_or, and_self, or_self] <;> rfl))
  refine J_aload d_RF_pour_12 rfl ?_
  refine J_iload_n d_RF_pour_14 rfl rfl ?_
  refine J_callP (xGo_v1 d_RF_pour_15 xc_RF_133 (ch_bin hi) rfl rfl) ⟨xq_Bi_hasRoom.1, xq_Bi_hasRoom.2.1⟩ ⟨Nat.le_of_ble_eq_true rfl, Nat.le_of_ble_eq_true rfl, Nat.le_of_ble_eq_true rfl, Nat.le_of_ble_eq_true rfl⟩ (Nat.le_of_ble_eq_true rfl) (m_Bi_hasRoom (ch_bin hi)) ?_
  refine J_if_ne (tgt := 23) d_RF_pour_18 (by decide) (fun c18 => ?_) (fun c18 => ?_)
  · skip
    refine J_aload_n d_RF_pour_23 rfl rfl ?_
    refine J_aload d_RF_pour_24 rfl ?_
    refine J_iload_n d_RF_pour_26 rfl rfl ?_
    refine J_iload_n d_RF_pour_27 rfl rfl ?_
    refine J_callW (xGo_v3 d_RF_pour_28 xc_RF_137 rfl rfl rfl) ⟨xq_RF_pourInto.1, xq_RF_pourInto.2.1⟩ ⟨Nat.le_of_ble_eq_true rfl, Nat.le_of_ble_eq_true rfl, Nat.le_of_ble_eq_true rfl, Nat.le_of_ble_eq_true rfl⟩ (Nat.le_of_ble_eq_true rfl) (m_pourInto hi) ?_
    refine J_iconst (v := 1) d_RF_pour_31 (by decide) ?_
    exact J_zreturn d_RF_pour_32 rfl rfl (by simp only [xif, c2, c9, c18, Classical.not_not, if_true, if_false, not_true_eq_false, not_false_eq_true, and_true, true_and, and_false, false_and, or_true, true_or, or_false, false_or, and_self, or_self] <;> rfl)
  · skip
    have c18 := Classical.not_not.mp c18
    refine J_iconst (v := 0) d_RF_pour_21 (by decide) ?_
    exact J_zreturn d_RF_pour_22 rfl rfl (by simp only [xif, c2, c9, c18, Classical.not_not, if_true, if_false, not_true_eq_false, not_false_eq_true, and_true, true_and, and_false, false_and, or_true, true_or, or_false, false_or, and_self, or_self] <;> rfl)
set_option maxHeartbeats 4000000 in
set_option maxRecDepth 100000 in
theorem m_about {n q : Int32} (hG : gTok G) : XM G Y_RF_about [.ref 0, .int n, .int q] (1, ch sa sb lt tt lg bc gi go sh bn sc rw dy pt R) (xif (okB bc n) (if q = 0 then (.inl (some (.long (bn n.toNatClampNeg).2.2.1)), (1, ch sa sb lt tt lg bc gi go sh bn sc rw dy pt R), 0, 0) else (if q = 1 then (.inl (some (.long (bn n.toNatClampNeg).2.2.2.1)), (1, ch sa sb lt tt lg bc gi go sh bn sc rw dy pt R), 0, 0) else (if q = 2 then (.inl (some (.long (bn n.toNatClampNeg).2.1.toInt64)), (1, ch sa sb lt tt lg bc gi go sh bn sc rw dy pt R), 0, 0) else (if q = 3 then (.inl (some (.long (bn n.toNatClampNeg).1.toInt64)), (1, ch sa sb lt tt lg bc gi go sh bn sc rw dy pt R), 0, 0) else (if q = 4 then (.inl (some (.long (bn n.toNatClampNeg).2.2.2.2.1)), (1, ch sa sb lt tt lg bc gi go sh bn sc rw dy pt R), 0, 0) else (if q = 5 then (.inl (some (.long (s_gr (bn n.toNatClampNeg)))), (1, ch sa sb lt tt lg bc gi go sh bn sc rw dy pt R), 0, 0) else (.inr "java/lang/IndexOutOfBoundsException", (0, ch sa sb lt tt lg bc gi go sh bn sc rw dy pt R), 1, 6))))))) (.inr "java/lang/IndexOutOfBoundsException", (0, ch sa sb lt tt lg bc gi go sh bn sc rw dy pt R), 1, 6)) := by
  refine XM_of (by decide +kernel) (Nat.le_of_ble_eq_true rfl) (Or.inl rfl) ?_
  refine J_aload_n d_RF_about_0 rfl rfl ?_
  refine J_iload_n d_RF_about_1 rfl rfl ?_
  refine J_callO (xGo_v1 d_RF_about_2 xc_RF_126 rfl rfl rfl) ⟨xq_RF_binAt.1, xq_RF_binAt.2.1⟩ ⟨Nat.le_of_ble_eq_true rfl, Nat.le_of_ble_eq_true rfl, Nat.le_of_ble_eq_true rfl, Nat.le_of_ble_eq_true rfl⟩ (Nat.le_of_ble_eq_true rfl) (m_binAt hG) rfl (fun c2 => ?_) (fun c2 => (by simp only [xif, c2, Classical.not_not, if_true, if_false, not_true_eq_false, not_false_eq_true, and_true, true_and, and_false, false_and, or_true, true_or, or_false, false_or, and_self, or_self] <;> rfl))
  have hi := (okB_lt c2).1
  refine J_astore_n d_RF_about_5 rfl (by decide) ?_
  refine J_iload_n d_RF_about_6 rfl rfl ?_
  by_cases e0 : q = 0
  · subst e0
    refine J_tableIn (tgt := 44) d_RF_about_7 (by decide) (by decide) rfl (by decide) ?_
    refine J_aload_n d_RF_about_44 rfl rfl ?_
    refine J_get d_RF_about_45 xf_RF_141 (ch_bin hi) rfl ?_
    exact J_lreturn d_RF_about_48 rfl (by simp only [xif, c2, if_true] <;> rfl)
  by_cases e1 : q = 1
  · subst e1
    refine J_tableIn (tgt := 49) d_RF_about_7 (by decide) (by decide) rfl (by decide) ?_
    refine J_aload_n d_RF_about_49 rfl rfl ?_
    refine J_get d_RF_about_50 xf_RF_144 (ch_bin hi) rfl ?_
    exact J_lreturn d_RF_about_53 rfl (by simp only [xif, c2, if_true] <;> rfl)
  by_cases e2 : q = 2
  · subst e2
    refine J_tableIn (tgt := 54) d_RF_about_7 (by decide) (by decide) rfl (by decide) ?_
    refine J_aload_n d_RF_about_54 rfl rfl ?_
    refine J_get d_RF_about_55 xf_RF_123 (ch_bin hi) rfl ?_
    refine J_i2l d_RF_about_58 ?_
    exact J_lreturn d_RF_about_59 rfl (by simp only [xif, c2, if_true] <;> rfl)
  by_cases e3 : q = 3
  · subst e3
    refine J_tableIn (tgt := 60) d_RF_about_7 (by decide) (by decide) rfl (by decide) ?_
    refine J_aload_n d_RF_about_60 rfl rfl ?_
    refine J_get d_RF_about_61 xf_RF_120 (ch_bin hi) rfl ?_
    refine J_i2l d_RF_about_64 ?_
    exact J_lreturn d_RF_about_65 rfl (by simp only [xif, c2, if_true] <;> rfl)
  by_cases e4 : q = 4
  · subst e4
    refine J_tableIn (tgt := 66) d_RF_about_7 (by decide) (by decide) rfl (by decide) ?_
    refine J_aload_n d_RF_about_66 rfl rfl ?_
    refine J_get d_RF_about_67 xf_RF_147 (ch_bin hi) rfl ?_
    exact J_lreturn d_RF_about_70 rfl (by simp only [xif, c2, if_true] <;> rfl)
  by_cases e5 : q = 5
  · subst e5
    refine J_tableIn (tgt := 71) d_RF_about_7 (by decide) (by decide) rfl (by decide) ?_
    refine J_aload_n d_RF_about_71 rfl rfl ?_
    refine J_callP (xGo_v0 d_RF_about_72 xc_RF_150 (ch_bin hi) rfl rfl) ⟨xq_Bi_grams.1, xq_Bi_grams.2.1⟩ ⟨Nat.le_of_ble_eq_true rfl, Nat.le_of_ble_eq_true rfl, Nat.le_of_ble_eq_true rfl, Nat.le_of_ble_eq_true rfl⟩ (Nat.le_of_ble_eq_true rfl) (m_Bi_grams (ch_bin hi)) ?_
    exact J_lreturn d_RF_about_75 rfl (by simp only [xif, c2, if_true] <;> rfl)
  refine J_tableOut (tgt := 76) d_RF_about_7 (by have q0 := ti (n := 0) 0 (by decide) e0; have q1 := ti (n := 1) 1 (by decide) e1; have q2 := ti (n := 2) 2 (by decide) e2; have q3 := ti (n := 3) 3 (by decide) e3; have q4 := ti (n := 4) 4 (by decide) e4; have q5 := ti (n := 5) 5 (by decide) e5; omega) (by decide) ?_
  exact J_throw xh_RF_52 xs_RF_154 ⟨Nat.le_of_ble_eq_true rfl, Nat.le_of_ble_eq_true rfl, Nat.le_of_ble_eq_true rfl, Nat.le_of_ble_eq_true rfl⟩ rfl d_RF_about_76 d_RF_about_79 d_RF_about_80 d_RF_about_82 d_RF_about_85 rfl rfl (by simp only [xif, c2, e0, e1, e2, e3, e4, e5, Classical.not_not, if_true, if_false, not_true_eq_false, not_false_eq_true, and_true, true_and, and_false, false_and, or_true, true_or, or_false, false_or, and_self, or_self] <;> rfl)
set_option maxHeartbeats 4000000 in
set_option maxRecDepth 100000 in
theorem m_scale {n : Int32} {g : Int64} (hG : gTok G) : XM G Y_RF_scale [.ref 0, .int n, .long g] (1, ch sa sb lt tt lg bc gi go sh bn sc rw dy pt R) (xif (okB bc n) (xif (¬ g < 0 ∧ g ≤ 1000000000000) (.inl (none), (0, ch sa sb lt tt lg bc gi go sh (vf_upd bn n.toNatClampNeg ((bn n.toNatClampNeg).1, (bn n.toNatClampNeg).2.1, (bn n.toNatClampNeg).2.2.1, (bn n.toNatClampNeg).2.2.2.1, g, (bn n.toNatClampNeg).2.2.2.2.2)) sc rw dy pt R), 0, 0) (.inr "java/lang/IllegalArgumentException", (0, ch sa sb lt tt lg bc gi go sh bn sc rw dy pt R), 1, 6)) (.inr "java/lang/IndexOutOfBoundsException", (0, ch sa sb lt tt lg bc gi go sh bn sc rw dy pt R), 1, 6)) := by
  refine XM_of (by decide +kernel) (Nat.le_of_ble_eq_true rfl) (Or.inl rfl) ?_
  refine J_aload_n d_RF_scale_0 rfl rfl ?_
  refine J_iload_n d_RF_scale_1 rfl rfl ?_
  refine J_callO (xGo_v1 d_RF_scale_2 xc_RF_126 rfl rfl rfl) ⟨xq_RF_binAt.1, xq_RF_binAt.2.1⟩ ⟨Nat.le_of_ble_eq_true rfl, Nat.le_of_ble_eq_true rfl, Nat.le_of_ble_eq_true rfl, Nat.le_of_ble_eq_true rfl⟩ (Nat.le_of_ble_eq_true rfl) (m_binAt hG) rfl (fun c2 => ?_) (fun c2 => (by simp only [xif, c2, Classical.not_not, if_true, if_false, not_true_eq_false, not_false_eq_true, and_true, true_and, and_false, false_and, or_true, true_or, or_false, false_or, and_self, or_self] <;> rfl))
  have hi := (okB_lt c2).1
  refine J_astore d_RF_scale_5 (by decide) ?_
  refine J_lload_n d_RF_scale_7 rfl rfl ?_
  refine J_lconst (v := 0) d_RF_scale_8 (by decide) ?_
  refine J_lcmp d_RF_scale_9 ?_
  refine J_lif_lt (tgt := 21) d_RF_scale_10 (by decide) (fun c10 => ?_) (fun c10 => ?_)
  · skip
    exact J_throw xh_RF_59 xs_RF_194 ⟨Nat.le_of_ble_eq_true rfl, Nat.le_of_ble_eq_true rfl, Nat.le_of_ble_eq_true rfl, Nat.le_of_ble_eq_true rfl⟩ rfl d_RF_scale_21 d_RF_scale_24 d_RF_scale_25 d_RF_scale_27 d_RF_scale_30 rfl rfl (by simp only [xif, c2, c10, Classical.not_not, if_true, if_false, not_true_eq_false, not_false_eq_true, and_true, true_and, and_false, false_and, or_true, true_or, or_false, false_or, and_self, or_self] <;> rfl)
  · skip
    refine J_lload_n d_RF_scale_13 rfl rfl ?_
    refine J_ldc2_w d_RF_scale_14 xj_RF_192 ?_
    refine J_lcmp d_RF_scale_17 ?_
    refine J_lif_le (tgt := 31) d_RF_scale_18 (by decide) (fun c18 => ?_) (fun c18 => ?_)
    · skip
      refine J_aload d_RF_scale_31 rfl ?_
      refine J_lload_n d_RF_scale_33 rfl rfl ?_
      refine J_put d_RF_scale_34 xf_RF_147 xt_Bi (fun _ _ _ h => by cases h; rfl) rfl rfl (ch_bin hi) (Nat.le_of_ble_eq_true rfl) ?_
      refine J_heap (ch_setb (v := ((bn n.toNatClampNeg).1, (bn n.toNatClampNeg).2.1, (bn n.toNatClampNeg).2.2.1, (bn n.toNatClampNeg).2.2.2.1, g, (bn n.toNatClampNeg).2.2.2.2.2)) hi) ?_
      exact J_return d_RF_scale_37 rfl (by simp only [xif, c2, c10, c18, Classical.not_not, if_true, if_false, not_true_eq_false, not_false_eq_true, and_true, true_and, and_false, false_and, or_true, true_or, or_false, false_or, and_self, or_self] <;> rfl)
    · skip
      exact J_throw xh_RF_59 xs_RF_194 ⟨Nat.le_of_ble_eq_true rfl, Nat.le_of_ble_eq_true rfl, Nat.le_of_ble_eq_true rfl, Nat.le_of_ble_eq_true rfl⟩ rfl d_RF_scale_21 d_RF_scale_24 d_RF_scale_25 d_RF_scale_27 d_RF_scale_30 rfl rfl (by simp only [xif, c2, c10, c18, Classical.not_not, if_true, if_false, not_true_eq_false, not_false_eq_true, and_true, true_and, and_false, false_and, or_true, true_or, or_false, false_or, and_self, or_self] <;> rfl)
set_option maxHeartbeats 4000000 in
set_option maxRecDepth 100000 in
theorem m_span {n lo up : Int32} (hG : gTok G) : XM G Y_RF_span [.ref 0, .int n, .int lo, .int up] (1, ch sa sb lt tt lg bc gi go sh bn sc rw dy pt R) (xif (okB bc n) (xif (¬ lo < 0 ∧ ¬ up < lo ∧ up ≤ 1000) (.inl (none), (0, ch sa sb lt tt lg bc gi go sh (vf_upd bn n.toNatClampNeg ((bn n.toNatClampNeg).1, (bn n.toNatClampNeg).2.1, (bn n.toNatClampNeg).2.2.1, (bn n.toNatClampNeg).2.2.2.1, (bn n.toNatClampNeg).2.2.2.2.1, lo, up)) sc rw dy pt R), 0, 0) (.inr "java/lang/IllegalArgumentException", (0, ch sa sb lt tt lg bc gi go sh bn sc rw dy pt R), 1, 6)) (.inr "java/lang/IndexOutOfBoundsException", (0, ch sa sb lt tt lg bc gi go sh bn sc rw dy pt R), 1, 6)) := by
  refine XM_of (by decide +kernel) (Nat.le_of_ble_eq_true rfl) (Or.inl rfl) ?_
  refine J_aload_n d_RF_span_0 rfl rfl ?_
  refine J_iload_n d_RF_span_1 rfl rfl ?_
  refine J_callO (xGo_v1 d_RF_span_2 xc_RF_126 rfl rfl rfl) ⟨xq_RF_binAt.1, xq_RF_binAt.2.1⟩ ⟨Nat.le_of_ble_eq_true rfl, Nat.le_of_ble_eq_true rfl, Nat.le_of_ble_eq_true rfl, Nat.le_of_ble_eq_true rfl⟩ (Nat.le_of_ble_eq_true rfl) (m_binAt hG) rfl (fun c2 => ?_) (fun c2 => (by simp only [xif, c2, Classical.not_not, if_true, if_false, not_true_eq_false, not_false_eq_true, and_true, true_and, and_false, false_and, or_true, true_or, or_false, false_or, and_self, or_self] <;> rfl))
  have hi := (okB_lt c2).1
  refine J_astore d_RF_span_5 (by decide) ?_
  refine J_iload_n d_RF_span_7 rfl rfl ?_
  refine J_if_lt (tgt := 23) d_RF_span_8 (by decide) (fun c8 => ?_) (fun c8 => ?_)
  · skip
    exact J_throwW xh_RF_59 xs_RF_260 ⟨Nat.le_of_ble_eq_true rfl, Nat.le_of_ble_eq_true rfl, Nat.le_of_ble_eq_true rfl, Nat.le_of_ble_eq_true rfl⟩ rfl d_RF_span_23 d_RF_span_26 d_RF_span_27 d_RF_span_30 d_RF_span_33 rfl rfl (by simp only [xif, c2, c8, Classical.not_not, if_true, if_false, not_true_eq_false, not_false_eq_true, and_true, true_and, and_false, false_and, or_true, true_or, or_false, false_or, and_self, or_self] <;> rfl)
  · skip
    refine J_iload_n d_RF_span_11 rfl rfl ?_
    refine J_iload_n d_RF_span_12 rfl rfl ?_
    refine J_icmp_lt (tgt := 23) d_RF_span_13 (by decide) (fun c13 => ?_) (fun c13 => ?_)
    · skip
      exact J_throwW xh_RF_59 xs_RF_260 ⟨Nat.le_of_ble_eq_true rfl, Nat.le_of_ble_eq_true rfl, Nat.le_of_ble_eq_true rfl, Nat.le_of_ble_eq_true rfl⟩ rfl d_RF_span_23 d_RF_span_26 d_RF_span_27 d_RF_span_30 d_RF_span_33 rfl rfl (by simp only [xif, c2, c8, c13, Classical.not_not, if_true, if_false, not_true_eq_false, not_false_eq_true, and_true, true_and, and_false, false_and, or_true, true_or, or_false, false_or, and_self, or_self] <;> rfl)
    · skip
      refine J_iload_n d_RF_span_16 rfl rfl ?_
      refine J_sipush (v := 1000) d_RF_span_17 (by decide) ?_
      refine J_icmp_le (tgt := 34) d_RF_span_20 (by decide) (fun c20 => ?_) (fun c20 => ?_)
      · skip
        refine J_aload d_RF_span_34 rfl ?_
        refine J_iload_n d_RF_span_36 rfl rfl ?_
        refine J_put d_RF_span_37 xf_RF_262 xt_Bi (fun _ _ _ h => by cases h; rfl) rfl rfl (ch_bin hi) (Nat.le_of_ble_eq_true rfl) ?_
        refine J_heap (ch_setb (v := ((bn n.toNatClampNeg).1, (bn n.toNatClampNeg).2.1, (bn n.toNatClampNeg).2.2.1, (bn n.toNatClampNeg).2.2.2.1, (bn n.toNatClampNeg).2.2.2.2.1, lo, (bn n.toNatClampNeg).2.2.2.2.2.2)) hi) ?_
        refine J_aload d_RF_span_40 rfl ?_
        refine J_iload_n d_RF_span_42 rfl rfl ?_
        refine J_put d_RF_span_43 xf_RF_265 xt_Bi (fun _ _ _ h => by cases h; rfl) rfl rfl (ch_bin hi) (Nat.le_of_ble_eq_true rfl) ?_
        refine J_heap (ch_setb (v := ((vf_upd bn n.toNatClampNeg ((bn n.toNatClampNeg).1, (bn n.toNatClampNeg).2.1, (bn n.toNatClampNeg).2.2.1, (bn n.toNatClampNeg).2.2.2.1, (bn n.toNatClampNeg).2.2.2.2.1, lo, (bn n.toNatClampNeg).2.2.2.2.2.2) n.toNatClampNeg).1, (vf_upd bn n.toNatClampNeg ((bn n.toNatClampNeg).1, (bn n.toNatClampNeg).2.1, (bn n.toNatClampNeg).2.2.1, (bn n.toNatClampNeg).2.2.2.1, (bn n.toNatClampNeg).2.2.2.2.1, lo, (bn n.toNatClampNeg).2.2.2.2.2.2) n.toNatClampNeg).2.1, (vf_upd bn n.toNatClampNeg ((bn n.toNatClampNeg).1, (bn n.toNatClampNeg).2.1, (bn n.toNatClampNeg).2.2.1, (bn n.toNatClampNeg).2.2.2.1, (bn n.toNatClampNeg).2.2.2.2.1, lo, (bn n.toNatClampNeg).2.2.2.2.2.2) n.toNatClampNeg).2.2.1, (vf_upd bn n.toNatClampNeg ((bn n.toNatClampNeg).1, (bn n.toNatClampNeg).2.1, (bn n.toNatClampNeg).2.2.1, (bn n.toNatClampNeg).2.2.2.1, (bn n.toNatClampNeg).2.2.2.2.1, lo, (bn n.toNatClampNeg).2.2.2.2.2.2) n.toNatClampNeg).2.2.2.1, (vf_upd bn n.toNatClampNeg ((bn n.toNatClampNeg).1, (bn n.toNatClampNeg).2.1, (bn n.toNatClampNeg).2.2.1, (bn n.toNatClampNeg).2.2.2.1, (bn n.toNatClampNeg).2.2.2.2.1, lo, (bn n.toNatClampNeg).2.2.2.2.2.2) n.toNatClampNeg).2.2.2.2.1, (vf_upd bn n.toNatClampNeg ((bn n.toNatClampNeg).1, (bn n.toNatClampNeg).2.1, (bn n.toNatClampNeg).2.2.1, (bn n.toNatClampNeg).2.2.2.1, (bn n.toNatClampNeg).2.2.2.2.1, lo, (bn n.toNatClampNeg).2.2.2.2.2.2) n.toNatClampNeg).2.2.2.2.2.1, up)) hi) ?_
        simp only [vf_us, vf_uu]
        exact J_return d_RF_span_46 rfl (by simp only [xif, c2, c8, c13, c20, Classical.not_not, if_true, if_false, not_true_eq_false, not_false_eq_true, and_true, true_and, and_false, false_and, or_true, true_or, or_false, false_or, and_self, or_self] <;> rfl)
      · skip
        exact J_throwW xh_RF_59 xs_RF_260 ⟨Nat.le_of_ble_eq_true rfl, Nat.le_of_ble_eq_true rfl, Nat.le_of_ble_eq_true rfl, Nat.le_of_ble_eq_true rfl⟩ rfl d_RF_span_23 d_RF_span_26 d_RF_span_27 d_RF_span_30 d_RF_span_33 rfl rfl (by simp only [xif, c2, c8, c13, c20, Classical.not_not, if_true, if_false, not_true_eq_false, not_false_eq_true, and_true, true_and, and_false, false_and, or_true, true_or, or_false, false_or, and_self, or_self] <;> rfl)
def s_gl (bn : Nat → cB) : Nat → Nat → Int64 → Int64
  | 0, _, acc => acc
  | n + 1, i, acc => s_gl bn n (i + 1) (if (bn i).2.2.2.2.1 = -1 then acc else acc + (s_gr (bn i) - (bn i).2.2.2.2.1))
def s_su (bn : Nat → cB) : Nat → Nat → Int64 → Int64
  | 0, _, acc => acc
  | n + 1, i, acc => s_su bn n (i + 1) (acc + (bn i).2.2.1)
def s_be (b : cB) : cB := (b.1, b.2.1, b.2.2.1, b.2.2.2.1, -1, b.2.2.2.2.2)
set_option maxHeartbeats 4000000 in
set_option maxRecDepth 100000 in
theorem m_begin (hG : gTok G) : XM G Y_RF_begin [.ref 0] (1, ch sa sb lt tt lg bc gi go sh bn sc rw dy pt R) (.inl (none), (0, ch sa sb lt tt lg bc 0 0 (sh + 1) (fun i => s_be (bn i)) sc rw dy pt R), 0, 0) := by
  refine XM_of (by decide +kernel) (Nat.le_of_ble_eq_true rfl) (Or.inl rfl) ?_
  refine J_iconst (v := 0) d_RF_begin_0 (by decide) ?_
  refine J_istore_n d_RF_begin_1 rfl (by decide) ?_
  refine J_iload_n d_RF_begin_2 rfl rfl ?_
  refine J_bipush (v := 8) d_RF_begin_3 (by decide) ?_
  refine J_icmp_ge (tgt := 26) d_RF_begin_5 (by decide) (fun q => absurd q (by decide)) (fun _ => ?_)
  refine J_aload_n d_RF_begin_8 rfl rfl ?_
  refine J_get d_RF_begin_9 xf_RF_33 rfl rfl ?_
  refine J_iload_n d_RF_begin_12 rfl rfl ?_
  refine J_aald d_RF_begin_13 (gt3' hG) rfl (vp_in_nI (n := 0) (by decide) (by decide)) rfl ?_
  refine J_ldc2_w d_RF_begin_14 xj_RF_210 ?_
  refine J_put d_RF_begin_17 xf_RF_147 xt_Bi (fun _ _ _ h => by cases h; rfl) rfl rfl rfl (Nat.le_of_ble_eq_true rfl) ?_
  refine J_iinc (v := 1) d_RF_begin_20 rfl (by decide) (by decide) ?_
  refine J_goto (tgt := 2) d_RF_begin_23 (by decide) ?_
  refine J_iload_n d_RF_begin_2 rfl rfl ?_
  refine J_bipush (v := 8) d_RF_begin_3 (by decide) ?_
  refine J_icmp_ge (tgt := 26) d_RF_begin_5 (by decide) (fun q => absurd q (by decide)) (fun _ => ?_)
  refine J_aload_n d_RF_begin_8 rfl rfl ?_
  refine J_get d_RF_begin_9 xf_RF_33 rfl rfl ?_
  refine J_iload_n d_RF_begin_12 rfl rfl ?_
  refine J_aald d_RF_begin_13 (gt3' hG) rfl (vp_in_nI (n := 1) (by decide) (by decide)) rfl ?_
  refine J_ldc2_w d_RF_begin_14 xj_RF_210 ?_
  refine J_put d_RF_begin_17 xf_RF_147 xt_Bi (fun _ _ _ h => by cases h; rfl) rfl rfl rfl (Nat.le_of_ble_eq_true rfl) ?_
  refine J_iinc (v := 2) d_RF_begin_20 rfl (by decide) (by decide) ?_
  refine J_goto (tgt := 2) d_RF_begin_23 (by decide) ?_
  refine J_iload_n d_RF_begin_2 rfl rfl ?_
  refine J_bipush (v := 8) d_RF_begin_3 (by decide) ?_
  refine J_icmp_ge (tgt := 26) d_RF_begin_5 (by decide) (fun q => absurd q (by decide)) (fun _ => ?_)
  refine J_aload_n d_RF_begin_8 rfl rfl ?_
  refine J_get d_RF_begin_9 xf_RF_33 rfl rfl ?_
  refine J_iload_n d_RF_begin_12 rfl rfl ?_
  refine J_aald d_RF_begin_13 (gt3' hG) rfl (vp_in_nI (n := 2) (by decide) (by decide)) rfl ?_
  refine J_ldc2_w d_RF_begin_14 xj_RF_210 ?_
  refine J_put d_RF_begin_17 xf_RF_147 xt_Bi (fun _ _ _ h => by cases h; rfl) rfl rfl rfl (Nat.le_of_ble_eq_true rfl) ?_
  refine J_iinc (v := 3) d_RF_begin_20 rfl (by decide) (by decide) ?_
  refine J_goto (tgt := 2) d_RF_begin_23 (by decide) ?_
  refine J_iload_n d_RF_begin_2 rfl rfl ?_
  refine J_bipush (v := 8) d_RF_begin_3 (by decide) ?_
  refine J_icmp_ge (tgt := 26) d_RF_begin_5 (by decide) (fun q => absurd q (by decide)) (fun _ => ?_)
  refine J_aload_n d_RF_begin_8 rfl rfl ?_
  refine J_get d_RF_begin_9 xf_RF_33 rfl rfl ?_
  refine J_iload_n d_RF_begin_12 rfl rfl ?_
  refine J_aald d_RF_begin_13 (gt3' hG) rfl (vp_in_nI (n := 3) (by decide) (by decide)) rfl ?_
  refine J_ldc2_w d_RF_begin_14 xj_RF_210 ?_
  refine J_put d_RF_begin_17 xf_RF_147 xt_Bi (fun _ _ _ h => by cases h; rfl) rfl rfl rfl (Nat.le_of_ble_eq_true rfl) ?_
  refine J_iinc (v := 4) d_RF_begin_20 rfl (by decide) (by decide) ?_
  refine J_goto (tgt := 2) d_RF_begin_23 (by decide) ?_
  refine J_iload_n d_RF_begin_2 rfl rfl ?_
  refine J_bipush (v := 8) d_RF_begin_3 (by decide) ?_
  refine J_icmp_ge (tgt := 26) d_RF_begin_5 (by decide) (fun q => absurd q (by decide)) (fun _ => ?_)
  refine J_aload_n d_RF_begin_8 rfl rfl ?_
  refine J_get d_RF_begin_9 xf_RF_33 rfl rfl ?_
  refine J_iload_n d_RF_begin_12 rfl rfl ?_
  refine J_aald d_RF_begin_13 (gt3' hG) rfl (vp_in_nI (n := 4) (by decide) (by decide)) rfl ?_
  refine J_ldc2_w d_RF_begin_14 xj_RF_210 ?_
  refine J_put d_RF_begin_17 xf_RF_147 xt_Bi (fun _ _ _ h => by cases h; rfl) rfl rfl rfl (Nat.le_of_ble_eq_true rfl) ?_
  refine J_iinc (v := 5) d_RF_begin_20 rfl (by decide) (by decide) ?_
  refine J_goto (tgt := 2) d_RF_begin_23 (by decide) ?_
  refine J_iload_n d_RF_begin_2 rfl rfl ?_
  refine J_bipush (v := 8) d_RF_begin_3 (by decide) ?_
  refine J_icmp_ge (tgt := 26) d_RF_begin_5 (by decide) (fun q => absurd q (by decide)) (fun _ => ?_)
  refine J_aload_n d_RF_begin_8 rfl rfl ?_
  refine J_get d_RF_begin_9 xf_RF_33 rfl rfl ?_
  refine J_iload_n d_RF_begin_12 rfl rfl ?_
  refine J_aald d_RF_begin_13 (gt3' hG) rfl (vp_in_nI (n := 5) (by decide) (by decide)) rfl ?_
  refine J_ldc2_w d_RF_begin_14 xj_RF_210 ?_
  refine J_put d_RF_begin_17 xf_RF_147 xt_Bi (fun _ _ _ h => by cases h; rfl) rfl rfl rfl (Nat.le_of_ble_eq_true rfl) ?_
  refine J_iinc (v := 6) d_RF_begin_20 rfl (by decide) (by decide) ?_
  refine J_goto (tgt := 2) d_RF_begin_23 (by decide) ?_
  refine J_iload_n d_RF_begin_2 rfl rfl ?_
  refine J_bipush (v := 8) d_RF_begin_3 (by decide) ?_
  refine J_icmp_ge (tgt := 26) d_RF_begin_5 (by decide) (fun q => absurd q (by decide)) (fun _ => ?_)
  refine J_aload_n d_RF_begin_8 rfl rfl ?_
  refine J_get d_RF_begin_9 xf_RF_33 rfl rfl ?_
  refine J_iload_n d_RF_begin_12 rfl rfl ?_
  refine J_aald d_RF_begin_13 (gt3' hG) rfl (vp_in_nI (n := 6) (by decide) (by decide)) rfl ?_
  refine J_ldc2_w d_RF_begin_14 xj_RF_210 ?_
  refine J_put d_RF_begin_17 xf_RF_147 xt_Bi (fun _ _ _ h => by cases h; rfl) rfl rfl rfl (Nat.le_of_ble_eq_true rfl) ?_
  refine J_iinc (v := 7) d_RF_begin_20 rfl (by decide) (by decide) ?_
  refine J_goto (tgt := 2) d_RF_begin_23 (by decide) ?_
  refine J_iload_n d_RF_begin_2 rfl rfl ?_
  refine J_bipush (v := 8) d_RF_begin_3 (by decide) ?_
  refine J_icmp_ge (tgt := 26) d_RF_begin_5 (by decide) (fun q => absurd q (by decide)) (fun _ => ?_)
  refine J_aload_n d_RF_begin_8 rfl rfl ?_
  refine J_get d_RF_begin_9 xf_RF_33 rfl rfl ?_
  refine J_iload_n d_RF_begin_12 rfl rfl ?_
  refine J_aald d_RF_begin_13 (gt3' hG) rfl (vp_in_nI (n := 7) (by decide) (by decide)) rfl ?_
  refine J_ldc2_w d_RF_begin_14 xj_RF_210 ?_
  refine J_put d_RF_begin_17 xf_RF_147 xt_Bi (fun _ _ _ h => by cases h; rfl) rfl rfl rfl (Nat.le_of_ble_eq_true rfl) ?_
  refine J_iinc (v := 8) d_RF_begin_20 rfl (by decide) (by decide) ?_
  refine J_goto (tgt := 2) d_RF_begin_23 (by decide) ?_
  refine J_iload_n d_RF_begin_2 rfl rfl ?_
  refine J_bipush (v := 8) d_RF_begin_3 (by decide) ?_
  refine J_icmp_ge (tgt := 26) d_RF_begin_5 (by decide) (fun _ => ?_) (fun q => absurd (by decide) q)
  refine J_aload_n d_RF_begin_26 rfl rfl ?_
  refine J_lconst (v := 0) d_RF_begin_27 (by decide) ?_
  refine J_put d_RF_begin_28 xf_RF_199 xt_RF (fun _ _ _ h => by cases h; rfl) rfl rfl rfl (Nat.le_of_ble_eq_true rfl) ?_
  refine J_aload_n d_RF_begin_31 rfl rfl ?_
  refine J_lconst (v := 0) d_RF_begin_32 (by decide) ?_
  refine J_put d_RF_begin_33 xf_RF_202 xt_RF (fun _ _ _ h => by cases h; rfl) rfl rfl rfl (Nat.le_of_ble_eq_true rfl) ?_
  refine J_aload_n d_RF_begin_36 rfl rfl ?_
  refine J_dup d_RF_begin_37 ?_
  refine J_get d_RF_begin_38 xf_RF_205 rfl rfl ?_
  refine J_iconst (v := 1) d_RF_begin_41 (by decide) ?_
  refine J_iadd d_RF_begin_42 ?_
  refine J_put d_RF_begin_43 xf_RF_205 xt_RF (fun _ _ _ h => by cases h; rfl) rfl rfl rfl (Nat.le_of_ble_eq_true rfl) ?_
  exact J_return d_RF_begin_46 rfl rfl
set_option maxHeartbeats 4000000 in
set_option maxRecDepth 100000 in
theorem m_carbon (hG : gTok G) : XM G Y_RF_carbon [.ref 0] (1, ch sa sb lt tt lg bc gi go sh bn sc rw dy pt R) (.inl (some (.long (s_su bn 8 0 0 / 2))), (1, ch sa sb lt tt lg bc gi go sh bn sc rw dy pt R), 0, 0) := by
  refine XM_of (by decide +kernel) (Nat.le_of_ble_eq_true rfl) (Or.inl rfl) ?_
  refine J_lconst (v := 0) d_RF_carbon_0 (by decide) ?_
  refine J_lstore_n d_RF_carbon_1 rfl (by decide) ?_
  refine J_iconst (v := 0) d_RF_carbon_2 (by decide) ?_
  refine J_istore_n d_RF_carbon_3 rfl (by decide) ?_
  refine J_iload_n d_RF_carbon_4 rfl rfl ?_
  refine J_bipush (v := 8) d_RF_carbon_5 (by decide) ?_
  refine J_icmp_ge (tgt := 28) d_RF_carbon_7 (by decide) (fun q => absurd q (by decide)) (fun _ => ?_)
  refine J_lload_n d_RF_carbon_10 rfl rfl ?_
  refine J_aload_n d_RF_carbon_11 rfl rfl ?_
  refine J_get d_RF_carbon_12 xf_RF_33 rfl rfl ?_
  refine J_iload_n d_RF_carbon_15 rfl rfl ?_
  refine J_aald d_RF_carbon_16 (gt3' hG) rfl (vp_in_nI (n := 0) (by decide) (by decide)) rfl ?_
  refine J_get d_RF_carbon_17 xf_RF_141 rfl rfl ?_
  refine J_ladd d_RF_carbon_20 ?_
  refine J_lstore_n d_RF_carbon_21 rfl (by decide) ?_
  refine J_iinc (v := 1) d_RF_carbon_22 rfl (by decide) (by decide) ?_
  refine J_goto (tgt := 4) d_RF_carbon_25 (by decide) ?_
  refine J_iload_n d_RF_carbon_4 rfl rfl ?_
  refine J_bipush (v := 8) d_RF_carbon_5 (by decide) ?_
  refine J_icmp_ge (tgt := 28) d_RF_carbon_7 (by decide) (fun q => absurd q (by decide)) (fun _ => ?_)
  refine J_lload_n d_RF_carbon_10 rfl rfl ?_
  refine J_aload_n d_RF_carbon_11 rfl rfl ?_
  refine J_get d_RF_carbon_12 xf_RF_33 rfl rfl ?_
  refine J_iload_n d_RF_carbon_15 rfl rfl ?_
  refine J_aald d_RF_carbon_16 (gt3' hG) rfl (vp_in_nI (n := 1) (by decide) (by decide)) rfl ?_
  refine J_get d_RF_carbon_17 xf_RF_141 rfl rfl ?_
  refine J_ladd d_RF_carbon_20 ?_
  refine J_lstore_n d_RF_carbon_21 rfl (by decide) ?_
  refine J_iinc (v := 2) d_RF_carbon_22 rfl (by decide) (by decide) ?_
  refine J_goto (tgt := 4) d_RF_carbon_25 (by decide) ?_
  refine J_iload_n d_RF_carbon_4 rfl rfl ?_
  refine J_bipush (v := 8) d_RF_carbon_5 (by decide) ?_
  refine J_icmp_ge (tgt := 28) d_RF_carbon_7 (by decide) (fun q => absurd q (by decide)) (fun _ => ?_)
  refine J_lload_n d_RF_carbon_10 rfl rfl ?_
  refine J_aload_n d_RF_carbon_11 rfl rfl ?_
  refine J_get d_RF_carbon_12 xf_RF_33 rfl rfl ?_
  refine J_iload_n d_RF_carbon_15 rfl rfl ?_
  refine J_aald d_RF_carbon_16 (gt3' hG) rfl (vp_in_nI (n := 2) (by decide) (by decide)) rfl ?_
  refine J_get d_RF_carbon_17 xf_RF_141 rfl rfl ?_
  refine J_ladd d_RF_carbon_20 ?_
  refine J_lstore_n d_RF_carbon_21 rfl (by decide) ?_
  refine J_iinc (v := 3) d_RF_carbon_22 rfl (by decide) (by decide) ?_
  refine J_goto (tgt := 4) d_RF_carbon_25 (by decide) ?_
  refine J_iload_n d_RF_carbon_4 rfl rfl ?_
  refine J_bipush (v := 8) d_RF_carbon_5 (by decide) ?_
  refine J_icmp_ge (tgt := 28) d_RF_carbon_7 (by decide) (fun q => absurd q (by decide)) (fun _ => ?_)
  refine J_lload_n d_RF_carbon_10 rfl rfl ?_
  refine J_aload_n d_RF_carbon_11 rfl rfl ?_
  refine J_get d_RF_carbon_12 xf_RF_33 rfl rfl ?_
  refine J_iload_n d_RF_carbon_15 rfl rfl ?_
  refine J_aald d_RF_carbon_16 (gt3' hG) rfl (vp_in_nI (n := 3) (by decide) (by decide)) rfl ?_
  refine J_get d_RF_carbon_17 xf_RF_141 rfl rfl ?_
  refine J_ladd d_RF_carbon_20 ?_
  refine J_lstore_n d_RF_carbon_21 rfl (by decide) ?_
  refine J_iinc (v := 4) d_RF_carbon_22 rfl (by decide) (by decide) ?_
  refine J_goto (tgt := 4) d_RF_carbon_25 (by decide) ?_
  refine J_iload_n d_RF_carbon_4 rfl rfl ?_
  refine J_bipush (v := 8) d_RF_carbon_5 (by decide) ?_
  refine J_icmp_ge (tgt := 28) d_RF_carbon_7 (by decide) (fun q => absurd q (by decide)) (fun _ => ?_)
  refine J_lload_n d_RF_carbon_10 rfl rfl ?_
  refine J_aload_n d_RF_carbon_11 rfl rfl ?_
  refine J_get d_RF_carbon_12 xf_RF_33 rfl rfl ?_
  refine J_iload_n d_RF_carbon_15 rfl rfl ?_
  refine J_aald d_RF_carbon_16 (gt3' hG) rfl (vp_in_nI (n := 4) (by decide) (by decide)) rfl ?_
  refine J_get d_RF_carbon_17 xf_RF_141 rfl rfl ?_
  refine J_ladd d_RF_carbon_20 ?_
  refine J_lstore_n d_RF_carbon_21 rfl (by decide) ?_
  refine J_iinc (v := 5) d_RF_carbon_22 rfl (by decide) (by decide) ?_
  refine J_goto (tgt := 4) d_RF_carbon_25 (by decide) ?_
  refine J_iload_n d_RF_carbon_4 rfl rfl ?_
  refine J_bipush (v := 8) d_RF_carbon_5 (by decide) ?_
  refine J_icmp_ge (tgt := 28) d_RF_carbon_7 (by decide) (fun q => absurd q (by decide)) (fun _ => ?_)
  refine J_lload_n d_RF_carbon_10 rfl rfl ?_
  refine J_aload_n d_RF_carbon_11 rfl rfl ?_
  refine J_get d_RF_carbon_12 xf_RF_33 rfl rfl ?_
  refine J_iload_n d_RF_carbon_15 rfl rfl ?_
  refine J_aald d_RF_carbon_16 (gt3' hG) rfl (vp_in_nI (n := 5) (by decide) (by decide)) rfl ?_
  refine J_get d_RF_carbon_17 xf_RF_141 rfl rfl ?_
  refine J_ladd d_RF_carbon_20 ?_
  refine J_lstore_n d_RF_carbon_21 rfl (by decide) ?_
  refine J_iinc (v := 6) d_RF_carbon_22 rfl (by decide) (by decide) ?_
  refine J_goto (tgt := 4) d_RF_carbon_25 (by decide) ?_
  refine J_iload_n d_RF_carbon_4 rfl rfl ?_
  refine J_bipush (v := 8) d_RF_carbon_5 (by decide) ?_
  refine J_icmp_ge (tgt := 28) d_RF_carbon_7 (by decide) (fun q => absurd q (by decide)) (fun _ => ?_)
  refine J_lload_n d_RF_carbon_10 rfl rfl ?_
  refine J_aload_n d_RF_carbon_11 rfl rfl ?_
  refine J_get d_RF_carbon_12 xf_RF_33 rfl rfl ?_
  refine J_iload_n d_RF_carbon_15 rfl rfl ?_
  refine J_aald d_RF_carbon_16 (gt3' hG) rfl (vp_in_nI (n := 6) (by decide) (by decide)) rfl ?_
  refine J_get d_RF_carbon_17 xf_RF_141 rfl rfl ?_
  refine J_ladd d_RF_carbon_20 ?_
  refine J_lstore_n d_RF_carbon_21 rfl (by decide) ?_
  refine J_iinc (v := 7) d_RF_carbon_22 rfl (by decide) (by decide) ?_
  refine J_goto (tgt := 4) d_RF_carbon_25 (by decide) ?_
  refine J_iload_n d_RF_carbon_4 rfl rfl ?_
  refine J_bipush (v := 8) d_RF_carbon_5 (by decide) ?_
  refine J_icmp_ge (tgt := 28) d_RF_carbon_7 (by decide) (fun q => absurd q (by decide)) (fun _ => ?_)
  refine J_lload_n d_RF_carbon_10 rfl rfl ?_
  refine J_aload_n d_RF_carbon_11 rfl rfl ?_
  refine J_get d_RF_carbon_12 xf_RF_33 rfl rfl ?_
  refine J_iload_n d_RF_carbon_15 rfl rfl ?_
  refine J_aald d_RF_carbon_16 (gt3' hG) rfl (vp_in_nI (n := 7) (by decide) (by decide)) rfl ?_
  refine J_get d_RF_carbon_17 xf_RF_141 rfl rfl ?_
  refine J_ladd d_RF_carbon_20 ?_
  refine J_lstore_n d_RF_carbon_21 rfl (by decide) ?_
  refine J_iinc (v := 8) d_RF_carbon_22 rfl (by decide) (by decide) ?_
  refine J_goto (tgt := 4) d_RF_carbon_25 (by decide) ?_
  refine J_iload_n d_RF_carbon_4 rfl rfl ?_
  refine J_bipush (v := 8) d_RF_carbon_5 (by decide) ?_
  refine J_icmp_ge (tgt := 28) d_RF_carbon_7 (by decide) (fun _ => ?_) (fun q => absurd (by decide) q)
  refine J_lload_n d_RF_carbon_28 rfl rfl ?_
  refine J_ldc2_w d_RF_carbon_29 xj_RF_278 ?_
  refine J_ldiv d_RF_carbon_32 (by decide) ?_
  exact J_lreturn d_RF_carbon_33 rfl rfl
theorem J_loc {k : Nat × Nat} {y : xY} {pc : Nat} {L L2 : List (Nat × Value)} {st : List Value} {w : xH} {r : xR} (e : L = L2) (h : JW G y k pc L2 st w r) : JW G y k pc L st w r := by
  subst e
  exact h
theorem J_res {k : Nat × Nat} {y : xY} {pc : Nat} {L : List (Nat × Value)} {st : List Value} {w : xH} {r r2 : xR} (e : r2 = r) (h : JW G y k pc L st w r2) : JW G y k pc L st w r := by
  subst e
  exact h
set_option maxHeartbeats 4000000 in
set_option maxRecDepth 100000 in
theorem l_gramsLost (hG : gTok G) : ∀ (m i : Nat) (acc : Int64), i + m = 8 → JW G Y_RF_gramsLost (0, 0) 4 [(3, .int (nI i)), (1, .long acc), (0, .ref 0)] [] (1, ch sa sb lt tt lg bc gi go sh bn sc rw dy pt R) (.inl (some (.long (s_gl bn m i acc))), (1, ch sa sb lt tt lg bc gi go sh bn sc rw dy pt R), 0, 0) := by
  intro m
  induction m with
  | zero =>
    intro i acc hi
    have hi : i = 8 := by omega
    subst hi
    refine J_iload_n d_RF_gramsLost_4 rfl rfl ?_
    refine J_bipush (v := 8) d_RF_gramsLost_5 (by decide) ?_
    refine J_icmp_ge (tgt := 54) d_RF_gramsLost_7 (by decide) (fun _ => ?_) (fun q => absurd (by decide) q)
    refine J_lload_n d_RF_gramsLost_54 rfl rfl ?_
    exact J_lreturn d_RF_gramsLost_55 rfl rfl
  | succ m ih =>
    intro i acc hi
    have hi8 : i < 8 := by omega
    refine J_iload_n d_RF_gramsLost_4 rfl rfl ?_
    refine J_bipush (v := 8) d_RF_gramsLost_5 (by decide) ?_
    refine J_icmp_ge (tgt := 54) d_RF_gramsLost_7 (by decide) (fun c7 => ?_) (fun c7 => ?_)
    · skip
      exact absurd c7 (nI_ge hi8 (by decide))
    · skip
      refine J_aload_n d_RF_gramsLost_10 rfl rfl ?_
      refine J_get d_RF_gramsLost_11 xf_RF_33 rfl rfl ?_
      refine J_iload_n d_RF_gramsLost_14 rfl rfl ?_
      refine J_aald d_RF_gramsLost_15 (gt3' hG) rfl (vp_in_nI hi8 (by decide)) (by rw [nI_clamp (by omega)]; exact fB_at hi8) ?_
      refine J_get d_RF_gramsLost_16 xf_RF_147 (ch_bin hi8) rfl ?_
      refine J_ldc2_w d_RF_gramsLost_19 xj_RF_210 ?_
      refine J_lcmp d_RF_gramsLost_22 ?_
      refine J_lif_eq (tgt := 48) d_RF_gramsLost_23 (by decide) (fun c23 => ?_) (fun c23 => ?_)
      · skip
        refine J_iinc (v := nI (i + 1)) d_RF_gramsLost_48 rfl (nI_1 i) (by decide) ?_
        refine J_goto (tgt := 4) d_RF_gramsLost_51 (by decide) ?_
        refine J_loc (L2 := [(3, .int (nI (i + 1))), (1, .long acc), (0, .ref 0)]) rfl ?_
        refine J_res (r2 := (.inl (some (.long (s_gl bn m (i + 1) acc))), (1, ch sa sb lt tt lg bc gi go sh bn sc rw dy pt R), 0, 0)) (by simp only [s_gl, c23, if_true, if_false]) ?_
        exact ih (i + 1) _ (by omega)
      · skip
        refine J_lload_n d_RF_gramsLost_26 rfl rfl ?_
        refine J_aload_n d_RF_gramsLost_27 rfl rfl ?_
        refine J_get d_RF_gramsLost_28 xf_RF_33 rfl rfl ?_
        refine J_iload_n d_RF_gramsLost_31 rfl rfl ?_
        refine J_aald d_RF_gramsLost_32 (gt3' hG) rfl (vp_in_nI hi8 (by decide)) (by rw [nI_clamp (by omega)]; exact fB_at hi8) ?_
        refine J_callP (xGo_v0 d_RF_gramsLost_33 xc_RF_150 (ch_bin hi8) rfl rfl) ⟨xq_Bi_grams.1, xq_Bi_grams.2.1⟩ ⟨Nat.le_of_ble_eq_true rfl, Nat.le_of_ble_eq_true rfl, Nat.le_of_ble_eq_true rfl, Nat.le_of_ble_eq_true rfl⟩ (Nat.le_of_ble_eq_true rfl) (m_Bi_grams (ch_bin hi8)) ?_
        refine J_aload_n d_RF_gramsLost_36 rfl rfl ?_
        refine J_get d_RF_gramsLost_37 xf_RF_33 rfl rfl ?_
        refine J_iload_n d_RF_gramsLost_40 rfl rfl ?_
        refine J_aald d_RF_gramsLost_41 (gt3' hG) rfl (vp_in_nI hi8 (by decide)) (by rw [nI_clamp (by omega)]; exact fB_at hi8) ?_
        refine J_get d_RF_gramsLost_42 xf_RF_147 (ch_bin hi8) rfl ?_
        refine J_lsub d_RF_gramsLost_45 ?_
        refine J_ladd d_RF_gramsLost_46 ?_
        refine J_lstore_n d_RF_gramsLost_47 rfl (by decide) ?_
        refine J_iinc (v := nI (i + 1)) d_RF_gramsLost_48 rfl (nI_1 i) (by decide) ?_
        refine J_goto (tgt := 4) d_RF_gramsLost_51 (by decide) ?_
        refine J_loc (L2 := [(3, .int (nI (i + 1))), (1, .long (acc + (s_gr (bn i) - (bn i).2.2.2.2.1))), (0, .ref 0)]) rfl ?_
        refine J_res (r2 := (.inl (some (.long (s_gl bn m (i + 1) (acc + (s_gr (bn i) - (bn i).2.2.2.2.1))))), (1, ch sa sb lt tt lg bc gi go sh bn sc rw dy pt R), 0, 0)) (by simp only [s_gl, c23, if_true, if_false]) ?_
        exact ih (i + 1) _ (by omega)
set_option maxHeartbeats 4000000 in
set_option maxRecDepth 100000 in
theorem m_gramsLost (hG : gTok G) : XM G Y_RF_gramsLost [.ref 0] (1, ch sa sb lt tt lg bc gi go sh bn sc rw dy pt R) (.inl (some (.long (s_gl bn 8 0 0))), (1, ch sa sb lt tt lg bc gi go sh bn sc rw dy pt R), 0, 0) := by
  refine XM_of (by decide +kernel) (Nat.le_of_ble_eq_true rfl) (Or.inl rfl) ?_
  refine J_lconst (v := 0) d_RF_gramsLost_0 (by decide) ?_
  refine J_lstore_n d_RF_gramsLost_1 rfl (by decide) ?_
  refine J_iconst (v := 0) d_RF_gramsLost_2 (by decide) ?_
  refine J_istore_n d_RF_gramsLost_3 rfl (by decide) ?_
  exact J_loc rfl (l_gramsLost hG 8 0 0 rfl)
set_option maxHeartbeats 4000000 in
set_option maxRecDepth 100000 in
theorem m_shift {q : Int32} (hG : gTok G) : XM G Y_RF_shift [.ref 0, .int q] (1, ch sa sb lt tt lg bc gi go sh bn sc rw dy pt R) (if q = 0 then (.inl (some (.long (s_gl bn 8 0 0))), (1, ch sa sb lt tt lg bc gi go sh bn sc rw dy pt R), 0, 0) else (if q = 1 then (.inl (some (.long (gi))), (1, ch sa sb lt tt lg bc gi go sh bn sc rw dy pt R), 0, 0) else (if q = 2 then (.inl (some (.long (go))), (1, ch sa sb lt tt lg bc gi go sh bn sc rw dy pt R), 0, 0) else (if q = 3 then (.inl (some (.long (sh.toInt64))), (1, ch sa sb lt tt lg bc gi go sh bn sc rw dy pt R), 0, 0) else (.inr "java/lang/IndexOutOfBoundsException", (0, ch sa sb lt tt lg bc gi go sh bn sc rw dy pt R), 1, 6))))) := by
  refine XM_of (by decide +kernel) (Nat.le_of_ble_eq_true rfl) (Or.inl rfl) ?_
  refine J_iload_n d_RF_shift_0 rfl rfl ?_
  by_cases e0 : q = 0
  · subst e0
    refine J_tableIn (tgt := 32) d_RF_shift_1 (by decide) (by decide) rfl (by decide) ?_
    refine J_aload_n d_RF_shift_32 rfl rfl ?_
    refine J_callP (xGo_v0 d_RF_shift_33 xc_RF_196 rfl rfl rfl) ⟨xq_RF_gramsLost.1, xq_RF_gramsLost.2.1⟩ ⟨Nat.le_of_ble_eq_true rfl, Nat.le_of_ble_eq_true rfl, Nat.le_of_ble_eq_true rfl, Nat.le_of_ble_eq_true rfl⟩ (Nat.le_of_ble_eq_true rfl) (m_gramsLost hG) ?_
    exact J_lreturn d_RF_shift_36 rfl rfl
  by_cases e1 : q = 1
  · subst e1
    refine J_tableIn (tgt := 37) d_RF_shift_1 (by decide) (by decide) rfl (by decide) ?_
    refine J_aload_n d_RF_shift_37 rfl rfl ?_
    refine J_get d_RF_shift_38 xf_RF_199 rfl rfl ?_
    exact J_lreturn d_RF_shift_41 rfl rfl
  by_cases e2 : q = 2
  · subst e2
    refine J_tableIn (tgt := 42) d_RF_shift_1 (by decide) (by decide) rfl (by decide) ?_
    refine J_aload_n d_RF_shift_42 rfl rfl ?_
    refine J_get d_RF_shift_43 xf_RF_202 rfl rfl ?_
    exact J_lreturn d_RF_shift_46 rfl rfl
  by_cases e3 : q = 3
  · subst e3
    refine J_tableIn (tgt := 47) d_RF_shift_1 (by decide) (by decide) rfl (by decide) ?_
    refine J_aload_n d_RF_shift_47 rfl rfl ?_
    refine J_get d_RF_shift_48 xf_RF_205 rfl rfl ?_
    refine J_i2l d_RF_shift_51 ?_
    exact J_lreturn d_RF_shift_52 rfl rfl
  refine J_tableOut (tgt := 53) d_RF_shift_1 (by have q0 := ti (n := 0) 0 (by decide) e0; have q1 := ti (n := 1) 1 (by decide) e1; have q2 := ti (n := 2) 2 (by decide) e2; have q3 := ti (n := 3) 3 (by decide) e3; omega) (by decide) ?_
  exact J_throw xh_RF_52 xs_RF_208 ⟨Nat.le_of_ble_eq_true rfl, Nat.le_of_ble_eq_true rfl, Nat.le_of_ble_eq_true rfl, Nat.le_of_ble_eq_true rfl⟩ rfl d_RF_shift_53 d_RF_shift_56 d_RF_shift_57 d_RF_shift_59 d_RF_shift_62 rfl rfl (by simp only [e0, e1, e2, e3, if_false])
end XC2
end
