section XC3
variable {G : xG} {sa sb : Int32 × Int32} {lt tt : cP} {lg bc : Int32} {gi go : Int64} {sh : Int32} {bn : Nat → cB} {sc : Nat → cS} {rw : Int32} {dy pt : Nat → Int32} {R : List va_E}
theorem ib0 {r : Int32} (h0 : ¬ r < 0) (h : r < 8) : vp_in r 8 := (okB_lt (bc := 8) ⟨h0, Int32.not_le.mpr h, h⟩).2.2
theorem ib1 {r : Int32} (h0 : ¬ r < 1) (h : r ≤ 8) : vp_in (r - 1) 8 := by
  have e8 : (8 : Int32).toInt = ((8 : Nat) : Int) := by decide
  have h00 : ¬ r < 0 := fun q => h0 (Int32.lt_of_lt_of_le q (by decide))
  obtain ⟨j, hj, e⟩ := nI_of2 e8 h00 h
  cases j with
  | zero => exact absurd (by rw [e]; decide) h0
  | succ j =>
    rw [e, nI_pred]
    exact vp_in_nI (by omega) (by decide)
def s_ld (rw : Int32) (dy : Nat → Int32) : Int32 := if rw < 1 then -1 else if rw ≤ 8 then dy (rw - 1).toNatClampNeg else -1
def s_pl (rw : Int32) (dy pt : Nat → Int32) (d : Int32) : Nat → Nat → Int32 → Int32
  | 0, _, acc => acc
  | m + 1, i, acc => if rw ≤ nI i then acc else s_pl rw dy pt d m (i + 1) (if d < dy (nI i).toNatClampNeg then acc else pt (nI i).toNatClampNeg)
set_option maxHeartbeats 4000000 in
set_option maxRecDepth 100000 in
theorem m_lastDay (hG : gTok G) : XM G Y_Bo_lastDay [.ref 19] (1, ch sa sb lt tt lg bc gi go sh bn sc rw dy pt R) (.inl (some (.int (s_ld rw dy))), (1, ch sa sb lt tt lg bc gi go sh bn sc rw dy pt R), 0, 0) := by
  refine XM_of (by decide +kernel) (Nat.le_of_ble_eq_true rfl) (Or.inl rfl) ?_
  refine J_aload_n d_Bo_lastDay_0 rfl rfl ?_
  refine J_get d_Bo_lastDay_1 xf_Bo_18 rfl rfl ?_
  refine J_iconst (v := 1) d_Bo_lastDay_4 (by decide) ?_
  refine J_icmp_lt (tgt := 17) d_Bo_lastDay_5 (by decide) (fun c5 => ?_) (fun c5 => ?_)
  · skip
    refine J_iconst (v := (-1)) d_Bo_lastDay_17 (by decide) ?_
    refine J_goto (tgt := 32) d_Bo_lastDay_18 (by decide) ?_
    exact J_ireturn d_Bo_lastDay_32 rfl (by simp only [s_ld, c5, Classical.not_not, if_true, if_false, not_true_eq_false, not_false_eq_true, and_true, true_and, and_false, false_and, or_true, true_or, or_false, false_or, and_self, or_self])
  · skip
    refine J_aload_n d_Bo_lastDay_8 rfl rfl ?_
    refine J_get d_Bo_lastDay_9 xf_Bo_18 rfl rfl ?_
    refine J_bipush (v := 8) d_Bo_lastDay_12 (by decide) ?_
    refine J_icmp_le (tgt := 21) d_Bo_lastDay_14 (by decide) (fun c14 => ?_) (fun c14 => ?_)
    · skip
      refine J_aload_n d_Bo_lastDay_21 rfl rfl ?_
      refine J_get d_Bo_lastDay_22 xf_Bo_9 rfl rfl ?_
      refine J_aload_n d_Bo_lastDay_25 rfl rfl ?_
      refine J_get d_Bo_lastDay_26 xf_Bo_18 rfl rfl ?_
      refine J_iconst (v := 1) d_Bo_lastDay_29 (by decide) ?_
      refine J_isub d_Bo_lastDay_30 ?_
      refine J_iald d_Bo_lastDay_31 (gt0 hG) rfl (ib1 c5 c14) ?_
      exact J_ireturn d_Bo_lastDay_32 rfl (by simp only [s_ld, c5, c14, Classical.not_not, if_true, if_false, not_true_eq_false, not_false_eq_true, and_true, true_and, and_false, false_and, or_true, true_or, or_false, false_or, and_self, or_self])
    · skip
      refine J_iconst (v := (-1)) d_Bo_lastDay_17 (by decide) ?_
      refine J_goto (tgt := 32) d_Bo_lastDay_18 (by decide) ?_
      exact J_ireturn d_Bo_lastDay_32 rfl (by simp only [s_ld, c5, c14, Classical.not_not, if_true, if_false, not_true_eq_false, not_false_eq_true, and_true, true_and, and_false, false_and, or_true, true_or, or_false, false_or, and_self, or_self])
set_option maxHeartbeats 4000000 in
set_option maxRecDepth 100000 in
theorem m_Bo_add0 {d q : Int32} (hG : gTok G) (hx : ¬ rw < 8) : XM G Y_Bo_add [.ref 19, .int d, .int q] (1, ch sa sb lt tt lg bc gi go sh bn sc rw dy pt R) (.inl (some (.int 0)), (1, ch sa sb lt tt lg bc gi go sh bn sc rw dy pt R), 0, 0) := by
  refine XM_of (by decide +kernel) (Nat.le_of_ble_eq_true rfl) (Or.inl rfl) ?_
  refine J_aload_n d_Bo_add_0 rfl rfl ?_
  refine J_get d_Bo_add_1 xf_Bo_18 rfl rfl ?_
  refine J_if_lt (tgt := 16) d_Bo_add_4 (by decide) (fun c4 => ?_) (fun c4 => ?_)
  · skip
    refine J_iconst (v := 0) d_Bo_add_16 (by decide) ?_
    exact J_zreturn d_Bo_add_17 rfl rfl rfl
  · skip
    refine J_aload_n d_Bo_add_7 rfl rfl ?_
    refine J_get d_Bo_add_8 xf_Bo_18 rfl rfl ?_
    refine J_bipush (v := 8) d_Bo_add_11 (by decide) ?_
    refine J_icmp_lt (tgt := 18) d_Bo_add_13 (by decide) (fun c13 => ?_) (fun c13 => ?_)
    · skip
      exact absurd c13 hx
    · skip
      refine J_iconst (v := 0) d_Bo_add_16 (by decide) ?_
      exact J_zreturn d_Bo_add_17 rfl rfl rfl
set_option maxHeartbeats 4000000 in
set_option maxRecDepth 100000 in
theorem m_Bo_add1 {d q : Int32} (hG : gTok G) (h0 : ¬ rw < 0) (hx : rw < 8) : XM G Y_Bo_add [.ref 19, .int d, .int q] (1, ch sa sb lt tt lg bc gi go sh bn sc rw dy pt R) (.inl (some (.int 1)), (0, ch sa sb lt tt lg bc gi go sh bn sc (rw + 1) (upd dy rw.toNatClampNeg d) (upd pt rw.toNatClampNeg q) R), 0, 0) := by
  refine XM_of (by decide +kernel) (Nat.le_of_ble_eq_true rfl) (Or.inl rfl) ?_
  refine J_aload_n d_Bo_add_0 rfl rfl ?_
  refine J_get d_Bo_add_1 xf_Bo_18 rfl rfl ?_
  refine J_if_lt (tgt := 16) d_Bo_add_4 (by decide) (fun c4 => ?_) (fun c4 => ?_)
  · skip
    exact absurd c4 h0
  · skip
    refine J_aload_n d_Bo_add_7 rfl rfl ?_
    refine J_get d_Bo_add_8 xf_Bo_18 rfl rfl ?_
    refine J_bipush (v := 8) d_Bo_add_11 (by decide) ?_
    refine J_icmp_lt (tgt := 18) d_Bo_add_13 (by decide) (fun c13 => ?_) (fun c13 => ?_)
    · skip
      refine J_aload_n d_Bo_add_18 rfl rfl ?_
      refine J_get d_Bo_add_19 xf_Bo_9 rfl rfl ?_
      refine J_aload_n d_Bo_add_22 rfl rfl ?_
      refine J_get d_Bo_add_23 xf_Bo_18 rfl rfl ?_
      refine J_iload_n d_Bo_add_26 rfl rfl ?_
      refine J_iast d_Bo_add_27 (gt0 hG) rfl (ib0 h0 hx) ?_
      refine J_aload_n d_Bo_add_28 rfl rfl ?_
      refine J_get d_Bo_add_29 xf_Bo_15 rfl rfl ?_
      refine J_aload_n d_Bo_add_32 rfl rfl ?_
      refine J_get d_Bo_add_33 xf_Bo_18 rfl rfl ?_
      refine J_iload_n d_Bo_add_36 rfl rfl ?_
      refine J_iast d_Bo_add_37 (gt0 hG) rfl (ib0 h0 hx) ?_
      refine J_aload_n d_Bo_add_38 rfl rfl ?_
      refine J_dup d_Bo_add_39 ?_
      refine J_get d_Bo_add_40 xf_Bo_18 rfl rfl ?_
      refine J_iconst (v := 1) d_Bo_add_43 (by decide) ?_
      refine J_iadd d_Bo_add_44 ?_
      refine J_put d_Bo_add_45 xf_Bo_18 xt_Bo (fun _ _ _ h => by cases h; rfl) rfl rfl rfl (Nat.le_of_ble_eq_true rfl) ?_
      refine J_iconst (v := 1) d_Bo_add_48 (by decide) ?_
      exact J_zreturn d_Bo_add_49 rfl rfl rfl
    · skip
      exact absurd hx c13
set_option maxHeartbeats 4000000 in
set_option maxRecDepth 100000 in
theorem m_row {d q : Int32} (hG : gTok G) (h0 : ¬ rw < 0) : XM G Y_RF_row [.ref 0, .int d, .int q] (1, ch sa sb lt tt lg bc gi go sh bn sc rw dy pt R) (xif (okD d) (xif (¬ d ≤ s_ld rw dy ∧ ¬ q < 0 ∧ q ≤ 200) (xif (rw < 8) (.inl (some (.int (rw + 1))), (0, ch sa sb lt tt lg bc gi go sh bn sc (rw + 1) (upd dy rw.toNatClampNeg d) (upd pt rw.toNatClampNeg q) R), 0, 0) (.inr "java/lang/IllegalStateException", (0, ch sa sb lt tt lg bc gi go sh bn sc rw dy pt R), 1, 6)) (.inr "java/lang/IllegalArgumentException", (0, ch sa sb lt tt lg bc gi go sh bn sc rw dy pt R), 1, 6)) (.inr "java/lang/IllegalArgumentException", (0, ch sa sb lt tt lg bc gi go sh bn sc rw dy pt R), 1, 6)) := by
  refine XM_of (by decide +kernel) (Nat.le_of_ble_eq_true rfl) (Or.inl rfl) ?_
  refine J_iload_n d_RF_row_0 rfl rfl ?_
  refine J_callO (xGo_s1 d_RF_row_1 xc_RF_212) ⟨xq_RF_checkDay.1, xq_RF_checkDay.2.1⟩ ⟨Nat.le_of_ble_eq_true rfl, Nat.le_of_ble_eq_true rfl, Nat.le_of_ble_eq_true rfl, Nat.le_of_ble_eq_true rfl⟩ (Nat.le_of_ble_eq_true rfl) m_checkDay rfl (fun c1 => ?_) (fun c1 => (by simp only [xif, c1, Classical.not_not, if_true, if_false, not_true_eq_false, not_false_eq_true, and_true, true_and, and_false, false_and, or_true, true_or, or_false, false_or, and_self, or_self] <;> rfl))
  refine J_iload_n d_RF_row_4 rfl rfl ?_
  refine J_aload_n d_RF_row_5 rfl rfl ?_
  refine J_get d_RF_row_6 xf_RF_48 rfl rfl ?_
  refine J_callP (xGo_v0 d_RF_row_9 xc_RF_215 rfl rfl rfl) ⟨xq_Bo_lastDay.1, xq_Bo_lastDay.2.1⟩ ⟨Nat.le_of_ble_eq_true rfl, Nat.le_of_ble_eq_true rfl, Nat.le_of_ble_eq_true rfl, Nat.le_of_ble_eq_true rfl⟩ (Nat.le_of_ble_eq_true rfl) (m_lastDay hG) ?_
  refine J_icmp_le (tgt := 26) d_RF_row_12 (by decide) (fun c12 => ?_) (fun c12 => ?_)
  · skip
    exact J_throw xh_RF_59 xs_RF_219 ⟨Nat.le_of_ble_eq_true rfl, Nat.le_of_ble_eq_true rfl, Nat.le_of_ble_eq_true rfl, Nat.le_of_ble_eq_true rfl⟩ rfl d_RF_row_26 d_RF_row_29 d_RF_row_30 d_RF_row_32 d_RF_row_35 rfl rfl (by simp only [xif, c1, c12, Classical.not_not, if_true, if_false, not_true_eq_false, not_false_eq_true, and_true, true_and, and_false, false_and, or_true, true_or, or_false, false_or, and_self, or_self] <;> rfl)
  · skip
    refine J_iload_n d_RF_row_15 rfl rfl ?_
    refine J_if_lt (tgt := 26) d_RF_row_16 (by decide) (fun c16 => ?_) (fun c16 => ?_)
    · skip
      exact J_throw xh_RF_59 xs_RF_219 ⟨Nat.le_of_ble_eq_true rfl, Nat.le_of_ble_eq_true rfl, Nat.le_of_ble_eq_true rfl, Nat.le_of_ble_eq_true rfl⟩ rfl d_RF_row_26 d_RF_row_29 d_RF_row_30 d_RF_row_32 d_RF_row_35 rfl rfl (by simp only [xif, c1, c12, c16, Classical.not_not, if_true, if_false, not_true_eq_false, not_false_eq_true, and_true, true_and, and_false, false_and, or_true, true_or, or_false, false_or, and_self, or_self] <;> rfl)
    · skip
      refine J_iload_n d_RF_row_19 rfl rfl ?_
      refine J_sipush (v := 200) d_RF_row_20 (by decide) ?_
      refine J_icmp_le (tgt := 36) d_RF_row_23 (by decide) (fun c23 => ?_) (fun c23 => ?_)
      · skip
        refine J_aload_n d_RF_row_36 rfl rfl ?_
        refine J_get d_RF_row_37 xf_RF_48 rfl rfl ?_
        refine J_iload_n d_RF_row_40 rfl rfl ?_
        refine J_iload_n d_RF_row_41 rfl rfl ?_
        by_cases hx : rw < 8
        · skip
          refine J_callW (xGo_v2 d_RF_row_42 xc_RF_221 rfl rfl rfl) ⟨xq_Bo_add.1, xq_Bo_add.2.1⟩ ⟨Nat.le_of_ble_eq_true rfl, Nat.le_of_ble_eq_true rfl, Nat.le_of_ble_eq_true rfl, Nat.le_of_ble_eq_true rfl⟩ (Nat.le_of_ble_eq_true rfl) (m_Bo_add1 hG h0 hx) ?_
          refine J_if_ne (tgt := 58) d_RF_row_45 (by decide) (fun _ => ?_) (fun q => absurd (by decide) q)
          refine J_aload_n d_RF_row_58 rfl rfl ?_
          refine J_get d_RF_row_59 xf_RF_48 rfl rfl ?_
          refine J_get d_RF_row_62 xf_RF_226 rfl rfl ?_
          exact J_ireturn d_RF_row_65 rfl (by simp only [xif, c1, c12, c16, c23, hx, Classical.not_not, if_true, if_false, not_true_eq_false, not_false_eq_true, and_true, true_and, and_false, false_and, or_true, true_or, or_false, false_or, and_self, or_self] <;> rfl)
        · skip
          refine J_callP (xGo_v2 d_RF_row_42 xc_RF_221 rfl rfl rfl) ⟨xq_Bo_add.1, xq_Bo_add.2.1⟩ ⟨Nat.le_of_ble_eq_true rfl, Nat.le_of_ble_eq_true rfl, Nat.le_of_ble_eq_true rfl, Nat.le_of_ble_eq_true rfl⟩ (Nat.le_of_ble_eq_true rfl) (m_Bo_add0 hG hx) ?_
          refine J_if_ne (tgt := 58) d_RF_row_45 (by decide) (fun q => absurd q (by decide)) (fun _ => ?_)
          exact J_throw xh_RF_115 xs_RF_224 ⟨Nat.le_of_ble_eq_true rfl, Nat.le_of_ble_eq_true rfl, Nat.le_of_ble_eq_true rfl, Nat.le_of_ble_eq_true rfl⟩ rfl d_RF_row_48 d_RF_row_51 d_RF_row_52 d_RF_row_54 d_RF_row_57 rfl rfl (by simp only [xif, c1, c12, c16, c23, hx, Classical.not_not, if_true, if_false, not_true_eq_false, not_false_eq_true, and_true, true_and, and_false, false_and, or_true, true_or, or_false, false_or, and_self, or_self] <;> rfl)
      · skip
        exact J_throw xh_RF_59 xs_RF_219 ⟨Nat.le_of_ble_eq_true rfl, Nat.le_of_ble_eq_true rfl, Nat.le_of_ble_eq_true rfl, Nat.le_of_ble_eq_true rfl⟩ rfl d_RF_row_26 d_RF_row_29 d_RF_row_30 d_RF_row_32 d_RF_row_35 rfl rfl (by simp only [xif, c1, c12, c16, c23, Classical.not_not, if_true, if_false, not_true_eq_false, not_false_eq_true, and_true, true_and, and_false, false_and, or_true, true_or, or_false, false_or, and_self, or_self] <;> rfl)
set_option maxHeartbeats 4000000 in
set_option maxRecDepth 100000 in
theorem l_percentAt {d : Int32} (hG : gTok G) : ∀ (m i : Nat) (acc : Int32), i + m = 8 → JW G Y_Bo_percentAt (0, 0) 5 [(3, .int (nI i)), (2, .int acc), (0, .ref 19), (1, .int d)] [] (1, ch sa sb lt tt lg bc gi go sh bn sc rw dy pt R) (.inl (some (.int (s_pl rw dy pt d m i acc))), (1, ch sa sb lt tt lg bc gi go sh bn sc rw dy pt R), 0, 0) := by
  intro m
  induction m with
  | zero =>
    intro i acc hi
    have hi : i = 8 := by omega
    subst hi
    refine J_iload_n d_Bo_percentAt_5 rfl rfl ?_
    refine J_aload_n d_Bo_percentAt_6 rfl rfl ?_
    refine J_get d_Bo_percentAt_7 xf_Bo_18 rfl rfl ?_
    refine J_icmp_ge (tgt := 42) d_Bo_percentAt_10 (by decide) (fun c10 => ?_) (fun c10 => ?_)
    · skip
      refine J_iload_n d_Bo_percentAt_42 rfl rfl ?_
      exact J_ireturn d_Bo_percentAt_43 rfl rfl
    · skip
      refine J_iload_n d_Bo_percentAt_13 rfl rfl ?_
      refine J_bipush (v := 8) d_Bo_percentAt_14 (by decide) ?_
      refine J_icmp_ge (tgt := 42) d_Bo_percentAt_16 (by decide) (fun _ => ?_) (fun q => absurd (by decide) q)
      refine J_iload_n d_Bo_percentAt_42 rfl rfl ?_
      exact J_ireturn d_Bo_percentAt_43 rfl rfl
  | succ m ih =>
    intro i acc hi
    have hi8 : i < 8 := by omega
    refine J_iload_n d_Bo_percentAt_5 rfl rfl ?_
    refine J_aload_n d_Bo_percentAt_6 rfl rfl ?_
    refine J_get d_Bo_percentAt_7 xf_Bo_18 rfl rfl ?_
    refine J_icmp_ge (tgt := 42) d_Bo_percentAt_10 (by decide) (fun c10 => ?_) (fun c10 => ?_)
    · skip
      refine J_iload_n d_Bo_percentAt_42 rfl rfl ?_
      exact J_ireturn d_Bo_percentAt_43 rfl (by simp only [s_pl, c10, Classical.not_not, if_true, if_false, not_true_eq_false, not_false_eq_true, and_true, true_and, and_false, false_and, or_true, true_or, or_false, false_or, and_self, or_self])
    · skip
      refine J_iload_n d_Bo_percentAt_13 rfl rfl ?_
      refine J_bipush (v := 8) d_Bo_percentAt_14 (by decide) ?_
      refine J_icmp_ge (tgt := 42) d_Bo_percentAt_16 (by decide) (fun c16 => ?_) (fun c16 => ?_)
      · skip
        exact absurd c16 (nI_ge hi8 (by decide))
      · skip
        refine J_aload_n d_Bo_percentAt_19 rfl rfl ?_
        refine J_get d_Bo_percentAt_20 xf_Bo_9 rfl rfl ?_
        refine J_iload_n d_Bo_percentAt_23 rfl rfl ?_
        refine J_iald d_Bo_percentAt_24 (gt0 hG) rfl (vp_in_nI hi8 (by decide)) ?_
        refine J_iload_n d_Bo_percentAt_25 rfl rfl ?_
        refine J_icmp_gt (tgt := 36) d_Bo_percentAt_26 (by decide) (fun c26 => ?_) (fun c26 => ?_)
        · skip
          refine J_iinc (v := nI (i + 1)) d_Bo_percentAt_36 rfl (nI_1 i) (by decide) ?_
          refine J_goto (tgt := 5) d_Bo_percentAt_39 (by decide) ?_
          refine J_loc (L2 := [(3, .int (nI (i + 1))), (2, .int acc), (0, .ref 19), (1, .int d)]) rfl ?_
          refine J_res (r2 := (.inl (some (.int (s_pl rw dy pt d m (i + 1) acc))), (1, ch sa sb lt tt lg bc gi go sh bn sc rw dy pt R), 0, 0)) (by simp only [s_pl, c10, c26, if_true, if_false]) ?_
          exact ih (i + 1) _ (by omega)
        · skip
          refine J_aload_n d_Bo_percentAt_29 rfl rfl ?_
          refine J_get d_Bo_percentAt_30 xf_Bo_15 rfl rfl ?_
          refine J_iload_n d_Bo_percentAt_33 rfl rfl ?_
          refine J_iald d_Bo_percentAt_34 (gt0 hG) rfl (vp_in_nI hi8 (by decide)) ?_
          refine J_istore_n d_Bo_percentAt_35 rfl (by decide) ?_
          refine J_iinc (v := nI (i + 1)) d_Bo_percentAt_36 rfl (nI_1 i) (by decide) ?_
          refine J_goto (tgt := 5) d_Bo_percentAt_39 (by decide) ?_
          refine J_loc (L2 := [(3, .int (nI (i + 1))), (2, .int (pt (nI i).toNatClampNeg)), (0, .ref 19), (1, .int d)]) rfl ?_
          refine J_res (r2 := (.inl (some (.int (s_pl rw dy pt d m (i + 1) (pt (nI i).toNatClampNeg)))), (1, ch sa sb lt tt lg bc gi go sh bn sc rw dy pt R), 0, 0)) (by simp only [s_pl, c10, c26, if_true, if_false]) ?_
          exact ih (i + 1) _ (by omega)
set_option maxHeartbeats 4000000 in
set_option maxRecDepth 100000 in
theorem m_percentAt {d : Int32} (hG : gTok G) : XM G Y_Bo_percentAt [.ref 19, .int d] (1, ch sa sb lt tt lg bc gi go sh bn sc rw dy pt R) (.inl (some (.int (s_pl rw dy pt d 8 0 100))), (1, ch sa sb lt tt lg bc gi go sh bn sc rw dy pt R), 0, 0) := by
  refine XM_of (by decide +kernel) (Nat.le_of_ble_eq_true rfl) (Or.inl rfl) ?_
  refine J_bipush (v := 100) d_Bo_percentAt_0 (by decide) ?_
  refine J_istore_n d_Bo_percentAt_2 rfl (by decide) ?_
  refine J_iconst (v := 0) d_Bo_percentAt_3 (by decide) ?_
  refine J_istore_n d_Bo_percentAt_4 rfl (by decide) ?_
  exact J_loc rfl (l_percentAt hG 8 0 100 rfl)
def s_he (b : cB) (k p : Int32) : Int64 := (s_di b k * 19 - s_wi b k * 3) * p.toInt64 / 100
set_option maxHeartbeats 4000000 in
set_option maxRecDepth 100000 in
theorem m_burn {n k d : Int32} (hG : gTok G) : XM G Y_RF_burn [.ref 0, .int n, .int k, .int d] (1, ch sa sb lt tt lg bc gi go sh bn sc rw dy pt R) (xif (okB bc n) (xif (okT k) (xif (okD d) (xif (okE (bn n.toNatClampNeg) k) (.inl (some (.long (if 0 ≤ s_he (bn n.toNatClampNeg) k (s_pl rw dy pt d 8 0 100) then s_he (bn n.toNatClampNeg) k (s_pl rw dy pt d 8 0 100) else 0))), (0, ch sa sb lt tt lg bc gi (go + (s_di (bn n.toNatClampNeg) k + s_wi (bn n.toNatClampNeg) k)) sh (vf_upd bn n.toNatClampNeg (s_ta (bn n.toNatClampNeg) (s_di (bn n.toNatClampNeg) k) (s_wi (bn n.toNatClampNeg) k))) sc rw dy pt R), 0, 0) (.inr "java/lang/IllegalStateException", (0, ch sa sb lt tt lg bc gi go sh bn sc rw dy pt R), 1, 6)) (.inr "java/lang/IllegalArgumentException", (0, ch sa sb lt tt lg bc gi go sh bn sc rw dy pt R), 1, 6)) (.inr "java/lang/IllegalArgumentException", (0, ch sa sb lt tt lg bc gi go sh bn sc rw dy pt R), 1, 6)) (.inr "java/lang/IndexOutOfBoundsException", (0, ch sa sb lt tt lg bc gi go sh bn sc rw dy pt R), 1, 6)) := by
  refine XM_of (by decide +kernel) (Nat.le_of_ble_eq_true rfl) (Or.inl rfl) ?_
  refine J_aload_n d_RF_burn_0 rfl rfl ?_
  refine J_iload_n d_RF_burn_1 rfl rfl ?_
  refine J_callO (xGo_v1 d_RF_burn_2 xc_RF_126 rfl rfl rfl) ⟨xq_RF_binAt.1, xq_RF_binAt.2.1⟩ ⟨Nat.le_of_ble_eq_true rfl, Nat.le_of_ble_eq_true rfl, Nat.le_of_ble_eq_true rfl, Nat.le_of_ble_eq_true rfl⟩ (Nat.le_of_ble_eq_true rfl) (m_binAt hG) rfl (fun c2 => ?_) (fun c2 => (by simp only [xif, c2, Classical.not_not, if_true, if_false, not_true_eq_false, not_false_eq_true, and_true, true_and, and_false, false_and, or_true, true_or, or_false, false_or, and_self, or_self] <;> rfl))
  have hi := (okB_lt c2).1
  refine J_astore d_RF_burn_5 (by decide) ?_
  refine J_iload_n d_RF_burn_7 rfl rfl ?_
  refine J_callO (xGo_s1 d_RF_burn_8 xc_RF_229) ⟨xq_RF_checkTaken.1, xq_RF_checkTaken.2.1⟩ ⟨Nat.le_of_ble_eq_true rfl, Nat.le_of_ble_eq_true rfl, Nat.le_of_ble_eq_true rfl, Nat.le_of_ble_eq_true rfl⟩ (Nat.le_of_ble_eq_true rfl) m_checkTaken rfl (fun c8 => ?_) (fun c8 => (by simp only [xif, c2, c8, Classical.not_not, if_true, if_false, not_true_eq_false, not_false_eq_true, and_true, true_and, and_false, false_and, or_true, true_or, or_false, false_or, and_self, or_self] <;> rfl))
  refine J_iload_n d_RF_burn_11 rfl rfl ?_
  refine J_callO (xGo_s1 d_RF_burn_12 xc_RF_212) ⟨xq_RF_checkDay.1, xq_RF_checkDay.2.1⟩ ⟨Nat.le_of_ble_eq_true rfl, Nat.le_of_ble_eq_true rfl, Nat.le_of_ble_eq_true rfl, Nat.le_of_ble_eq_true rfl⟩ (Nat.le_of_ble_eq_true rfl) m_checkDay rfl (fun c12 => ?_) (fun c12 => (by simp only [xif, c2, c8, c12, Classical.not_not, if_true, if_false, not_true_eq_false, not_false_eq_true, and_true, true_and, and_false, false_and, or_true, true_or, or_false, false_or, and_self, or_self] <;> rfl))
  refine J_aload d_RF_burn_15 rfl ?_
  refine J_iload_n d_RF_burn_17 rfl rfl ?_
  refine J_callO (xGo_s2 d_RF_burn_18 xc_RF_232) ⟨xq_RF_checkEnough.1, xq_RF_checkEnough.2.1⟩ ⟨Nat.le_of_ble_eq_true rfl, Nat.le_of_ble_eq_true rfl, Nat.le_of_ble_eq_true rfl, Nat.le_of_ble_eq_true rfl⟩ (Nat.le_of_ble_eq_true rfl) (m_checkEnough hi) rfl (fun c18 => ?_) (fun c18 => (by simp only [xif, c2, c8, c12, c18, Classical.not_not, if_true, if_false, not_true_eq_false, not_false_eq_true, and_true, true_and, and_false, false_and, or_true, true_or, or_false, false_or, and_self, or_self] <;> rfl))
  refine J_aload d_RF_burn_21 rfl ?_
  refine J_iload_n d_RF_burn_23 rfl rfl ?_
  refine J_callP (xGo_v1 d_RF_burn_24 xc_RF_236 (ch_bin hi) rfl rfl) ⟨xq_Bi_waterIn.1, xq_Bi_waterIn.2.1⟩ ⟨Nat.le_of_ble_eq_true rfl, Nat.le_of_ble_eq_true rfl, Nat.le_of_ble_eq_true rfl, Nat.le_of_ble_eq_true rfl⟩ (Nat.le_of_ble_eq_true rfl) (m_Bi_waterIn (ch_bin hi)) ?_
  refine J_lstore d_RF_burn_27 (by decide) ?_
  refine J_aload d_RF_burn_29 rfl ?_
  refine J_iload_n d_RF_burn_31 rfl rfl ?_
  refine J_callP (xGo_v1 d_RF_burn_32 xc_RF_239 (ch_bin hi) rfl rfl) ⟨xq_Bi_dryIn.1, xq_Bi_dryIn.2.1⟩ ⟨Nat.le_of_ble_eq_true rfl, Nat.le_of_ble_eq_true rfl, Nat.le_of_ble_eq_true rfl, Nat.le_of_ble_eq_true rfl⟩ (Nat.le_of_ble_eq_true rfl) (m_Bi_dryIn (ch_bin hi)) ?_
  refine J_lstore d_RF_burn_35 (by decide) ?_
  refine J_aload_n d_RF_burn_37 rfl rfl ?_
  refine J_aload d_RF_burn_38 rfl ?_
  refine J_lload d_RF_burn_40 rfl ?_
  refine J_lload d_RF_burn_42 rfl ?_
  refine J_callW (xGo_v3 d_RF_burn_44 xc_RF_242 rfl rfl rfl) ⟨xq_RF_takeAway.1, xq_RF_takeAway.2.1⟩ ⟨Nat.le_of_ble_eq_true rfl, Nat.le_of_ble_eq_true rfl, Nat.le_of_ble_eq_true rfl, Nat.le_of_ble_eq_true rfl⟩ (Nat.le_of_ble_eq_true rfl) (m_takeAway hi) ?_
  refine J_lload d_RF_burn_47 rfl ?_
  refine J_ldc2_w d_RF_burn_49 xj_RF_246 ?_
  refine J_lmul d_RF_burn_52 ?_
  refine J_lload d_RF_burn_53 rfl ?_
  refine J_ldc2_w d_RF_burn_55 xj_RF_248 ?_
  refine J_lmul d_RF_burn_58 ?_
  refine J_lsub d_RF_burn_59 ?_
  refine J_aload_n d_RF_burn_60 rfl rfl ?_
  refine J_get d_RF_burn_61 xf_RF_48 rfl rfl ?_
  refine J_iload_n d_RF_burn_64 rfl rfl ?_
  refine J_callP (xGo_v1 d_RF_burn_65 xc_RF_250 rfl rfl rfl) ⟨xq_Bo_percentAt.1, xq_Bo_percentAt.2.1⟩ ⟨Nat.le_of_ble_eq_true rfl, Nat.le_of_ble_eq_true rfl, Nat.le_of_ble_eq_true rfl, Nat.le_of_ble_eq_true rfl⟩ (Nat.le_of_ble_eq_true rfl) (m_percentAt hG) ?_
  refine J_i2l d_RF_burn_68 ?_
  refine J_lmul d_RF_burn_69 ?_
  refine J_ldc2_w d_RF_burn_70 xj_RF_254 ?_
  refine J_ldiv d_RF_burn_73 (by decide) ?_
  refine J_lstore d_RF_burn_74 (by decide) ?_
  refine J_lload d_RF_burn_76 rfl ?_
  refine J_lconst (v := 0) d_RF_burn_78 (by decide) ?_
  refine J_lcmp d_RF_burn_79 ?_
  refine J_lif_ge (tgt := 87) d_RF_burn_80 (by decide) (fun c80 => ?_) (fun c80 => ?_)
  · skip
    refine J_lload d_RF_burn_87 rfl ?_
    exact J_lreturn d_RF_burn_89 rfl (by have c80 :  0 ≤ s_he (bn n.toNatClampNeg) k (s_pl rw dy pt d 8 0 100) := c80; simp only [xif, c2, c8, c12, c18, c80, Classical.not_not, if_true, if_false, not_true_eq_false, not_false_eq_true, and_true, true_and, and_false, false_and, or_true, true_or, or_false, false_or, and_self, or_self] <;> rfl)
  · skip
    refine J_lconst (v := 0) d_RF_burn_83 (by decide) ?_
    refine J_goto (tgt := 89) d_RF_burn_84 (by decide) ?_
    exact J_lreturn d_RF_burn_89 rfl (by have c80 : ¬ 0 ≤ s_he (bn n.toNatClampNeg) k (s_pl rw dy pt d 8 0 100) := c80; simp only [xif, c2, c8, c12, c18, c80, Classical.not_not, if_true, if_false, not_true_eq_false, not_false_eq_true, and_true, true_and, and_false, false_and, or_true, true_or, or_false, false_or, and_self, or_self] <;> rfl)
set_option maxHeartbeats 4000000 in
set_option maxRecDepth 100000 in
theorem m_sell {n k c : Int32} (hG : gTok G) : XM G Y_RF_sell [.ref 0, .int n, .int k, .int c] (1, ch sa sb lt tt lg bc gi go sh bn sc rw dy pt R) (xif (okB bc n) (xif (okT k) (xif (¬ c < 0 ∧ c ≤ 1000000) (xif (okE (bn n.toNatClampNeg) k) (.inl (some (.long (s_di (bn n.toNatClampNeg) k * c.toInt64 / 1000000))), (0, ch sa sb lt tt lg bc gi (go + (s_di (bn n.toNatClampNeg) k + s_wi (bn n.toNatClampNeg) k)) sh (vf_upd bn n.toNatClampNeg (s_ta (bn n.toNatClampNeg) (s_di (bn n.toNatClampNeg) k) (s_wi (bn n.toNatClampNeg) k))) sc rw dy pt R), 0, 0) (.inr "java/lang/IllegalStateException", (0, ch sa sb lt tt lg bc gi go sh bn sc rw dy pt R), 1, 6)) (.inr "java/lang/IllegalArgumentException", (0, ch sa sb lt tt lg bc gi go sh bn sc rw dy pt R), 1, 6)) (.inr "java/lang/IllegalArgumentException", (0, ch sa sb lt tt lg bc gi go sh bn sc rw dy pt R), 1, 6)) (.inr "java/lang/IndexOutOfBoundsException", (0, ch sa sb lt tt lg bc gi go sh bn sc rw dy pt R), 1, 6)) := by
  refine XM_of (by decide +kernel) (Nat.le_of_ble_eq_true rfl) (Or.inl rfl) ?_
  refine J_aload_n d_RF_sell_0 rfl rfl ?_
  refine J_iload_n d_RF_sell_1 rfl rfl ?_
  refine J_callO (xGo_v1 d_RF_sell_2 xc_RF_126 rfl rfl rfl) ⟨xq_RF_binAt.1, xq_RF_binAt.2.1⟩ ⟨Nat.le_of_ble_eq_true rfl, Nat.le_of_ble_eq_true rfl, Nat.le_of_ble_eq_true rfl, Nat.le_of_ble_eq_true rfl⟩ (Nat.le_of_ble_eq_true rfl) (m_binAt hG) rfl (fun c2 => ?_) (fun c2 => (by simp only [xif, c2, Classical.not_not, if_true, if_false, not_true_eq_false, not_false_eq_true, and_true, true_and, and_false, false_and, or_true, true_or, or_false, false_or, and_self, or_self] <;> rfl))
  have hi := (okB_lt c2).1
  refine J_astore d_RF_sell_5 (by decide) ?_
  refine J_iload_n d_RF_sell_7 rfl rfl ?_
  refine J_callO (xGo_s1 d_RF_sell_8 xc_RF_229) ⟨xq_RF_checkTaken.1, xq_RF_checkTaken.2.1⟩ ⟨Nat.le_of_ble_eq_true rfl, Nat.le_of_ble_eq_true rfl, Nat.le_of_ble_eq_true rfl, Nat.le_of_ble_eq_true rfl⟩ (Nat.le_of_ble_eq_true rfl) m_checkTaken rfl (fun c8 => ?_) (fun c8 => (by simp only [xif, c2, c8, Classical.not_not, if_true, if_false, not_true_eq_false, not_false_eq_true, and_true, true_and, and_false, false_and, or_true, true_or, or_false, false_or, and_self, or_self] <;> rfl))
  refine J_iload_n d_RF_sell_11 rfl rfl ?_
  refine J_if_lt (tgt := 21) d_RF_sell_12 (by decide) (fun c12 => ?_) (fun c12 => ?_)
  · skip
    exact J_throwW xh_RF_59 xs_RF_256 ⟨Nat.le_of_ble_eq_true rfl, Nat.le_of_ble_eq_true rfl, Nat.le_of_ble_eq_true rfl, Nat.le_of_ble_eq_true rfl⟩ rfl d_RF_sell_21 d_RF_sell_24 d_RF_sell_25 d_RF_sell_28 d_RF_sell_31 rfl rfl (by simp only [xif, c2, c8, c12, Classical.not_not, if_true, if_false, not_true_eq_false, not_false_eq_true, and_true, true_and, and_false, false_and, or_true, true_or, or_false, false_or, and_self, or_self] <;> rfl)
  · skip
    refine J_iload_n d_RF_sell_15 rfl rfl ?_
    refine J_ldc d_RF_sell_16 xi_RF_109 ?_
    refine J_icmp_le (tgt := 32) d_RF_sell_18 (by decide) (fun c18 => ?_) (fun c18 => ?_)
    · skip
      refine J_aload d_RF_sell_32 rfl ?_
      refine J_iload_n d_RF_sell_34 rfl rfl ?_
      refine J_callO (xGo_s2 d_RF_sell_35 xc_RF_232) ⟨xq_RF_checkEnough.1, xq_RF_checkEnough.2.1⟩ ⟨Nat.le_of_ble_eq_true rfl, Nat.le_of_ble_eq_true rfl, Nat.le_of_ble_eq_true rfl, Nat.le_of_ble_eq_true rfl⟩ (Nat.le_of_ble_eq_true rfl) (m_checkEnough hi) rfl (fun c35 => ?_) (fun c35 => (by simp only [xif, c2, c8, c12, c18, c35, Classical.not_not, if_true, if_false, not_true_eq_false, not_false_eq_true, and_true, true_and, and_false, false_and, or_true, true_or, or_false, false_or, and_self, or_self] <;> rfl))
      refine J_aload d_RF_sell_38 rfl ?_
      refine J_iload_n d_RF_sell_40 rfl rfl ?_
      refine J_callP (xGo_v1 d_RF_sell_41 xc_RF_239 (ch_bin hi) rfl rfl) ⟨xq_Bi_dryIn.1, xq_Bi_dryIn.2.1⟩ ⟨Nat.le_of_ble_eq_true rfl, Nat.le_of_ble_eq_true rfl, Nat.le_of_ble_eq_true rfl, Nat.le_of_ble_eq_true rfl⟩ (Nat.le_of_ble_eq_true rfl) (m_Bi_dryIn (ch_bin hi)) ?_
      refine J_lstore d_RF_sell_44 (by decide) ?_
      refine J_aload_n d_RF_sell_46 rfl rfl ?_
      refine J_aload d_RF_sell_47 rfl ?_
      refine J_lload d_RF_sell_49 rfl ?_
      refine J_aload d_RF_sell_51 rfl ?_
      refine J_iload_n d_RF_sell_53 rfl rfl ?_
      refine J_callP (xGo_v1 d_RF_sell_54 xc_RF_236 (ch_bin hi) rfl rfl) ⟨xq_Bi_waterIn.1, xq_Bi_waterIn.2.1⟩ ⟨Nat.le_of_ble_eq_true rfl, Nat.le_of_ble_eq_true rfl, Nat.le_of_ble_eq_true rfl, Nat.le_of_ble_eq_true rfl⟩ (Nat.le_of_ble_eq_true rfl) (m_Bi_waterIn (ch_bin hi)) ?_
      refine J_callW (xGo_v3 d_RF_sell_57 xc_RF_242 rfl rfl rfl) ⟨xq_RF_takeAway.1, xq_RF_takeAway.2.1⟩ ⟨Nat.le_of_ble_eq_true rfl, Nat.le_of_ble_eq_true rfl, Nat.le_of_ble_eq_true rfl, Nat.le_of_ble_eq_true rfl⟩ (Nat.le_of_ble_eq_true rfl) (m_takeAway hi) ?_
      refine J_lload d_RF_sell_60 rfl ?_
      refine J_iload_n d_RF_sell_62 rfl rfl ?_
      refine J_i2l d_RF_sell_63 ?_
      refine J_lmul d_RF_sell_64 ?_
      refine J_ldc2_w d_RF_sell_65 xj_RF_258 ?_
      refine J_ldiv d_RF_sell_68 (by decide) ?_
      exact J_lreturn d_RF_sell_69 rfl (by simp only [xif, c2, c8, c12, c18, c35, Classical.not_not, if_true, if_false, not_true_eq_false, not_false_eq_true, and_true, true_and, and_false, false_and, or_true, true_or, or_false, false_or, and_self, or_self] <;> rfl)
    · skip
      exact J_throwW xh_RF_59 xs_RF_256 ⟨Nat.le_of_ble_eq_true rfl, Nat.le_of_ble_eq_true rfl, Nat.le_of_ble_eq_true rfl, Nat.le_of_ble_eq_true rfl⟩ rfl d_RF_sell_21 d_RF_sell_24 d_RF_sell_25 d_RF_sell_28 d_RF_sell_31 rfl rfl (by simp only [xif, c2, c8, c12, c18, Classical.not_not, if_true, if_false, not_true_eq_false, not_false_eq_true, and_true, true_and, and_false, false_and, or_true, true_or, or_false, false_or, and_self, or_self] <;> rfl)
set_option maxHeartbeats 4000000 in
set_option maxRecDepth 100000 in
theorem m_mix {n t k : Int32} (hG : gTok G) : XM G Y_RF_mix [.ref 0, .int n, .int t, .int k] (1, ch sa sb lt tt lg bc gi go sh bn sc rw dy pt R) (xif (okB bc n) (xif (okB bc t) (xif (¬ n = t) (xif (okT k) (xif (okE (bn n.toNatClampNeg) k) (xif (s_hr (bn t.toNatClampNeg) k = 0) (.inl (some (.int 0)), (1, ch sa sb lt tt lg bc gi go sh bn sc rw dy pt R), 0, 0) (xif (s_sa (bn t.toNatClampNeg) (s_di (bn n.toNatClampNeg) k) (s_wi (bn n.toNatClampNeg) k) = 0) (.inl (some (.int 0)), (1, ch sa sb lt tt lg bc gi go sh bn sc rw dy pt R), 0, 0) (.inl (some (.int 1)), (0, ch sa sb lt tt lg bc gi (go + (s_di (bn n.toNatClampNeg) k + s_wi (bn n.toNatClampNeg) k)) sh (vf_upd (vf_upd bn n.toNatClampNeg (s_ta (bn n.toNatClampNeg) (s_di (bn n.toNatClampNeg) k) (s_wi (bn n.toNatClampNeg) k))) t.toNatClampNeg (s_ch ((vf_upd bn n.toNatClampNeg (s_ta (bn n.toNatClampNeg) (s_di (bn n.toNatClampNeg) k) (s_wi (bn n.toNatClampNeg) k))) t.toNatClampNeg) (s_di (bn n.toNatClampNeg) k) (s_wi (bn n.toNatClampNeg) k))) sc rw dy pt R), 0, 0))) (.inr "java/lang/IllegalStateException", (0, ch sa sb lt tt lg bc gi go sh bn sc rw dy pt R), 1, 6)) (.inr "java/lang/IllegalArgumentException", (0, ch sa sb lt tt lg bc gi go sh bn sc rw dy pt R), 1, 6)) (.inr "java/lang/IllegalArgumentException", (0, ch sa sb lt tt lg bc gi go sh bn sc rw dy pt R), 1, 6)) (.inr "java/lang/IndexOutOfBoundsException", (0, ch sa sb lt tt lg bc gi go sh bn sc rw dy pt R), 1, 6)) (.inr "java/lang/IndexOutOfBoundsException", (0, ch sa sb lt tt lg bc gi go sh bn sc rw dy pt R), 1, 6)) := by
  refine XM_of (by decide +kernel) (Nat.le_of_ble_eq_true rfl) (Or.inl rfl) ?_
  refine J_aload_n d_RF_mix_0 rfl rfl ?_
  refine J_iload_n d_RF_mix_1 rfl rfl ?_
  refine J_callO (xGo_v1 d_RF_mix_2 xc_RF_126 rfl rfl rfl) ⟨xq_RF_binAt.1, xq_RF_binAt.2.1⟩ ⟨Nat.le_of_ble_eq_true rfl, Nat.le_of_ble_eq_true rfl, Nat.le_of_ble_eq_true rfl, Nat.le_of_ble_eq_true rfl⟩ (Nat.le_of_ble_eq_true rfl) (m_binAt hG) rfl (fun c2 => ?_) (fun c2 => (by simp only [xif, c2, Classical.not_not, if_true, if_false, not_true_eq_false, not_false_eq_true, and_true, true_and, and_false, false_and, or_true, true_or, or_false, false_or, and_self, or_self] <;> rfl))
  have hi := (okB_lt c2).1
  refine J_astore d_RF_mix_5 (by decide) ?_
  refine J_aload_n d_RF_mix_7 rfl rfl ?_
  refine J_iload_n d_RF_mix_8 rfl rfl ?_
  refine J_callO (xGo_v1 d_RF_mix_9 xc_RF_126 rfl rfl rfl) ⟨xq_RF_binAt.1, xq_RF_binAt.2.1⟩ ⟨Nat.le_of_ble_eq_true rfl, Nat.le_of_ble_eq_true rfl, Nat.le_of_ble_eq_true rfl, Nat.le_of_ble_eq_true rfl⟩ (Nat.le_of_ble_eq_true rfl) (m_binAt hG) rfl (fun c9 => ?_) (fun c9 => (by simp only [xif, c2, c9, Classical.not_not, if_true, if_false, not_true_eq_false, not_false_eq_true, and_true, true_and, and_false, false_and, or_true, true_or, or_false, false_or, and_self, or_self] <;> rfl))
  have hj := (okB_lt c9).1
  refine J_astore d_RF_mix_12 (by decide) ?_
  refine J_iload_n d_RF_mix_14 rfl rfl ?_
  refine J_iload_n d_RF_mix_15 rfl rfl ?_
  refine J_icmp_ne (tgt := 30) d_RF_mix_16 (by decide) (fun c16 => ?_) (fun c16 => ?_)
  · skip
    refine J_iload_n d_RF_mix_30 rfl rfl ?_
    refine J_callO (xGo_s1 d_RF_mix_31 xc_RF_229) ⟨xq_RF_checkTaken.1, xq_RF_checkTaken.2.1⟩ ⟨Nat.le_of_ble_eq_true rfl, Nat.le_of_ble_eq_true rfl, Nat.le_of_ble_eq_true rfl, Nat.le_of_ble_eq_true rfl⟩ (Nat.le_of_ble_eq_true rfl) m_checkTaken rfl (fun c31 => ?_) (fun c31 => (by simp only [xif, c2, c9, c16, c31, Classical.not_not, if_true, if_false, not_true_eq_false, not_false_eq_true, and_true, true_and, and_false, false_and, or_true, true_or, or_false, false_or, and_self, or_self] <;> rfl))
    refine J_aload d_RF_mix_34 rfl ?_
    refine J_iload_n d_RF_mix_36 rfl rfl ?_
    refine J_callO (xGo_s2 d_RF_mix_37 xc_RF_232) ⟨xq_RF_checkEnough.1, xq_RF_checkEnough.2.1⟩ ⟨Nat.le_of_ble_eq_true rfl, Nat.le_of_ble_eq_true rfl, Nat.le_of_ble_eq_true rfl, Nat.le_of_ble_eq_true rfl⟩ (Nat.le_of_ble_eq_true rfl) (m_checkEnough hi) rfl (fun c37 => ?_) (fun c37 => (by simp only [xif, c2, c9, c16, c31, c37, Classical.not_not, if_true, if_false, not_true_eq_false, not_false_eq_true, and_true, true_and, and_false, false_and, or_true, true_or, or_false, false_or, and_self, or_self] <;> rfl))
    refine J_aload d_RF_mix_40 rfl ?_
    refine J_iload_n d_RF_mix_42 rfl rfl ?_
    refine J_callP (xGo_v1 d_RF_mix_43 xc_RF_236 (ch_bin hi) rfl rfl) ⟨xq_Bi_waterIn.1, xq_Bi_waterIn.2.1⟩ ⟨Nat.le_of_ble_eq_true rfl, Nat.le_of_ble_eq_true rfl, Nat.le_of_ble_eq_true rfl, Nat.le_of_ble_eq_true rfl⟩ (Nat.le_of_ble_eq_true rfl) (m_Bi_waterIn (ch_bin hi)) ?_
    refine J_lstore d_RF_mix_46 (by decide) ?_
    refine J_aload d_RF_mix_48 rfl ?_
    refine J_iload_n d_RF_mix_50 rfl rfl ?_
    refine J_callP (xGo_v1 d_RF_mix_51 xc_RF_239 (ch_bin hi) rfl rfl) ⟨xq_Bi_dryIn.1, xq_Bi_dryIn.2.1⟩ ⟨Nat.le_of_ble_eq_true rfl, Nat.le_of_ble_eq_true rfl, Nat.le_of_ble_eq_true rfl, Nat.le_of_ble_eq_true rfl⟩ (Nat.le_of_ble_eq_true rfl) (m_Bi_dryIn (ch_bin hi)) ?_
    refine J_lstore d_RF_mix_54 (by decide) ?_
    refine J_aload d_RF_mix_56 rfl ?_
    refine J_iload_n d_RF_mix_58 rfl rfl ?_
    refine J_callP (xGo_v1 d_RF_mix_59 xc_RF_133 (ch_bin hj) rfl rfl) ⟨xq_Bi_hasRoom.1, xq_Bi_hasRoom.2.1⟩ ⟨Nat.le_of_ble_eq_true rfl, Nat.le_of_ble_eq_true rfl, Nat.le_of_ble_eq_true rfl, Nat.le_of_ble_eq_true rfl⟩ (Nat.le_of_ble_eq_true rfl) (m_Bi_hasRoom (ch_bin hj)) ?_
    refine J_if_eq (tgt := 77) d_RF_mix_62 (by decide) (fun c62 => ?_) (fun c62 => ?_)
    · skip
      refine J_iconst (v := 0) d_RF_mix_77 (by decide) ?_
      exact J_zreturn d_RF_mix_78 rfl rfl (by simp only [xif, c2, c9, c16, c31, c37, c62, Classical.not_not, if_true, if_false, not_true_eq_false, not_false_eq_true, and_true, true_and, and_false, false_and, or_true, true_or, or_false, false_or, and_self, or_self] <;> rfl)
    · skip
      refine J_aload d_RF_mix_65 rfl ?_
      refine J_lload d_RF_mix_67 rfl ?_
      refine J_lload d_RF_mix_69 rfl ?_
      refine J_callP (xGo_v2 d_RF_mix_71 xc_RF_270 (ch_bin hj) rfl rfl) ⟨xq_Bi_spanAllows.1, xq_Bi_spanAllows.2.1⟩ ⟨Nat.le_of_ble_eq_true rfl, Nat.le_of_ble_eq_true rfl, Nat.le_of_ble_eq_true rfl, Nat.le_of_ble_eq_true rfl⟩ (Nat.le_of_ble_eq_true rfl) (m_Bi_spanAllows (ch_bin hj)) ?_
      refine J_if_ne (tgt := 79) d_RF_mix_74 (by decide) (fun c74 => ?_) (fun c74 => ?_)
      · skip
        refine J_aload_n d_RF_mix_79 rfl rfl ?_
        refine J_aload d_RF_mix_80 rfl ?_
        refine J_lload d_RF_mix_82 rfl ?_
        refine J_lload d_RF_mix_84 rfl ?_
        refine J_callW (xGo_v3 d_RF_mix_86 xc_RF_242 rfl rfl rfl) ⟨xq_RF_takeAway.1, xq_RF_takeAway.2.1⟩ ⟨Nat.le_of_ble_eq_true rfl, Nat.le_of_ble_eq_true rfl, Nat.le_of_ble_eq_true rfl, Nat.le_of_ble_eq_true rfl⟩ (Nat.le_of_ble_eq_true rfl) (m_takeAway hi) ?_
        refine J_aload d_RF_mix_89 rfl ?_
        refine J_lload d_RF_mix_91 rfl ?_
        refine J_lload d_RF_mix_93 rfl ?_
        refine J_callW (xGo_v2 d_RF_mix_95 xc_RF_274 (ch_bin hj) rfl rfl) ⟨xq_Bi_change.1, xq_Bi_change.2.1⟩ ⟨Nat.le_of_ble_eq_true rfl, Nat.le_of_ble_eq_true rfl, Nat.le_of_ble_eq_true rfl, Nat.le_of_ble_eq_true rfl⟩ (Nat.le_of_ble_eq_true rfl) (m_Bi_change (ch_bin hj)) ?_
        refine J_heap (ch_setb hj) ?_
        refine J_iconst (v := 1) d_RF_mix_98 (by decide) ?_
        exact J_zreturn d_RF_mix_99 rfl rfl (by simp only [xif, c2, c9, c16, c31, c37, c62, c74, Classical.not_not, if_true, if_false, not_true_eq_false, not_false_eq_true, and_true, true_and, and_false, false_and, or_true, true_or, or_false, false_or, and_self, or_self] <;> rfl)
      · skip
        have c74 := Classical.not_not.mp c74
        refine J_iconst (v := 0) d_RF_mix_77 (by decide) ?_
        exact J_zreturn d_RF_mix_78 rfl rfl (by simp only [xif, c2, c9, c16, c31, c37, c62, c74, Classical.not_not, if_true, if_false, not_true_eq_false, not_false_eq_true, and_true, true_and, and_false, false_and, or_true, true_or, or_false, false_or, and_self, or_self] <;> rfl)
  · skip
    have c16 := Classical.not_not.mp c16
    exact J_throwW xh_RF_59 xs_RF_268 ⟨Nat.le_of_ble_eq_true rfl, Nat.le_of_ble_eq_true rfl, Nat.le_of_ble_eq_true rfl, Nat.le_of_ble_eq_true rfl⟩ rfl d_RF_mix_19 d_RF_mix_22 d_RF_mix_23 d_RF_mix_26 d_RF_mix_29 rfl rfl (by simp only [xif, c2, c9, c16, Classical.not_not, if_true, if_false, not_true_eq_false, not_false_eq_true, and_true, true_and, and_false, false_and, or_true, true_or, or_false, false_or, and_self, or_self] <;> rfl)
set_option maxHeartbeats 4000000 in
set_option maxRecDepth 100000 in
theorem m_screen {n b0 b1 b2 a0 a1 : Int32} (hG : gTok G) : XM G Y_RF_screen [.ref 0, .int n, .int b0, .int b1, .int b2, .int a0, .int a1] (1, ch sa sb lt tt lg bc gi go sh bn sc rw dy pt R) (xif (okS n) (xif (okB bc b0) (xif (okB bc b1) (xif (okB bc b2) (xif (¬ b0 = b1 ∧ ¬ b0 = b2 ∧ ¬ b1 = b2) (xif ((bn b0.toNatClampNeg).1 = (bn b1.toNatClampNeg).1 ∧ (bn b0.toNatClampNeg).1 = (bn b2.toNatClampNeg).1) (xif (¬ a0 < 0 ∧ ¬ a1 < 0 ∧ a0.toInt64 + a1.toInt64 ≤ 60) (.inl (none), (0, ch sa sb lt tt lg bc gi go sh bn (vf_upd sc n.toNatClampNeg (1, b0, b1, b2, a1, 60 - a0 - a1)) rw dy pt R), 0, 0) (.inr "java/lang/IllegalArgumentException", (0, ch sa sb lt tt lg bc gi go sh bn sc rw dy pt R), 1, 6)) (.inr "java/lang/IllegalArgumentException", (0, ch sa sb lt tt lg bc gi go sh bn sc rw dy pt R), 1, 6)) (.inr "java/lang/IllegalArgumentException", (0, ch sa sb lt tt lg bc gi go sh bn sc rw dy pt R), 1, 6)) (.inr "java/lang/IndexOutOfBoundsException", (0, ch sa sb lt tt lg bc gi go sh bn sc rw dy pt R), 1, 6)) (.inr "java/lang/IndexOutOfBoundsException", (0, ch sa sb lt tt lg bc gi go sh bn sc rw dy pt R), 1, 6)) (.inr "java/lang/IndexOutOfBoundsException", (0, ch sa sb lt tt lg bc gi go sh bn sc rw dy pt R), 1, 6)) (.inr "java/lang/IndexOutOfBoundsException", (0, ch sa sb lt tt lg bc gi go sh bn sc rw dy pt R), 1, 6)) := by
  refine XM_of (by decide +kernel) (Nat.le_of_ble_eq_true rfl) (Or.inl rfl) ?_
  refine J_aload_n d_RF_screen_0 rfl rfl ?_
  refine J_iload_n d_RF_screen_1 rfl rfl ?_
  refine J_callO (xGo_v1 d_RF_screen_2 xc_RF_156 rfl rfl rfl) ⟨xq_RF_screenAt.1, xq_RF_screenAt.2.1⟩ ⟨Nat.le_of_ble_eq_true rfl, Nat.le_of_ble_eq_true rfl, Nat.le_of_ble_eq_true rfl, Nat.le_of_ble_eq_true rfl⟩ (Nat.le_of_ble_eq_true rfl) (m_screenAt hG) rfl (fun c2 => ?_) (fun c2 => (by rw [xif_neg c2] <;> try rfl))
  have hs := (okS_lt c2).1
  refine J_astore d_RF_screen_5 (by decide) ?_
  refine J_aload_n d_RF_screen_7 rfl rfl ?_
  refine J_iload_n d_RF_screen_8 rfl rfl ?_
  refine J_callO (xGo_v1 d_RF_screen_9 xc_RF_126 rfl rfl rfl) ⟨xq_RF_binAt.1, xq_RF_binAt.2.1⟩ ⟨Nat.le_of_ble_eq_true rfl, Nat.le_of_ble_eq_true rfl, Nat.le_of_ble_eq_true rfl, Nat.le_of_ble_eq_true rfl⟩ (Nat.le_of_ble_eq_true rfl) (m_binAt hG) rfl (fun c9 => ?_) (fun c9 => (by rw [xif_pos c2, xif_neg c9] <;> try rfl))
  have h0 := (okB_lt c9).1
  refine J_astore d_RF_screen_12 (by decide) ?_
  refine J_aload_n d_RF_screen_14 rfl rfl ?_
  refine J_iload_n d_RF_screen_15 rfl rfl ?_
  refine J_callO (xGo_v1 d_RF_screen_16 xc_RF_126 rfl rfl rfl) ⟨xq_RF_binAt.1, xq_RF_binAt.2.1⟩ ⟨Nat.le_of_ble_eq_true rfl, Nat.le_of_ble_eq_true rfl, Nat.le_of_ble_eq_true rfl, Nat.le_of_ble_eq_true rfl⟩ (Nat.le_of_ble_eq_true rfl) (m_binAt hG) rfl (fun c16 => ?_) (fun c16 => (by rw [xif_pos c2, xif_pos c9, xif_neg c16] <;> try rfl))
  have h1 := (okB_lt c16).1
  refine J_astore d_RF_screen_19 (by decide) ?_
  refine J_aload_n d_RF_screen_21 rfl rfl ?_
  refine J_iload d_RF_screen_22 rfl ?_
  refine J_callO (xGo_v1 d_RF_screen_24 xc_RF_126 rfl rfl rfl) ⟨xq_RF_binAt.1, xq_RF_binAt.2.1⟩ ⟨Nat.le_of_ble_eq_true rfl, Nat.le_of_ble_eq_true rfl, Nat.le_of_ble_eq_true rfl, Nat.le_of_ble_eq_true rfl⟩ (Nat.le_of_ble_eq_true rfl) (m_binAt hG) rfl (fun c24 => ?_) (fun c24 => (by rw [xif_pos c2, xif_pos c9, xif_pos c16, xif_neg c24] <;> try rfl))
  have h2 := (okB_lt c24).1
  refine J_astore d_RF_screen_27 (by decide) ?_
  refine J_iload_n d_RF_screen_29 rfl rfl ?_
  refine J_iload_n d_RF_screen_30 rfl rfl ?_
  refine J_icmp_eq (tgt := 46) d_RF_screen_31 (by decide) (fun c31 => ?_) (fun c31 => ?_)
  · skip
    exact J_throw xh_RF_59 xs_RF_160 ⟨Nat.le_of_ble_eq_true rfl, Nat.le_of_ble_eq_true rfl, Nat.le_of_ble_eq_true rfl, Nat.le_of_ble_eq_true rfl⟩ rfl d_RF_screen_46 d_RF_screen_49 d_RF_screen_50 d_RF_screen_52 d_RF_screen_55 rfl rfl (by rw [xif_pos c2, xif_pos c9, xif_pos c16, xif_pos c24, xif_neg (fun q => by first | exact q.1 c31 | exact c31 q.1)] <;> try rfl)
  · skip
    refine J_iload_n d_RF_screen_34 rfl rfl ?_
    refine J_iload d_RF_screen_35 rfl ?_
    refine J_icmp_eq (tgt := 46) d_RF_screen_37 (by decide) (fun c37 => ?_) (fun c37 => ?_)
    · skip
      exact J_throw xh_RF_59 xs_RF_160 ⟨Nat.le_of_ble_eq_true rfl, Nat.le_of_ble_eq_true rfl, Nat.le_of_ble_eq_true rfl, Nat.le_of_ble_eq_true rfl⟩ rfl d_RF_screen_46 d_RF_screen_49 d_RF_screen_50 d_RF_screen_52 d_RF_screen_55 rfl rfl (by rw [xif_pos c2, xif_pos c9, xif_pos c16, xif_pos c24, xif_neg (fun q => by first | exact q.2.1 c37 | exact c37 q.2.1)] <;> try rfl)
    · skip
      refine J_iload_n d_RF_screen_40 rfl rfl ?_
      refine J_iload d_RF_screen_41 rfl ?_
      refine J_icmp_ne (tgt := 56) d_RF_screen_43 (by decide) (fun c43 => ?_) (fun c43 => ?_)
      · skip
        refine J_aload d_RF_screen_56 rfl ?_
        refine J_get d_RF_screen_58 xf_RF_120 (ch_bin h0) rfl ?_
        refine J_aload d_RF_screen_61 rfl ?_
        refine J_get d_RF_screen_63 xf_RF_120 (ch_bin h1) rfl ?_
        refine J_icmp_ne (tgt := 82) d_RF_screen_66 (by decide) (fun c66 => ?_) (fun c66 => ?_)
        · skip
          exact J_throw xh_RF_59 xs_RF_162 ⟨Nat.le_of_ble_eq_true rfl, Nat.le_of_ble_eq_true rfl, Nat.le_of_ble_eq_true rfl, Nat.le_of_ble_eq_true rfl⟩ rfl d_RF_screen_82 d_RF_screen_85 d_RF_screen_86 d_RF_screen_88 d_RF_screen_91 rfl rfl (by rw [xif_pos c2, xif_pos c9, xif_pos c16, xif_pos c24, xif_pos ⟨c31, c37, c43⟩, xif_neg (fun q => by first | exact q.1 c66 | exact c66 q.1)] <;> try rfl)
        · skip
          have c66 := Classical.not_not.mp c66
          refine J_aload d_RF_screen_69 rfl ?_
          refine J_get d_RF_screen_71 xf_RF_120 (ch_bin h0) rfl ?_
          refine J_aload d_RF_screen_74 rfl ?_
          refine J_get d_RF_screen_76 xf_RF_120 (ch_bin h2) rfl ?_
          refine J_icmp_eq (tgt := 92) d_RF_screen_79 (by decide) (fun c79 => ?_) (fun c79 => ?_)
          · skip
            refine J_iload d_RF_screen_92 rfl ?_
            refine J_if_lt (tgt := 116) d_RF_screen_94 (by decide) (fun c94 => ?_) (fun c94 => ?_)
            · skip
              exact J_throw xh_RF_59 xs_RF_166 ⟨Nat.le_of_ble_eq_true rfl, Nat.le_of_ble_eq_true rfl, Nat.le_of_ble_eq_true rfl, Nat.le_of_ble_eq_true rfl⟩ rfl d_RF_screen_116 d_RF_screen_119 d_RF_screen_120 d_RF_screen_122 d_RF_screen_125 rfl rfl (by rw [xif_pos c2, xif_pos c9, xif_pos c16, xif_pos c24, xif_pos ⟨c31, c37, c43⟩, xif_pos ⟨c66, c79⟩, xif_neg (fun q => by first | exact q.1 c94 | exact c94 q.1)] <;> try rfl)
            · skip
              refine J_iload d_RF_screen_97 rfl ?_
              refine J_if_lt (tgt := 116) d_RF_screen_99 (by decide) (fun c99 => ?_) (fun c99 => ?_)
              · skip
                exact J_throw xh_RF_59 xs_RF_166 ⟨Nat.le_of_ble_eq_true rfl, Nat.le_of_ble_eq_true rfl, Nat.le_of_ble_eq_true rfl, Nat.le_of_ble_eq_true rfl⟩ rfl d_RF_screen_116 d_RF_screen_119 d_RF_screen_120 d_RF_screen_122 d_RF_screen_125 rfl rfl (by rw [xif_pos c2, xif_pos c9, xif_pos c16, xif_pos c24, xif_pos ⟨c31, c37, c43⟩, xif_pos ⟨c66, c79⟩, xif_neg (fun q => by first | exact q.2.1 c99 | exact c99 q.2.1)] <;> try rfl)
              · skip
                refine J_iload d_RF_screen_102 rfl ?_
                refine J_i2l d_RF_screen_104 ?_
                refine J_iload d_RF_screen_105 rfl ?_
                refine J_i2l d_RF_screen_107 ?_
                refine J_ladd d_RF_screen_108 ?_
                refine J_ldc2_w d_RF_screen_109 xj_RF_164 ?_
                refine J_lcmp d_RF_screen_112 ?_
                refine J_lif_le (tgt := 126) d_RF_screen_113 (by decide) (fun c113 => ?_) (fun c113 => ?_)
                · skip
                  refine J_aload d_RF_screen_126 rfl ?_
                  refine J_iload_n d_RF_screen_128 rfl rfl ?_
                  refine J_iload_n d_RF_screen_129 rfl rfl ?_
                  refine J_iload d_RF_screen_130 rfl ?_
                  refine J_iload d_RF_screen_132 rfl ?_
                  refine J_bipush (v := 60) d_RF_screen_134 (by decide) ?_
                  refine J_iload d_RF_screen_136 rfl ?_
                  refine J_isub d_RF_screen_138 ?_
                  refine J_iload d_RF_screen_139 rfl ?_
                  refine J_isub d_RF_screen_141 ?_
                  refine J_callW (xGo_v5 d_RF_screen_142 xc_RF_168 (ch_scr hs) rfl rfl) ⟨xq_Sc_tell.1, xq_Sc_tell.2.1⟩ ⟨Nat.le_of_ble_eq_true rfl, Nat.le_of_ble_eq_true rfl, Nat.le_of_ble_eq_true rfl, Nat.le_of_ble_eq_true rfl⟩ (Nat.le_of_ble_eq_true rfl) (m_Sc_tell (ch_scr hs)) ?_
                  refine J_heap (ch_sets hs) ?_
                  exact J_return d_RF_screen_145 rfl (by rw [xif_pos c2, xif_pos c9, xif_pos c16, xif_pos c24, xif_pos ⟨c31, c37, c43⟩, xif_pos ⟨c66, c79⟩, xif_pos ⟨c94, c99, c113⟩] <;> try rfl)
                · skip
                  exact J_throw xh_RF_59 xs_RF_166 ⟨Nat.le_of_ble_eq_true rfl, Nat.le_of_ble_eq_true rfl, Nat.le_of_ble_eq_true rfl, Nat.le_of_ble_eq_true rfl⟩ rfl d_RF_screen_116 d_RF_screen_119 d_RF_screen_120 d_RF_screen_122 d_RF_screen_125 rfl rfl (by rw [xif_pos c2, xif_pos c9, xif_pos c16, xif_pos c24, xif_pos ⟨c31, c37, c43⟩, xif_pos ⟨c66, c79⟩, xif_neg (fun q => by first | exact q.2.2 c113 | exact c113 q.2.2)] <;> try rfl)
          · skip
            exact J_throw xh_RF_59 xs_RF_162 ⟨Nat.le_of_ble_eq_true rfl, Nat.le_of_ble_eq_true rfl, Nat.le_of_ble_eq_true rfl, Nat.le_of_ble_eq_true rfl⟩ rfl d_RF_screen_82 d_RF_screen_85 d_RF_screen_86 d_RF_screen_88 d_RF_screen_91 rfl rfl (by rw [xif_pos c2, xif_pos c9, xif_pos c16, xif_pos c24, xif_pos ⟨c31, c37, c43⟩, xif_neg (fun q => by first | exact q.2 c79 | exact c79 q.2)] <;> try rfl)
      · skip
        have c43 := Classical.not_not.mp c43
        exact J_throw xh_RF_59 xs_RF_160 ⟨Nat.le_of_ble_eq_true rfl, Nat.le_of_ble_eq_true rfl, Nat.le_of_ble_eq_true rfl, Nat.le_of_ble_eq_true rfl⟩ rfl d_RF_screen_46 d_RF_screen_49 d_RF_screen_50 d_RF_screen_52 d_RF_screen_55 rfl rfl (by rw [xif_pos c2, xif_pos c9, xif_pos c16, xif_pos c24, xif_neg (fun q => by first | exact q.2.2 c43 | exact c43 q.2.2)] <;> try rfl)
def s_t1 (c : cS) (k : Int32) : Int32 := k * c.2.2.2.2.1 / 60
def s_t2 (c : cS) (k : Int32) : Int32 := k * c.2.2.2.2.2 / 60
def s_t0 (c : cS) (k : Int32) : Int32 := k - s_t1 c k - s_t2 c k
set_option maxHeartbeats 4000000 in
set_option maxRecDepth 100000 in
theorem m_send {n k w : Int32} (hG : gTok G) : XM G Y_RF_send [.ref 0, .int n, .int k, .int w] (1, ch sa sb lt tt lg bc gi go sh bn sc rw dy pt R) (xif (okS n) (xif (okP k w) (xif (¬ (sc n.toNatClampNeg).1 = 0) (xif (okB bc (sc n.toNatClampNeg).2.1) (xif (okB bc (sc n.toNatClampNeg).2.2.1) (xif (okB bc (sc n.toNatClampNeg).2.2.2.1) (xif (s_hr (bn ((sc n.toNatClampNeg).2.1.toNatClampNeg)) (s_t0 (sc n.toNatClampNeg) k) = 0 ∨ s_hr (bn ((sc n.toNatClampNeg).2.2.1.toNatClampNeg)) (s_t1 (sc n.toNatClampNeg) k) = 0 ∨ s_hr (bn ((sc n.toNatClampNeg).2.2.2.1.toNatClampNeg)) (s_t2 (sc n.toNatClampNeg) k) = 0) (.inl (some (.int 0)), (1, ch sa sb lt tt lg bc gi go sh bn sc rw dy pt R), 0, 0) (.inl (some (.int 1)), (0, ch sa sb lt tt lg bc (gi + (s_t0 (sc n.toNatClampNeg) k).toInt64 * 1000 + (s_t1 (sc n.toNatClampNeg) k).toInt64 * 1000 + (s_t2 (sc n.toNatClampNeg) k).toInt64 * 1000) go sh (vf_upd (vf_upd (vf_upd bn ((sc n.toNatClampNeg).2.1.toNatClampNeg) (s_pi (bn ((sc n.toNatClampNeg).2.1.toNatClampNeg)) (s_t0 (sc n.toNatClampNeg) k) w)) ((sc n.toNatClampNeg).2.2.1.toNatClampNeg) (s_pi ((vf_upd bn ((sc n.toNatClampNeg).2.1.toNatClampNeg) (s_pi (bn ((sc n.toNatClampNeg).2.1.toNatClampNeg)) (s_t0 (sc n.toNatClampNeg) k) w)) ((sc n.toNatClampNeg).2.2.1.toNatClampNeg)) (s_t1 (sc n.toNatClampNeg) k) w)) ((sc n.toNatClampNeg).2.2.2.1.toNatClampNeg) (s_pi ((vf_upd (vf_upd bn ((sc n.toNatClampNeg).2.1.toNatClampNeg) (s_pi (bn ((sc n.toNatClampNeg).2.1.toNatClampNeg)) (s_t0 (sc n.toNatClampNeg) k) w)) ((sc n.toNatClampNeg).2.2.1.toNatClampNeg) (s_pi ((vf_upd bn ((sc n.toNatClampNeg).2.1.toNatClampNeg) (s_pi (bn ((sc n.toNatClampNeg).2.1.toNatClampNeg)) (s_t0 (sc n.toNatClampNeg) k) w)) ((sc n.toNatClampNeg).2.2.1.toNatClampNeg)) (s_t1 (sc n.toNatClampNeg) k) w)) ((sc n.toNatClampNeg).2.2.2.1.toNatClampNeg)) (s_t2 (sc n.toNatClampNeg) k) w)) sc rw dy pt R), 0, 0)) (.inr "java/lang/IndexOutOfBoundsException", (0, ch sa sb lt tt lg bc gi go sh bn sc rw dy pt R), 1, 6)) (.inr "java/lang/IndexOutOfBoundsException", (0, ch sa sb lt tt lg bc gi go sh bn sc rw dy pt R), 1, 6)) (.inr "java/lang/IndexOutOfBoundsException", (0, ch sa sb lt tt lg bc gi go sh bn sc rw dy pt R), 1, 6)) (.inr "java/lang/IllegalStateException", (0, ch sa sb lt tt lg bc gi go sh bn sc rw dy pt R), 1, 6)) (.inr "java/lang/IllegalArgumentException", (0, ch sa sb lt tt lg bc gi go sh bn sc rw dy pt R), 1, 6)) (.inr "java/lang/IndexOutOfBoundsException", (0, ch sa sb lt tt lg bc gi go sh bn sc rw dy pt R), 1, 6)) := by
  refine XM_of (by decide +kernel) (Nat.le_of_ble_eq_true rfl) (Or.inl rfl) ?_
  refine J_aload_n d_RF_send_0 rfl rfl ?_
  refine J_iload_n d_RF_send_1 rfl rfl ?_
  refine J_callO (xGo_v1 d_RF_send_2 xc_RF_156 rfl rfl rfl) ⟨xq_RF_screenAt.1, xq_RF_screenAt.2.1⟩ ⟨Nat.le_of_ble_eq_true rfl, Nat.le_of_ble_eq_true rfl, Nat.le_of_ble_eq_true rfl, Nat.le_of_ble_eq_true rfl⟩ (Nat.le_of_ble_eq_true rfl) (m_screenAt hG) rfl (fun c2 => ?_) (fun c2 => (by simp only [xif, c2, Classical.not_not, if_true, if_false, not_true_eq_false, not_false_eq_true, and_true, true_and, and_false, false_and, or_true, true_or, or_false, false_or, and_self, or_self] <;> rfl))
  have hs := (okS_lt c2).1
  refine J_astore d_RF_send_5 (by decide) ?_
  refine J_iload_n d_RF_send_7 rfl rfl ?_
  refine J_iload_n d_RF_send_8 rfl rfl ?_
  refine J_callO (xGo_s2 d_RF_send_9 xc_RF_130) ⟨xq_RF_checkPoured.1, xq_RF_checkPoured.2.1⟩ ⟨Nat.le_of_ble_eq_true rfl, Nat.le_of_ble_eq_true rfl, Nat.le_of_ble_eq_true rfl, Nat.le_of_ble_eq_true rfl⟩ (Nat.le_of_ble_eq_true rfl) m_checkPoured rfl (fun c9 => ?_) (fun c9 => (by simp only [xif, c2, c9, Classical.not_not, if_true, if_false, not_true_eq_false, not_false_eq_true, and_true, true_and, and_false, false_and, or_true, true_or, or_false, false_or, and_self, or_self] <;> rfl))
  refine J_aload d_RF_send_12 rfl ?_
  refine J_get d_RF_send_14 xf_RF_171 (ch_scr hs) rfl ?_
  refine J_if_ne (tgt := 30) d_RF_send_17 (by decide) (fun c17 => ?_) (fun c17 => ?_)
  · skip
    refine J_aload_n d_RF_send_30 rfl rfl ?_
    refine J_aload d_RF_send_31 rfl ?_
    refine J_get d_RF_send_33 xf_RF_177 (ch_scr hs) rfl ?_
    refine J_callO (xGo_v1 d_RF_send_36 xc_RF_126 rfl rfl rfl) ⟨xq_RF_binAt.1, xq_RF_binAt.2.1⟩ ⟨Nat.le_of_ble_eq_true rfl, Nat.le_of_ble_eq_true rfl, Nat.le_of_ble_eq_true rfl, Nat.le_of_ble_eq_true rfl⟩ (Nat.le_of_ble_eq_true rfl) (m_binAt hG) rfl (fun c36 => ?_) (fun c36 => (by simp only [xif, c2, c9, c17, c36, Classical.not_not, if_true, if_false, not_true_eq_false, not_false_eq_true, and_true, true_and, and_false, false_and, or_true, true_or, or_false, false_or, and_self, or_self] <;> rfl))
    have h0 := (okB_lt c36).1
    refine J_astore d_RF_send_39 (by decide) ?_
    refine J_aload_n d_RF_send_41 rfl rfl ?_
    refine J_aload d_RF_send_42 rfl ?_
    refine J_get d_RF_send_44 xf_RF_180 (ch_scr hs) rfl ?_
    refine J_callO (xGo_v1 d_RF_send_47 xc_RF_126 rfl rfl rfl) ⟨xq_RF_binAt.1, xq_RF_binAt.2.1⟩ ⟨Nat.le_of_ble_eq_true rfl, Nat.le_of_ble_eq_true rfl, Nat.le_of_ble_eq_true rfl, Nat.le_of_ble_eq_true rfl⟩ (Nat.le_of_ble_eq_true rfl) (m_binAt hG) rfl (fun c47 => ?_) (fun c47 => (by simp only [xif, c2, c9, c17, c36, c47, Classical.not_not, if_true, if_false, not_true_eq_false, not_false_eq_true, and_true, true_and, and_false, false_and, or_true, true_or, or_false, false_or, and_self, or_self] <;> rfl))
    have h1 := (okB_lt c47).1
    refine J_astore d_RF_send_50 (by decide) ?_
    refine J_aload_n d_RF_send_52 rfl rfl ?_
    refine J_aload d_RF_send_53 rfl ?_
    refine J_get d_RF_send_55 xf_RF_183 (ch_scr hs) rfl ?_
    refine J_callO (xGo_v1 d_RF_send_58 xc_RF_126 rfl rfl rfl) ⟨xq_RF_binAt.1, xq_RF_binAt.2.1⟩ ⟨Nat.le_of_ble_eq_true rfl, Nat.le_of_ble_eq_true rfl, Nat.le_of_ble_eq_true rfl, Nat.le_of_ble_eq_true rfl⟩ (Nat.le_of_ble_eq_true rfl) (m_binAt hG) rfl (fun c58 => ?_) (fun c58 => (by simp only [xif, c2, c9, c17, c36, c47, c58, Classical.not_not, if_true, if_false, not_true_eq_false, not_false_eq_true, and_true, true_and, and_false, false_and, or_true, true_or, or_false, false_or, and_self, or_self] <;> rfl))
    have h2 := (okB_lt c58).1
    refine J_astore d_RF_send_61 (by decide) ?_
    refine J_iload_n d_RF_send_63 rfl rfl ?_
    refine J_aload d_RF_send_64 rfl ?_
    refine J_get d_RF_send_66 xf_RF_186 (ch_scr hs) rfl ?_
    refine J_imul d_RF_send_69 ?_
    refine J_bipush (v := 60) d_RF_send_70 (by decide) ?_
    refine J_idiv d_RF_send_72 (by decide) ?_
    refine J_istore d_RF_send_73 (by decide) ?_
    refine J_iload_n d_RF_send_75 rfl rfl ?_
    refine J_aload d_RF_send_76 rfl ?_
    refine J_get d_RF_send_78 xf_RF_189 (ch_scr hs) rfl ?_
    refine J_imul d_RF_send_81 ?_
    refine J_bipush (v := 60) d_RF_send_82 (by decide) ?_
    refine J_idiv d_RF_send_84 (by decide) ?_
    refine J_istore d_RF_send_85 (by decide) ?_
    refine J_iload_n d_RF_send_87 rfl rfl ?_
    refine J_iload d_RF_send_88 rfl ?_
    refine J_isub d_RF_send_90 ?_
    refine J_iload d_RF_send_91 rfl ?_
    refine J_isub d_RF_send_93 ?_
    refine J_istore d_RF_send_94 (by decide) ?_
    refine J_aload d_RF_send_96 rfl ?_
    refine J_iload d_RF_send_98 rfl ?_
    refine J_callP (xGo_v1 d_RF_send_100 xc_RF_133 (ch_bin h0) rfl rfl) ⟨xq_Bi_hasRoom.1, xq_Bi_hasRoom.2.1⟩ ⟨Nat.le_of_ble_eq_true rfl, Nat.le_of_ble_eq_true rfl, Nat.le_of_ble_eq_true rfl, Nat.le_of_ble_eq_true rfl⟩ (Nat.le_of_ble_eq_true rfl) (m_Bi_hasRoom (ch_bin h0)) ?_
    refine J_if_eq (tgt := 126) d_RF_send_103 (by decide) (fun c103 => ?_) (fun c103 => ?_)
    · skip
      refine J_iconst (v := 0) d_RF_send_126 (by decide) ?_
      exact J_zreturn d_RF_send_127 rfl rfl (by rw [xif_pos c2, xif_pos c9, xif_pos c17, xif_pos c36, xif_pos c47, xif_pos c58, xif_pos (P := s_hr (bn ((sc n.toNatClampNeg).2.1.toNatClampNeg)) (s_t0 (sc n.toNatClampNeg) k) = 0 ∨ s_hr (bn ((sc n.toNatClampNeg).2.2.1.toNatClampNeg)) (s_t1 (sc n.toNatClampNeg) k) = 0 ∨ s_hr (bn ((sc n.toNatClampNeg).2.2.2.1.toNatClampNeg)) (s_t2 (sc n.toNatClampNeg) k) = 0) (Or.inl c103)] <;> try rfl)
    · skip
      refine J_aload d_RF_send_106 rfl ?_
      refine J_iload d_RF_send_108 rfl ?_
      refine J_callP (xGo_v1 d_RF_send_110 xc_RF_133 (ch_bin h1) rfl rfl) ⟨xq_Bi_hasRoom.1, xq_Bi_hasRoom.2.1⟩ ⟨Nat.le_of_ble_eq_true rfl, Nat.le_of_ble_eq_true rfl, Nat.le_of_ble_eq_true rfl, Nat.le_of_ble_eq_true rfl⟩ (Nat.le_of_ble_eq_true rfl) (m_Bi_hasRoom (ch_bin h1)) ?_
      refine J_if_eq (tgt := 126) d_RF_send_113 (by decide) (fun c113 => ?_) (fun c113 => ?_)
      · skip
        refine J_iconst (v := 0) d_RF_send_126 (by decide) ?_
        exact J_zreturn d_RF_send_127 rfl rfl (by rw [xif_pos c2, xif_pos c9, xif_pos c17, xif_pos c36, xif_pos c47, xif_pos c58, xif_pos (P := s_hr (bn ((sc n.toNatClampNeg).2.1.toNatClampNeg)) (s_t0 (sc n.toNatClampNeg) k) = 0 ∨ s_hr (bn ((sc n.toNatClampNeg).2.2.1.toNatClampNeg)) (s_t1 (sc n.toNatClampNeg) k) = 0 ∨ s_hr (bn ((sc n.toNatClampNeg).2.2.2.1.toNatClampNeg)) (s_t2 (sc n.toNatClampNeg) k) = 0) (Or.inr (Or.inl c113))] <;> try rfl)
      · skip
        refine J_aload d_RF_send_116 rfl ?_
        refine J_iload d_RF_send_118 rfl ?_
        refine J_callP (xGo_v1 d_RF_send_120 xc_RF_133 (ch_bin h2) rfl rfl) ⟨xq_Bi_hasRoom.1, xq_Bi_hasRoom.2.1⟩ ⟨Nat.le_of_ble_eq_true rfl, Nat.le_of_ble_eq_true rfl, Nat.le_of_ble_eq_true rfl, Nat.le_of_ble_eq_true rfl⟩ (Nat.le_of_ble_eq_true rfl) (m_Bi_hasRoom (ch_bin h2)) ?_
        refine J_if_ne (tgt := 128) d_RF_send_123 (by decide) (fun c123 => ?_) (fun c123 => ?_)
        · skip
          refine J_aload_n d_RF_send_128 rfl rfl ?_
          refine J_aload d_RF_send_129 rfl ?_
          refine J_iload d_RF_send_131 rfl ?_
          refine J_iload_n d_RF_send_133 rfl rfl ?_
          refine J_callW (xGo_v3 d_RF_send_134 xc_RF_137 rfl rfl rfl) ⟨xq_RF_pourInto.1, xq_RF_pourInto.2.1⟩ ⟨Nat.le_of_ble_eq_true rfl, Nat.le_of_ble_eq_true rfl, Nat.le_of_ble_eq_true rfl, Nat.le_of_ble_eq_true rfl⟩ (Nat.le_of_ble_eq_true rfl) (m_pourInto h0) ?_
          refine J_aload_n d_RF_send_137 rfl rfl ?_
          refine J_aload d_RF_send_138 rfl ?_
          refine J_iload d_RF_send_140 rfl ?_
          refine J_iload_n d_RF_send_142 rfl rfl ?_
          refine J_callW (xGo_v3 d_RF_send_143 xc_RF_137 rfl rfl rfl) ⟨xq_RF_pourInto.1, xq_RF_pourInto.2.1⟩ ⟨Nat.le_of_ble_eq_true rfl, Nat.le_of_ble_eq_true rfl, Nat.le_of_ble_eq_true rfl, Nat.le_of_ble_eq_true rfl⟩ (Nat.le_of_ble_eq_true rfl) (m_pourInto h1) ?_
          refine J_aload_n d_RF_send_146 rfl rfl ?_
          refine J_aload d_RF_send_147 rfl ?_
          refine J_iload d_RF_send_149 rfl ?_
          refine J_iload_n d_RF_send_151 rfl rfl ?_
          refine J_callW (xGo_v3 d_RF_send_152 xc_RF_137 rfl rfl rfl) ⟨xq_RF_pourInto.1, xq_RF_pourInto.2.1⟩ ⟨Nat.le_of_ble_eq_true rfl, Nat.le_of_ble_eq_true rfl, Nat.le_of_ble_eq_true rfl, Nat.le_of_ble_eq_true rfl⟩ (Nat.le_of_ble_eq_true rfl) (m_pourInto h2) ?_
          refine J_iconst (v := 1) d_RF_send_155 (by decide) ?_
          exact J_zreturn d_RF_send_156 rfl rfl (by rw [xif_pos c2, xif_pos c9, xif_pos c17, xif_pos c36, xif_pos c47, xif_pos c58, xif_neg (P := s_hr (bn ((sc n.toNatClampNeg).2.1.toNatClampNeg)) (s_t0 (sc n.toNatClampNeg) k) = 0 ∨ s_hr (bn ((sc n.toNatClampNeg).2.2.1.toNatClampNeg)) (s_t1 (sc n.toNatClampNeg) k) = 0 ∨ s_hr (bn ((sc n.toNatClampNeg).2.2.2.1.toNatClampNeg)) (s_t2 (sc n.toNatClampNeg) k) = 0) (fun q => q.elim c103 (fun q => q.elim c113 c123))] <;> try rfl)
        · skip
          have c123 := Classical.not_not.mp c123
          refine J_iconst (v := 0) d_RF_send_126 (by decide) ?_
          exact J_zreturn d_RF_send_127 rfl rfl (by rw [xif_pos c2, xif_pos c9, xif_pos c17, xif_pos c36, xif_pos c47, xif_pos c58, xif_pos (P := s_hr (bn ((sc n.toNatClampNeg).2.1.toNatClampNeg)) (s_t0 (sc n.toNatClampNeg) k) = 0 ∨ s_hr (bn ((sc n.toNatClampNeg).2.2.1.toNatClampNeg)) (s_t1 (sc n.toNatClampNeg) k) = 0 ∨ s_hr (bn ((sc n.toNatClampNeg).2.2.2.1.toNatClampNeg)) (s_t2 (sc n.toNatClampNeg) k) = 0) (Or.inr (Or.inr c123))] <;> try rfl)
  · skip
    have c17 := Classical.not_not.mp c17
    exact J_throw xh_RF_115 xs_RF_175 ⟨Nat.le_of_ble_eq_true rfl, Nat.le_of_ble_eq_true rfl, Nat.le_of_ble_eq_true rfl, Nat.le_of_ble_eq_true rfl⟩ rfl d_RF_send_20 d_RF_send_23 d_RF_send_24 d_RF_send_26 d_RF_send_29 rfl rfl (by simp only [xif, c2, c9, c17, Classical.not_not, if_true, if_false, not_true_eq_false, not_false_eq_true, and_true, true_and, and_false, false_and, or_true, true_or, or_false, false_or, and_self, or_self] <;> rfl)
end XC3
