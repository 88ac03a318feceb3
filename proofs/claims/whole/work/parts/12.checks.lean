section XC1
variable {G : xG} {sa sb : Int32 × Int32} {lt tt : cP} {lg bc : Int32} {gi go : Int64} {sh : Int32} {bn : Nat → cB} {sc : Nat → cS} {rw : Int32} {dy pt : Nat → Int32} {R : List va_E}
def okK (k : Int32) : Prop := ¬ k < 0 ∧ k < 4
def okP (k w : Int32) : Prop := ¬ k < 0 ∧ ¬ 1000000 < k ∧ ¬ w < 0 ∧ w ≤ 1000
def okT (k : Int32) : Prop := ¬ k < 1 ∧ k ≤ 1000000
def okD (d : Int32) : Prop := ¬ d < 0 ∧ d < 365
def okE (b : cB) (k : Int32) : Prop := k.toInt64 * 1000 ≤ s_gr b
set_option maxHeartbeats 4000000 in
set_option maxRecDepth 100000 in
theorem m_checkKind {k : Int32} : (okK k → XM G Y_RF_checkKind [.int k] (1, ch sa sb lt tt lg bc gi go sh bn sc rw dy pt R) (.inl (none), (1, ch sa sb lt tt lg bc gi go sh bn sc rw dy pt R), 0, 0)) ∧ (¬ okK k → XM G Y_RF_checkKind [.int k] (1, ch sa sb lt tt lg bc gi go sh bn sc rw dy pt R) (.inr "java/lang/IndexOutOfBoundsException", (0, ch sa sb lt tt lg bc gi go sh bn sc rw dy pt R), 1, 6)) := by
  refine XM_if (fun r ha hb => ?_)
  refine XM_of (by decide +kernel) (Nat.le_of_ble_eq_true rfl) (Or.inl rfl) ?_
  refine J_iload_n d_RF_checkKind_0 rfl rfl ?_
  refine J_if_lt (tgt := 9) d_RF_checkKind_1 (by decide) (fun c1 => ?_) (fun c1 => ?_)
  · skip
    exact J_throwW xh_RF_52 xs_RF_280 ⟨Nat.le_of_ble_eq_true rfl, Nat.le_of_ble_eq_true rfl, Nat.le_of_ble_eq_true rfl, Nat.le_of_ble_eq_true rfl⟩ rfl d_RF_checkKind_9 d_RF_checkKind_12 d_RF_checkKind_13 d_RF_checkKind_16 d_RF_checkKind_19 rfl rfl (hb (fun q => absurd c1 q.1))
  · skip
    refine J_iload_n d_RF_checkKind_4 rfl rfl ?_
    refine J_iconst (v := 4) d_RF_checkKind_5 (by decide) ?_
    refine J_icmp_lt (tgt := 20) d_RF_checkKind_6 (by decide) (fun c6 => ?_) (fun c6 => ?_)
    · skip
      exact J_return d_RF_checkKind_20 rfl (ha ⟨c1, c6⟩)
    · skip
      exact J_throwW xh_RF_52 xs_RF_280 ⟨Nat.le_of_ble_eq_true rfl, Nat.le_of_ble_eq_true rfl, Nat.le_of_ble_eq_true rfl, Nat.le_of_ble_eq_true rfl⟩ rfl d_RF_checkKind_9 d_RF_checkKind_12 d_RF_checkKind_13 d_RF_checkKind_16 d_RF_checkKind_19 rfl rfl (hb (fun q => absurd q.2 c6))
set_option maxHeartbeats 4000000 in
set_option maxRecDepth 100000 in
theorem m_checkLogs  : (¬ lg = 0 → XM G Y_RF_checkLogs [.ref 0] (1, ch sa sb lt tt lg bc gi go sh bn sc rw dy pt R) (.inl (none), (1, ch sa sb lt tt lg bc gi go sh bn sc rw dy pt R), 0, 0)) ∧ (¬ ¬ lg = 0 → XM G Y_RF_checkLogs [.ref 0] (1, ch sa sb lt tt lg bc gi go sh bn sc rw dy pt R) (.inr "java/lang/IllegalStateException", (0, ch sa sb lt tt lg bc gi go sh bn sc rw dy pt R), 1, 6)) := by
  refine XM_if (fun r ha hb => ?_)
  refine XM_of (by decide +kernel) (Nat.le_of_ble_eq_true rfl) (Or.inl rfl) ?_
  refine J_aload_n d_RF_checkLogs_0 rfl rfl ?_
  refine J_get d_RF_checkLogs_1 xf_RF_91 rfl rfl ?_
  refine J_if_ne (tgt := 18) d_RF_checkLogs_4 (by decide) (fun c4 => ?_) (fun c4 => ?_)
  · skip
    exact J_return d_RF_checkLogs_18 rfl (ha c4)
  · skip
    exact J_throwW xh_RF_115 xs_RF_282 ⟨Nat.le_of_ble_eq_true rfl, Nat.le_of_ble_eq_true rfl, Nat.le_of_ble_eq_true rfl, Nat.le_of_ble_eq_true rfl⟩ rfl d_RF_checkLogs_7 d_RF_checkLogs_10 d_RF_checkLogs_11 d_RF_checkLogs_14 d_RF_checkLogs_17 rfl rfl (hb c4)
set_option maxHeartbeats 4000000 in
set_option maxRecDepth 100000 in
theorem m_checkPoured {k w : Int32} : (okP k w → XM G Y_RF_checkPoured [.int k, .int w] (1, ch sa sb lt tt lg bc gi go sh bn sc rw dy pt R) (.inl (none), (1, ch sa sb lt tt lg bc gi go sh bn sc rw dy pt R), 0, 0)) ∧ (¬ okP k w → XM G Y_RF_checkPoured [.int k, .int w] (1, ch sa sb lt tt lg bc gi go sh bn sc rw dy pt R) (.inr "java/lang/IllegalArgumentException", (0, ch sa sb lt tt lg bc gi go sh bn sc rw dy pt R), 1, 6)) := by
  refine XM_if (fun r ha hb => ?_)
  refine XM_of (by decide +kernel) (Nat.le_of_ble_eq_true rfl) (Or.inl rfl) ?_
  refine J_iload_n d_RF_checkPoured_0 rfl rfl ?_
  refine J_if_lt (tgt := 21) d_RF_checkPoured_1 (by decide) (fun c1 => ?_) (fun c1 => ?_)
  · skip
    exact J_throwW xh_RF_59 xs_RF_284 ⟨Nat.le_of_ble_eq_true rfl, Nat.le_of_ble_eq_true rfl, Nat.le_of_ble_eq_true rfl, Nat.le_of_ble_eq_true rfl⟩ rfl d_RF_checkPoured_21 d_RF_checkPoured_24 d_RF_checkPoured_25 d_RF_checkPoured_28 d_RF_checkPoured_31 rfl rfl (hb (fun q => q.1 c1))
  · skip
    refine J_iload_n d_RF_checkPoured_4 rfl rfl ?_
    refine J_ldc d_RF_checkPoured_5 xi_RF_109 ?_
    refine J_icmp_gt (tgt := 21) d_RF_checkPoured_7 (by decide) (fun c7 => ?_) (fun c7 => ?_)
    · skip
      exact J_throwW xh_RF_59 xs_RF_284 ⟨Nat.le_of_ble_eq_true rfl, Nat.le_of_ble_eq_true rfl, Nat.le_of_ble_eq_true rfl, Nat.le_of_ble_eq_true rfl⟩ rfl d_RF_checkPoured_21 d_RF_checkPoured_24 d_RF_checkPoured_25 d_RF_checkPoured_28 d_RF_checkPoured_31 rfl rfl (hb (fun q => q.2.1 c7))
    · skip
      refine J_iload_n d_RF_checkPoured_10 rfl rfl ?_
      refine J_if_lt (tgt := 21) d_RF_checkPoured_11 (by decide) (fun c11 => ?_) (fun c11 => ?_)
      · skip
        exact J_throwW xh_RF_59 xs_RF_284 ⟨Nat.le_of_ble_eq_true rfl, Nat.le_of_ble_eq_true rfl, Nat.le_of_ble_eq_true rfl, Nat.le_of_ble_eq_true rfl⟩ rfl d_RF_checkPoured_21 d_RF_checkPoured_24 d_RF_checkPoured_25 d_RF_checkPoured_28 d_RF_checkPoured_31 rfl rfl (hb (fun q => q.2.2.1 c11))
      · skip
        refine J_iload_n d_RF_checkPoured_14 rfl rfl ?_
        refine J_sipush (v := 1000) d_RF_checkPoured_15 (by decide) ?_
        refine J_icmp_le (tgt := 32) d_RF_checkPoured_18 (by decide) (fun c18 => ?_) (fun c18 => ?_)
        · skip
          exact J_return d_RF_checkPoured_32 rfl (ha ⟨c1, c7, c11, c18⟩)
        · skip
          exact J_throwW xh_RF_59 xs_RF_284 ⟨Nat.le_of_ble_eq_true rfl, Nat.le_of_ble_eq_true rfl, Nat.le_of_ble_eq_true rfl, Nat.le_of_ble_eq_true rfl⟩ rfl d_RF_checkPoured_21 d_RF_checkPoured_24 d_RF_checkPoured_25 d_RF_checkPoured_28 d_RF_checkPoured_31 rfl rfl (hb (fun q => absurd q.2.2.2 c18))
set_option maxHeartbeats 4000000 in
set_option maxRecDepth 100000 in
theorem m_checkTaken {k : Int32} : (okT k → XM G Y_RF_checkTaken [.int k] (1, ch sa sb lt tt lg bc gi go sh bn sc rw dy pt R) (.inl (none), (1, ch sa sb lt tt lg bc gi go sh bn sc rw dy pt R), 0, 0)) ∧ (¬ okT k → XM G Y_RF_checkTaken [.int k] (1, ch sa sb lt tt lg bc gi go sh bn sc rw dy pt R) (.inr "java/lang/IllegalArgumentException", (0, ch sa sb lt tt lg bc gi go sh bn sc rw dy pt R), 1, 6)) := by
  refine XM_if (fun r ha hb => ?_)
  refine XM_of (by decide +kernel) (Nat.le_of_ble_eq_true rfl) (Or.inl rfl) ?_
  refine J_iload_n d_RF_checkTaken_0 rfl rfl ?_
  refine J_iconst (v := 1) d_RF_checkTaken_1 (by decide) ?_
  refine J_icmp_lt (tgt := 11) d_RF_checkTaken_2 (by decide) (fun c2 => ?_) (fun c2 => ?_)
  · skip
    exact J_throwW xh_RF_59 xs_RF_286 ⟨Nat.le_of_ble_eq_true rfl, Nat.le_of_ble_eq_true rfl, Nat.le_of_ble_eq_true rfl, Nat.le_of_ble_eq_true rfl⟩ rfl d_RF_checkTaken_11 d_RF_checkTaken_14 d_RF_checkTaken_15 d_RF_checkTaken_18 d_RF_checkTaken_21 rfl rfl (hb (fun q => q.1 c2))
  · skip
    refine J_iload_n d_RF_checkTaken_5 rfl rfl ?_
    refine J_ldc d_RF_checkTaken_6 xi_RF_109 ?_
    refine J_icmp_le (tgt := 22) d_RF_checkTaken_8 (by decide) (fun c8 => ?_) (fun c8 => ?_)
    · skip
      exact J_return d_RF_checkTaken_22 rfl (ha ⟨c2, c8⟩)
    · skip
      exact J_throwW xh_RF_59 xs_RF_286 ⟨Nat.le_of_ble_eq_true rfl, Nat.le_of_ble_eq_true rfl, Nat.le_of_ble_eq_true rfl, Nat.le_of_ble_eq_true rfl⟩ rfl d_RF_checkTaken_11 d_RF_checkTaken_14 d_RF_checkTaken_15 d_RF_checkTaken_18 d_RF_checkTaken_21 rfl rfl (hb (fun q => absurd q.2 c8))
set_option maxHeartbeats 4000000 in
set_option maxRecDepth 100000 in
theorem m_checkDay {k : Int32} : (okD k → XM G Y_RF_checkDay [.int k] (1, ch sa sb lt tt lg bc gi go sh bn sc rw dy pt R) (.inl (none), (1, ch sa sb lt tt lg bc gi go sh bn sc rw dy pt R), 0, 0)) ∧ (¬ okD k → XM G Y_RF_checkDay [.int k] (1, ch sa sb lt tt lg bc gi go sh bn sc rw dy pt R) (.inr "java/lang/IllegalArgumentException", (0, ch sa sb lt tt lg bc gi go sh bn sc rw dy pt R), 1, 6)) := by
  refine XM_if (fun r ha hb => ?_)
  refine XM_of (by decide +kernel) (Nat.le_of_ble_eq_true rfl) (Or.inl rfl) ?_
  refine J_iload_n d_RF_checkDay_0 rfl rfl ?_
  refine J_if_lt (tgt := 11) d_RF_checkDay_1 (by decide) (fun c1 => ?_) (fun c1 => ?_)
  · skip
    exact J_throwW xh_RF_59 xs_RF_288 ⟨Nat.le_of_ble_eq_true rfl, Nat.le_of_ble_eq_true rfl, Nat.le_of_ble_eq_true rfl, Nat.le_of_ble_eq_true rfl⟩ rfl d_RF_checkDay_11 d_RF_checkDay_14 d_RF_checkDay_15 d_RF_checkDay_18 d_RF_checkDay_21 rfl rfl (hb (fun q => q.1 c1))
  · skip
    refine J_iload_n d_RF_checkDay_4 rfl rfl ?_
    refine J_sipush (v := 365) d_RF_checkDay_5 (by decide) ?_
    refine J_icmp_lt (tgt := 22) d_RF_checkDay_8 (by decide) (fun c8 => ?_) (fun c8 => ?_)
    · skip
      exact J_return d_RF_checkDay_22 rfl (ha ⟨c1, c8⟩)
    · skip
      exact J_throwW xh_RF_59 xs_RF_288 ⟨Nat.le_of_ble_eq_true rfl, Nat.le_of_ble_eq_true rfl, Nat.le_of_ble_eq_true rfl, Nat.le_of_ble_eq_true rfl⟩ rfl d_RF_checkDay_11 d_RF_checkDay_14 d_RF_checkDay_15 d_RF_checkDay_18 d_RF_checkDay_21 rfl rfl (hb (fun q => absurd q.2 c8))
set_option maxHeartbeats 4000000 in
set_option maxRecDepth 100000 in
theorem m_checkEnough {i : Nat} {k : Int32} (hi : i < 8) : (okE (bn i) k → XM G Y_RF_checkEnough [.ref (6 + i), .int k] (1, ch sa sb lt tt lg bc gi go sh bn sc rw dy pt R) (.inl (none), (1, ch sa sb lt tt lg bc gi go sh bn sc rw dy pt R), 0, 0)) ∧ (¬ okE (bn i) k → XM G Y_RF_checkEnough [.ref (6 + i), .int k] (1, ch sa sb lt tt lg bc gi go sh bn sc rw dy pt R) (.inr "java/lang/IllegalStateException", (0, ch sa sb lt tt lg bc gi go sh bn sc rw dy pt R), 1, 6)) := by
  refine XM_if (fun r ha hb => ?_)
  refine XM_of (by decide +kernel) (Nat.le_of_ble_eq_true rfl) (Or.inl rfl) ?_
  refine J_iload_n d_RF_checkEnough_0 rfl rfl ?_
  refine J_i2l d_RF_checkEnough_1 ?_
  refine J_ldc2_w d_RF_checkEnough_2 xj_RF_290 ?_
  refine J_lmul d_RF_checkEnough_5 ?_
  refine J_aload_n d_RF_checkEnough_6 rfl rfl ?_
  refine J_callP (xGo_v0 d_RF_checkEnough_7 xc_RF_150 (ch_bin hi) rfl rfl) ⟨xq_Bi_grams.1, xq_Bi_grams.2.1⟩ ⟨Nat.le_of_ble_eq_true rfl, Nat.le_of_ble_eq_true rfl, Nat.le_of_ble_eq_true rfl, Nat.le_of_ble_eq_true rfl⟩ (Nat.le_of_ble_eq_true rfl) (m_Bi_grams (ch_bin hi)) ?_
  refine J_lcmp d_RF_checkEnough_10 ?_
  refine J_lif_le (tgt := 25) d_RF_checkEnough_11 (by decide) (fun c11 => ?_) (fun c11 => ?_)
  · skip
    exact J_return d_RF_checkEnough_25 rfl (ha c11)
  · skip
    exact J_throwW xh_RF_115 xs_RF_292 ⟨Nat.le_of_ble_eq_true rfl, Nat.le_of_ble_eq_true rfl, Nat.le_of_ble_eq_true rfl, Nat.le_of_ble_eq_true rfl⟩ rfl d_RF_checkEnough_14 d_RF_checkEnough_17 d_RF_checkEnough_18 d_RF_checkEnough_21 d_RF_checkEnough_24 rfl rfl (hb c11)
set_option maxHeartbeats 4000000 in
set_option maxRecDepth 100000 in
theorem m_binAt {n : Int32} (hG : gTok G) : (okB bc n → XM G Y_RF_binAt [.ref 0, .int n] (1, ch sa sb lt tt lg bc gi go sh bn sc rw dy pt R) (.inl (some (.ref (6 + n.toNatClampNeg))), (1, ch sa sb lt tt lg bc gi go sh bn sc rw dy pt R), 0, 0)) ∧ (¬ okB bc n → XM G Y_RF_binAt [.ref 0, .int n] (1, ch sa sb lt tt lg bc gi go sh bn sc rw dy pt R) (.inr "java/lang/IndexOutOfBoundsException", (0, ch sa sb lt tt lg bc gi go sh bn sc rw dy pt R), 1, 6)) := by
  refine XM_if (fun r ha hb => ?_)
  refine XM_of (by decide +kernel) (Nat.le_of_ble_eq_true rfl) (Or.inl rfl) ?_
  refine J_iload_n d_RF_binAt_0 rfl rfl ?_
  refine J_if_lt (tgt := 18) d_RF_binAt_1 (by decide) (fun c1 => ?_) (fun c1 => ?_)
  · skip
    exact J_throwW xh_RF_52 xs_RF_294 ⟨Nat.le_of_ble_eq_true rfl, Nat.le_of_ble_eq_true rfl, Nat.le_of_ble_eq_true rfl, Nat.le_of_ble_eq_true rfl⟩ rfl d_RF_binAt_18 d_RF_binAt_21 d_RF_binAt_22 d_RF_binAt_25 d_RF_binAt_28 rfl rfl (hb (fun q => q.1 c1))
  · skip
    refine J_iload_n d_RF_binAt_4 rfl rfl ?_
    refine J_aload_n d_RF_binAt_5 rfl rfl ?_
    refine J_get d_RF_binAt_6 xf_RF_112 rfl rfl ?_
    refine J_icmp_ge (tgt := 18) d_RF_binAt_9 (by decide) (fun c9 => ?_) (fun c9 => ?_)
    · skip
      exact J_throwW xh_RF_52 xs_RF_294 ⟨Nat.le_of_ble_eq_true rfl, Nat.le_of_ble_eq_true rfl, Nat.le_of_ble_eq_true rfl, Nat.le_of_ble_eq_true rfl⟩ rfl d_RF_binAt_18 d_RF_binAt_21 d_RF_binAt_22 d_RF_binAt_25 d_RF_binAt_28 rfl rfl (hb (fun q => q.2.1 c9))
    · skip
      refine J_iload_n d_RF_binAt_12 rfl rfl ?_
      refine J_bipush (v := 8) d_RF_binAt_13 (by decide) ?_
      refine J_icmp_lt (tgt := 29) d_RF_binAt_15 (by decide) (fun c15 => ?_) (fun c15 => ?_)
      · skip
        refine J_aload_n d_RF_binAt_29 rfl rfl ?_
        refine J_get d_RF_binAt_30 xf_RF_33 rfl rfl ?_
        refine J_iload_n d_RF_binAt_33 rfl rfl ?_
        refine J_aald d_RF_binAt_34 (gt3' hG) rfl (okB_lt (bc := bc) ⟨c1, c9, c15⟩).2.2 (fB_at (okB_lt (bc := bc) ⟨c1, c9, c15⟩).1) ?_
        exact J_areturn d_RF_binAt_35 rfl (ha ⟨c1, c9, c15⟩)
      · skip
        exact J_throwW xh_RF_52 xs_RF_294 ⟨Nat.le_of_ble_eq_true rfl, Nat.le_of_ble_eq_true rfl, Nat.le_of_ble_eq_true rfl, Nat.le_of_ble_eq_true rfl⟩ rfl d_RF_binAt_18 d_RF_binAt_21 d_RF_binAt_22 d_RF_binAt_25 d_RF_binAt_28 rfl rfl (hb (fun q => absurd q.2.2 c15))
set_option maxHeartbeats 4000000 in
set_option maxRecDepth 100000 in
theorem m_screenAt {n : Int32} (hG : gTok G) : (okS n → XM G Y_RF_screenAt [.ref 0, .int n] (1, ch sa sb lt tt lg bc gi go sh bn sc rw dy pt R) (.inl (some (.ref (15 + n.toNatClampNeg))), (1, ch sa sb lt tt lg bc gi go sh bn sc rw dy pt R), 0, 0)) ∧ (¬ okS n → XM G Y_RF_screenAt [.ref 0, .int n] (1, ch sa sb lt tt lg bc gi go sh bn sc rw dy pt R) (.inr "java/lang/IndexOutOfBoundsException", (0, ch sa sb lt tt lg bc gi go sh bn sc rw dy pt R), 1, 6)) := by
  refine XM_if (fun r ha hb => ?_)
  refine XM_of (by decide +kernel) (Nat.le_of_ble_eq_true rfl) (Or.inl rfl) ?_
  refine J_iload_n d_RF_screenAt_0 rfl rfl ?_
  refine J_if_lt (tgt := 9) d_RF_screenAt_1 (by decide) (fun c1 => ?_) (fun c1 => ?_)
  · skip
    exact J_throwW xh_RF_52 xs_RF_296 ⟨Nat.le_of_ble_eq_true rfl, Nat.le_of_ble_eq_true rfl, Nat.le_of_ble_eq_true rfl, Nat.le_of_ble_eq_true rfl⟩ rfl d_RF_screenAt_9 d_RF_screenAt_12 d_RF_screenAt_13 d_RF_screenAt_16 d_RF_screenAt_19 rfl rfl (hb (fun q => q.1 c1))
  · skip
    refine J_iload_n d_RF_screenAt_4 rfl rfl ?_
    refine J_iconst (v := 4) d_RF_screenAt_5 (by decide) ?_
    refine J_icmp_lt (tgt := 20) d_RF_screenAt_6 (by decide) (fun c6 => ?_) (fun c6 => ?_)
    · skip
      refine J_aload_n d_RF_screenAt_20 rfl rfl ?_
      refine J_get d_RF_screenAt_21 xf_RF_40 rfl rfl ?_
      refine J_iload_n d_RF_screenAt_24 rfl rfl ?_
      refine J_aald d_RF_screenAt_25 (gt4' hG) rfl (okS_lt ⟨c1, c6⟩).2.2 (fS_at (okS_lt ⟨c1, c6⟩).1) ?_
      exact J_areturn d_RF_screenAt_26 rfl (ha ⟨c1, c6⟩)
    · skip
      exact J_throwW xh_RF_52 xs_RF_296 ⟨Nat.le_of_ble_eq_true rfl, Nat.le_of_ble_eq_true rfl, Nat.le_of_ble_eq_true rfl, Nat.le_of_ble_eq_true rfl⟩ rfl d_RF_screenAt_9 d_RF_screenAt_12 d_RF_screenAt_13 d_RF_screenAt_16 d_RF_screenAt_19 rfl rfl (hb (fun q => absurd q.2 c6))
end XC1
