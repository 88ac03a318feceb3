def s_gr (b : cB) : Int64 := b.2.2.1 + b.2.2.2.1
def s_po (a b c : Int64) : Int64 := if 1 ≤ c then a * b / c else 0
def s_hr (b : cB) (k : Int32) : Int32 := if b.2.1.toInt64 * 1000 < s_gr b + k.toInt64 * 1000 then 0 else 1
def s_wi (b : cB) (k : Int32) : Int64 := s_po b.2.2.2.1 (k.toInt64 * 1000) (s_gr b)
def s_di (b : cB) (k : Int32) : Int64 := k.toInt64 * 1000 - s_wi b k
def s_sp (b : cB) (d w : Int64) : Int64 := s_po (b.2.2.2.1 + w) 1000 (s_gr b + d + w)
def s_sa (b : cB) (d w : Int64) : Int32 := if s_sp b d w < b.2.2.2.2.2.1.toInt64 then 0 else if b.2.2.2.2.2.2.toInt64 < s_sp b d w then 0 else 1
def s_ch (b : cB) (d w : Int64) : cB := (b.1, b.2.1, b.2.2.1 + d, b.2.2.2.1 + w, b.2.2.2.2.1, b.2.2.2.2.2.1, b.2.2.2.2.2.2)
set_option maxHeartbeats 4000000 in
set_option maxRecDepth 100000 in
theorem m_Bi_grams {G : xG} {h : List va_E} {p : Nat} {b : cB} (hh : h[p]? = some (bc_ b)) : XM G Y_Bi_grams [.ref p] (1, h) (.inl (some (.long (s_gr b))), (1, h), 0, 0) := by
  refine XM_of (by decide +kernel) (Nat.le_of_ble_eq_true rfl) (Or.inl rfl) ?_
  refine J_aload_n d_Bi_grams_0 rfl rfl ?_
  refine J_get d_Bi_grams_1 xf_Bi_21 hh rfl ?_
  refine J_aload_n d_Bi_grams_4 rfl rfl ?_
  refine J_get d_Bi_grams_5 xf_Bi_24 hh rfl ?_
  refine J_ladd d_Bi_grams_8 ?_
  exact J_lreturn d_Bi_grams_9 rfl rfl
set_option maxHeartbeats 4000000 in
set_option maxRecDepth 100000 in
theorem m_portion {G : xG} {h : List va_E} {a b c : Int64} : XM G Y_RF_portion [.long a, .long b, .long c] (1, h) (.inl (some (.long (s_po a b c))), (1, h), 0, 0) := by
  refine XM_of (by decide +kernel) (Nat.le_of_ble_eq_true rfl) (Or.inl rfl) ?_
  refine J_lload d_RF_portion_0 rfl ?_
  refine J_lconst (v := 1) d_RF_portion_2 (by decide) ?_
  refine J_lcmp d_RF_portion_3 ?_
  refine J_lif_ge (tgt := 11) d_RF_portion_4 (by decide) (fun c4 => ?_) (fun c4 => ?_)
  · skip
    refine J_lload_n d_RF_portion_11 rfl rfl ?_
    refine J_lload_n d_RF_portion_12 rfl rfl ?_
    refine J_lmul d_RF_portion_13 ?_
    refine J_lload d_RF_portion_14 rfl ?_
    refine J_ldiv d_RF_portion_16 (fun q => absurd c4 (by rw [q]; decide)) ?_
    exact J_lreturn d_RF_portion_17 rfl (by simp only [s_po, c4, if_true, if_false, not_true_eq_false, not_false_eq_true, and_true, true_and, and_false, false_and, or_true, true_or, or_false, false_or, and_self, or_self])
  · skip
    refine J_lconst (v := 0) d_RF_portion_7 (by decide) ?_
    refine J_goto (tgt := 17) d_RF_portion_8 (by decide) ?_
    exact J_lreturn d_RF_portion_17 rfl (by simp only [s_po, c4, if_true, if_false, not_true_eq_false, not_false_eq_true, and_true, true_and, and_false, false_and, or_true, true_or, or_false, false_or, and_self, or_self])
set_option maxHeartbeats 4000000 in
set_option maxRecDepth 100000 in
theorem m_Bi_hasRoom {G : xG} {h : List va_E} {p : Nat} {b : cB} {k : Int32} (hh : h[p]? = some (bc_ b)) : XM G Y_Bi_hasRoom [.ref p, .int k] (1, h) (.inl (some (.int (s_hr b k))), (1, h), 0, 0) := by
  refine XM_of (by decide +kernel) (Nat.le_of_ble_eq_true rfl) (Or.inl rfl) ?_
  refine J_aload_n d_Bi_hasRoom_0 rfl rfl ?_
  refine J_callP (xGo_v0 d_Bi_hasRoom_1 xc_Bi_27 hh rfl rfl) ⟨xq_Bi_grams.1, xq_Bi_grams.2.1⟩ ⟨Nat.le_of_ble_eq_true rfl, Nat.le_of_ble_eq_true rfl, Nat.le_of_ble_eq_true rfl, Nat.le_of_ble_eq_true rfl⟩ (Nat.le_of_ble_eq_true rfl) (m_Bi_grams hh) ?_
  refine J_iload_n d_Bi_hasRoom_4 rfl rfl ?_
  refine J_i2l d_Bi_hasRoom_5 ?_
  refine J_ldc2_w d_Bi_hasRoom_6 xj_Bi_31 ?_
  refine J_lmul d_Bi_hasRoom_9 ?_
  refine J_ladd d_Bi_hasRoom_10 ?_
  refine J_aload_n d_Bi_hasRoom_11 rfl rfl ?_
  refine J_get d_Bi_hasRoom_12 xf_Bi_33 hh rfl ?_
  refine J_i2l d_Bi_hasRoom_15 ?_
  refine J_ldc2_w d_Bi_hasRoom_16 xj_Bi_31 ?_
  refine J_lmul d_Bi_hasRoom_19 ?_
  refine J_lcmp d_Bi_hasRoom_20 ?_
  refine J_lif_gt (tgt := 28) d_Bi_hasRoom_21 (by decide) (fun c21 => ?_) (fun c21 => ?_)
  · skip
    refine J_iconst (v := 0) d_Bi_hasRoom_28 (by decide) ?_
    exact J_zreturn d_Bi_hasRoom_29 rfl rfl (by simp only [s_hr, c21, if_true, if_false, not_true_eq_false, not_false_eq_true, and_true, true_and, and_false, false_and, or_true, true_or, or_false, false_or, and_self, or_self])
  · skip
    refine J_iconst (v := 1) d_Bi_hasRoom_24 (by decide) ?_
    refine J_goto (tgt := 29) d_Bi_hasRoom_25 (by decide) ?_
    exact J_zreturn d_Bi_hasRoom_29 rfl rfl (by simp only [s_hr, c21, if_true, if_false, not_true_eq_false, not_false_eq_true, and_true, true_and, and_false, false_and, or_true, true_or, or_false, false_or, and_self, or_self])
set_option maxHeartbeats 4000000 in
set_option maxRecDepth 100000 in
theorem m_Bi_waterIn {G : xG} {h : List va_E} {p : Nat} {b : cB} {k : Int32} (hh : h[p]? = some (bc_ b)) : XM G Y_Bi_waterIn [.ref p, .int k] (1, h) (.inl (some (.long (s_wi b k))), (1, h), 0, 0) := by
  refine XM_of (by decide +kernel) (Nat.le_of_ble_eq_true rfl) (Or.inl rfl) ?_
  refine J_aload_n d_Bi_waterIn_0 rfl rfl ?_
  refine J_get d_Bi_waterIn_1 xf_Bi_24 hh rfl ?_
  refine J_iload_n d_Bi_waterIn_4 rfl rfl ?_
  refine J_i2l d_Bi_waterIn_5 ?_
  refine J_ldc2_w d_Bi_waterIn_6 xj_Bi_31 ?_
  refine J_lmul d_Bi_waterIn_9 ?_
  refine J_aload_n d_Bi_waterIn_10 rfl rfl ?_
  refine J_callP (xGo_v0 d_Bi_waterIn_11 xc_Bi_27 hh rfl rfl) ⟨xq_Bi_grams.1, xq_Bi_grams.2.1⟩ ⟨Nat.le_of_ble_eq_true rfl, Nat.le_of_ble_eq_true rfl, Nat.le_of_ble_eq_true rfl, Nat.le_of_ble_eq_true rfl⟩ (Nat.le_of_ble_eq_true rfl) (m_Bi_grams hh) ?_
  refine J_callP (xGo_n3 d_Bi_waterIn_14 xc_Bi_36) ⟨xq_RF_portion.1, xq_RF_portion.2.1⟩ ⟨Nat.le_of_ble_eq_true rfl, Nat.le_of_ble_eq_true rfl, Nat.le_of_ble_eq_true rfl, Nat.le_of_ble_eq_true rfl⟩ (Nat.le_of_ble_eq_true rfl) m_portion ?_
  exact J_lreturn d_Bi_waterIn_17 rfl rfl
set_option maxHeartbeats 4000000 in
set_option maxRecDepth 100000 in
theorem m_Bi_dryIn {G : xG} {h : List va_E} {p : Nat} {b : cB} {k : Int32} (hh : h[p]? = some (bc_ b)) : XM G Y_Bi_dryIn [.ref p, .int k] (1, h) (.inl (some (.long (s_di b k))), (1, h), 0, 0) := by
  refine XM_of (by decide +kernel) (Nat.le_of_ble_eq_true rfl) (Or.inl rfl) ?_
  refine J_iload_n d_Bi_dryIn_0 rfl rfl ?_
  refine J_i2l d_Bi_dryIn_1 ?_
  refine J_ldc2_w d_Bi_dryIn_2 xj_Bi_31 ?_
  refine J_lmul d_Bi_dryIn_5 ?_
  refine J_aload_n d_Bi_dryIn_6 rfl rfl ?_
  refine J_iload_n d_Bi_dryIn_7 rfl rfl ?_
  refine J_callP (xGo_v1 d_Bi_dryIn_8 xc_Bi_40 hh rfl rfl) ⟨xq_Bi_waterIn.1, xq_Bi_waterIn.2.1⟩ ⟨Nat.le_of_ble_eq_true rfl, Nat.le_of_ble_eq_true rfl, Nat.le_of_ble_eq_true rfl, Nat.le_of_ble_eq_true rfl⟩ (Nat.le_of_ble_eq_true rfl) (m_Bi_waterIn hh) ?_
  refine J_lsub d_Bi_dryIn_11 ?_
  exact J_lreturn d_Bi_dryIn_12 rfl rfl
set_option maxHeartbeats 4000000 in
set_option maxRecDepth 100000 in
theorem m_Bi_spanAllows {G : xG} {h : List va_E} {p : Nat} {b : cB} {d w : Int64} (hh : h[p]? = some (bc_ b)) : XM G Y_Bi_spanAllows [.ref p, .long d, .long w] (1, h) (.inl (some (.int (s_sa b d w))), (1, h), 0, 0) := by
  refine XM_of (by decide +kernel) (Nat.le_of_ble_eq_true rfl) (Or.inl rfl) ?_
  refine J_aload_n d_Bi_spanAllows_0 rfl rfl ?_
  refine J_get d_Bi_spanAllows_1 xf_Bi_24 hh rfl ?_
  refine J_lload_n d_Bi_spanAllows_4 rfl rfl ?_
  refine J_ladd d_Bi_spanAllows_5 ?_
  refine J_ldc2_w d_Bi_spanAllows_6 xj_Bi_31 ?_
  refine J_aload_n d_Bi_spanAllows_9 rfl rfl ?_
  refine J_callP (xGo_v0 d_Bi_spanAllows_10 xc_Bi_27 hh rfl rfl) ⟨xq_Bi_grams.1, xq_Bi_grams.2.1⟩ ⟨Nat.le_of_ble_eq_true rfl, Nat.le_of_ble_eq_true rfl, Nat.le_of_ble_eq_true rfl, Nat.le_of_ble_eq_true rfl⟩ (Nat.le_of_ble_eq_true rfl) (m_Bi_grams hh) ?_
  refine J_lload_n d_Bi_spanAllows_13 rfl rfl ?_
  refine J_ladd d_Bi_spanAllows_14 ?_
  refine J_lload_n d_Bi_spanAllows_15 rfl rfl ?_
  refine J_ladd d_Bi_spanAllows_16 ?_
  refine J_callP (xGo_n3 d_Bi_spanAllows_17 xc_Bi_36) ⟨xq_RF_portion.1, xq_RF_portion.2.1⟩ ⟨Nat.le_of_ble_eq_true rfl, Nat.le_of_ble_eq_true rfl, Nat.le_of_ble_eq_true rfl, Nat.le_of_ble_eq_true rfl⟩ (Nat.le_of_ble_eq_true rfl) m_portion ?_
  refine J_lstore d_Bi_spanAllows_20 (by decide) ?_
  refine J_lload d_Bi_spanAllows_22 rfl ?_
  refine J_aload_n d_Bi_spanAllows_24 rfl rfl ?_
  refine J_get d_Bi_spanAllows_25 xf_Bi_44 hh rfl ?_
  refine J_i2l d_Bi_spanAllows_28 ?_
  refine J_lcmp d_Bi_spanAllows_29 ?_
  refine J_lif_lt (tgt := 48) d_Bi_spanAllows_30 (by decide) (fun c30 => ?_) (fun c30 => ?_)
  · skip
    refine J_iconst (v := 0) d_Bi_spanAllows_48 (by decide) ?_
    exact J_zreturn d_Bi_spanAllows_49 rfl rfl (by simp only [s_sa, s_sp, c30, if_true, if_false, not_true_eq_false, not_false_eq_true, and_true, true_and, and_false, false_and, or_true, true_or, or_false, false_or, and_self, or_self])
  · skip
    refine J_lload d_Bi_spanAllows_33 rfl ?_
    refine J_aload_n d_Bi_spanAllows_35 rfl rfl ?_
    refine J_get d_Bi_spanAllows_36 xf_Bi_17 hh rfl ?_
    refine J_i2l d_Bi_spanAllows_39 ?_
    refine J_lcmp d_Bi_spanAllows_40 ?_
    refine J_lif_gt (tgt := 48) d_Bi_spanAllows_41 (by decide) (fun c41 => ?_) (fun c41 => ?_)
    · skip
      refine J_iconst (v := 0) d_Bi_spanAllows_48 (by decide) ?_
      exact J_zreturn d_Bi_spanAllows_49 rfl rfl (by simp only [s_sa, s_sp, c30, c41, if_true, if_false, not_true_eq_false, not_false_eq_true, and_true, true_and, and_false, false_and, or_true, true_or, or_false, false_or, and_self, or_self])
    · skip
      refine J_iconst (v := 1) d_Bi_spanAllows_44 (by decide) ?_
      refine J_goto (tgt := 49) d_Bi_spanAllows_45 (by decide) ?_
      exact J_zreturn d_Bi_spanAllows_49 rfl rfl (by simp only [s_sa, s_sp, c30, c41, if_true, if_false, not_true_eq_false, not_false_eq_true, and_true, true_and, and_false, false_and, or_true, true_or, or_false, false_or, and_self, or_self])
set_option maxHeartbeats 4000000 in
set_option maxRecDepth 100000 in
theorem m_Bi_change {G : xG} {h : List va_E} {p : Nat} {b : cB} {d w : Int64} (hh : h[p]? = some (bc_ b)) : XM G Y_Bi_change [.ref p, .long d, .long w] (1, h) (.inl (none), (0, h.set p (bc_ (s_ch b d w))), 0, 0) := by
  refine XM_of (by decide +kernel) (Nat.le_of_ble_eq_true rfl) (Or.inl rfl) ?_
  refine J_aload_n d_Bi_change_0 rfl rfl ?_
  refine J_dup d_Bi_change_1 ?_
  refine J_get d_Bi_change_2 xf_Bi_21 hh rfl ?_
  refine J_lload_n d_Bi_change_5 rfl rfl ?_
  refine J_ladd d_Bi_change_6 ?_
  refine J_put d_Bi_change_7 xf_Bi_21 xt_Bi (fun _ _ _ h => by cases h; rfl) rfl rfl hh (Nat.le_of_ble_eq_true rfl) ?_
  refine J_aload_n d_Bi_change_10 rfl rfl ?_
  refine J_dup d_Bi_change_11 ?_
  refine J_get d_Bi_change_12 xf_Bi_24 (xset_get hh) rfl ?_
  refine J_lload_n d_Bi_change_15 rfl rfl ?_
  refine J_ladd d_Bi_change_16 ?_
  refine J_put d_Bi_change_17 xf_Bi_24 xt_Bi (fun _ _ _ h => by cases h; rfl) rfl rfl (xset_get hh) (Nat.le_of_ble_eq_true rfl) ?_
  exact J_return d_Bi_change_20 rfl (by rw [List.set_set]; rfl)
set_option maxHeartbeats 4000000 in
set_option maxRecDepth 100000 in
theorem m_Sh_of {G : xG} {h : List va_E} {p : Nat} {a b : Int32} {v : Int64} (hh : h[p]? = some (.inr (1, [.int a, .int b]))) : XM G Y_Sh_of [.ref p, .long v] (1, h) (.inl (some (.long (s_po v a.toInt64 b.toInt64))), (1, h), 0, 0) := by
  refine XM_of (by decide +kernel) (Nat.le_of_ble_eq_true rfl) (Or.inl rfl) ?_
  refine J_lload_n d_Sh_of_0 rfl rfl ?_
  refine J_aload_n d_Sh_of_1 rfl rfl ?_
  refine J_get d_Sh_of_2 xf_Sh_7 hh rfl ?_
  refine J_i2l d_Sh_of_5 ?_
  refine J_aload_n d_Sh_of_6 rfl rfl ?_
  refine J_get d_Sh_of_7 xf_Sh_13 hh rfl ?_
  refine J_i2l d_Sh_of_10 ?_
  refine J_callP (xGo_n3 d_Sh_of_11 xc_Sh_16) ⟨xq_RF_portion.1, xq_RF_portion.2.1⟩ ⟨Nat.le_of_ble_eq_true rfl, Nat.le_of_ble_eq_true rfl, Nat.le_of_ble_eq_true rfl, Nat.le_of_ble_eq_true rfl⟩ (Nat.le_of_ble_eq_true rfl) m_portion ?_
  exact J_lreturn d_Sh_of_14 rfl rfl
set_option maxHeartbeats 4000000 in
set_option maxRecDepth 100000 in
theorem m_Pa_tell {G : xG} {h : List va_E} {p : Nat} {q : cP} {v1 v2 v3 v4 v5 : Int64} (hh : h[p]? = some (pc_ q)) : XM G Y_Pa_tell [.ref p, .long v1, .long v2, .long v3, .long v4, .long v5] (1, h) (.inl (none), (0, h.set p (pc_ (v1, v3 - v4, v2, v4, v5))), 0, 0) := by
  refine XM_of (by decide +kernel) (Nat.le_of_ble_eq_true rfl) (Or.inl rfl) ?_
  refine J_aload_n d_Pa_tell_0 rfl rfl ?_
  refine J_lload_n d_Pa_tell_1 rfl rfl ?_
  refine J_put d_Pa_tell_2 xf_Pa_9 xt_Pa (fun _ _ _ h => by cases h; rfl) rfl rfl hh (Nat.le_of_ble_eq_true rfl) ?_
  refine J_aload_n d_Pa_tell_5 rfl rfl ?_
  refine J_lload d_Pa_tell_6 rfl ?_
  refine J_lload d_Pa_tell_8 rfl ?_
  refine J_lsub d_Pa_tell_10 ?_
  refine J_put d_Pa_tell_11 xf_Pa_15 xt_Pa (fun _ _ _ h => by cases h; rfl) rfl rfl (xset_get hh) (Nat.le_of_ble_eq_true rfl) ?_
  refine J_aload_n d_Pa_tell_14 rfl rfl ?_
  refine J_lload_n d_Pa_tell_15 rfl rfl ?_
  refine J_put d_Pa_tell_16 xf_Pa_18 xt_Pa (fun _ _ _ h => by cases h; rfl) rfl rfl (xset_get (xset_get hh)) (Nat.le_of_ble_eq_true rfl) ?_
  refine J_aload_n d_Pa_tell_19 rfl rfl ?_
  refine J_lload d_Pa_tell_20 rfl ?_
  refine J_put d_Pa_tell_22 xf_Pa_21 xt_Pa (fun _ _ _ h => by cases h; rfl) rfl rfl (xset_get (xset_get (xset_get hh))) (Nat.le_of_ble_eq_true rfl) ?_
  refine J_aload_n d_Pa_tell_25 rfl rfl ?_
  refine J_lload d_Pa_tell_26 rfl ?_
  refine J_put d_Pa_tell_28 xf_Pa_24 xt_Pa (fun _ _ _ h => by cases h; rfl) rfl rfl (xset_get (xset_get (xset_get (xset_get hh)))) (Nat.le_of_ble_eq_true rfl) ?_
  exact J_return d_Pa_tell_31 rfl (by rw [List.set_set, List.set_set, List.set_set, List.set_set]; rfl)
set_option maxHeartbeats 4000000 in
set_option maxRecDepth 100000 in
theorem m_Pa_ofKind {G : xG} {h : List va_E} {p : Nat} {q : cP} {k : Int32} (hh : h[p]? = some (pc_ q)) : XM G Y_Pa_ofKind [.ref p, .int k] (1, h) (.inl (some (.long (if k = 0 then q.1 else if k = 1 then q.2.1 else if k = 2 then q.2.2.1 else q.2.2.2.1))), (1, h), 0, 0) := by
  refine XM_of (by decide +kernel) (Nat.le_of_ble_eq_true rfl) (Or.inl rfl) ?_
  refine J_iload_n d_Pa_ofKind_0 rfl rfl ?_
  by_cases e0 : k = 0
  · subst e0
    refine J_tableIn (tgt := 28) d_Pa_ofKind_1 (by decide) (by decide) rfl (by decide) ?_
    refine J_aload_n d_Pa_ofKind_28 rfl rfl ?_
    refine J_get d_Pa_ofKind_29 xf_Pa_9 hh rfl ?_
    exact J_lreturn d_Pa_ofKind_32 rfl rfl
  by_cases e1 : k = 1
  · subst e1
    refine J_tableIn (tgt := 33) d_Pa_ofKind_1 (by decide) (by decide) rfl (by decide) ?_
    refine J_aload_n d_Pa_ofKind_33 rfl rfl ?_
    refine J_get d_Pa_ofKind_34 xf_Pa_15 hh rfl ?_
    exact J_lreturn d_Pa_ofKind_37 rfl rfl
  by_cases e2 : k = 2
  · subst e2
    refine J_tableIn (tgt := 38) d_Pa_ofKind_1 (by decide) (by decide) rfl (by decide) ?_
    refine J_aload_n d_Pa_ofKind_38 rfl rfl ?_
    refine J_get d_Pa_ofKind_39 xf_Pa_18 hh rfl ?_
    exact J_lreturn d_Pa_ofKind_42 rfl rfl
  refine J_tableOut (tgt := 43) d_Pa_ofKind_1 (by have q0 := ti (n := 0) 0 (by decide) e0; have q1 := ti (n := 1) 1 (by decide) e1; have q2 := ti (n := 2) 2 (by decide) e2; omega) (by decide) ?_
  refine J_aload_n d_Pa_ofKind_43 rfl rfl ?_
  refine J_get d_Pa_ofKind_44 xf_Pa_21 hh rfl ?_
  exact J_lreturn d_Pa_ofKind_47 rfl (by simp only [e0, e1, e2, if_true, if_false, not_true_eq_false, not_false_eq_true, and_true, true_and, and_false, false_and, or_true, true_or, or_false, false_or, and_self, or_self])
set_option maxHeartbeats 4000000 in
set_option maxRecDepth 100000 in
theorem m_Sc_tell {G : xG} {h : List va_E} {p : Nat} {q : cS} {v1 v2 v3 v4 v5 : Int32} (hh : h[p]? = some (sc_ q)) : XM G Y_Sc_tell [.ref p, .int v1, .int v2, .int v3, .int v4, .int v5] (1, h) (.inl (none), (0, h.set p (sc_ (1, v1, v2, v3, v4, v5))), 0, 0) := by
  refine XM_of (by decide +kernel) (Nat.le_of_ble_eq_true rfl) (Or.inl rfl) ?_
  refine J_aload_n d_Sc_tell_0 rfl rfl ?_
  refine J_iconst (v := 1) d_Sc_tell_1 (by decide) ?_
  refine J_put d_Sc_tell_2 xf_Sc_7 xt_Sc (fun _ _ _ h => by cases h; rfl) rfl rfl hh (Nat.le_of_ble_eq_true rfl) ?_
  refine J_aload_n d_Sc_tell_5 rfl rfl ?_
  refine J_iload_n d_Sc_tell_6 rfl rfl ?_
  refine J_put d_Sc_tell_7 xf_Sc_13 xt_Sc (fun _ _ _ h => by cases h; rfl) rfl rfl (xset_get hh) (Nat.le_of_ble_eq_true rfl) ?_
  refine J_aload_n d_Sc_tell_10 rfl rfl ?_
  refine J_iload_n d_Sc_tell_11 rfl rfl ?_
  refine J_put d_Sc_tell_12 xf_Sc_17 xt_Sc (fun _ _ _ h => by cases h; rfl) rfl rfl (xset_get (xset_get hh)) (Nat.le_of_ble_eq_true rfl) ?_
  refine J_aload_n d_Sc_tell_15 rfl rfl ?_
  refine J_iload_n d_Sc_tell_16 rfl rfl ?_
  refine J_put d_Sc_tell_17 xf_Sc_20 xt_Sc (fun _ _ _ h => by cases h; rfl) rfl rfl (xset_get (xset_get (xset_get hh))) (Nat.le_of_ble_eq_true rfl) ?_
  refine J_aload_n d_Sc_tell_20 rfl rfl ?_
  refine J_iload d_Sc_tell_21 rfl ?_
  refine J_put d_Sc_tell_23 xf_Sc_23 xt_Sc (fun _ _ _ h => by cases h; rfl) rfl rfl (xset_get (xset_get (xset_get (xset_get hh)))) (Nat.le_of_ble_eq_true rfl) ?_
  refine J_aload_n d_Sc_tell_26 rfl rfl ?_
  refine J_iload d_Sc_tell_27 rfl ?_
  refine J_put d_Sc_tell_29 xf_Sc_26 xt_Sc (fun _ _ _ h => by cases h; rfl) rfl rfl (xset_get (xset_get (xset_get (xset_get (xset_get hh))))) (Nat.le_of_ble_eq_true rfl) ?_
  exact J_return d_Sc_tell_32 rfl (by rw [List.set_set, List.set_set, List.set_set, List.set_set, List.set_set]; rfl)
