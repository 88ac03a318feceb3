section XL1
variable {G : xG}
theorem J_callY {y : xY} {k : Nat × Nat} {pc : Nat} {L : List (Nat × Value)} {st : List Value} {w : xH} {r : xR} {z : xY} {avs st0 : List Value} {v : Option Value} {h2 : List va_E} {mr : Nat} (hg : xGo G y k pc L st0 w z avs st) (hz : xwd z ∈ xTw ∧ Cond.initialized z.1.cls ∈ xTw) (hR : xcR z k y.2.2.2.2.1) (hst : (st.map fun v => v.category).sum ≤ 8) (hM : XM G z avs (1, w.2) (.inl v, (mr, h2), 0, 0)) (h : JW G y k (pc + 3) L (v.toList ++ st) (0, h2) r) : JW G y k pc L st0 w r :=
  J_call (w2 := (0, h2)) (kz := (0, 0)) hg hz hR hst hM rfl ⟨fun q => (by cases q), fun q => (by cases q), fun q => (by cases q)⟩ h
/-- the out array with its one place -/
def oc_ (o : Nat → Int64) : va_E := .inl (1, 1, .inr (.inl o))
set_option maxHeartbeats 4000000 in
set_option maxRecDepth 100000 in
theorem w_about_ok {h h2 : List va_E} {fs : List Value} {mr : Nat} {p0 : Int32} {p1 : Int32} {v : Int64} {o : Nat → Int64} (hG : gTok G) (hx : h[0]? = some (.inr (0, fs))) (ho : h2[39]? = some (oc_ o)) (hM : XM G Y_RF_about [.ref 0, .int p0, .int p1] (1, h) (.inl (some (.long v)), (mr, h2), 0, 0)) : XM G Y_La_about [.ref 0, .int p0, .int p1, .ref 39] (1, h) (.inl (some (.int 0)), (0, h2.set 39 (oc_ (vp_updL o 0 v))), 0, 0) := by
  refine XM_of (by decide +kernel) (Nat.le_of_ble_eq_true rfl) (Or.inl rfl) ?_
  refine J_aload_n d_La_about_0 rfl rfl ?_
  refine J_iconst (v := 0) d_La_about_1 (by decide) ?_
  refine J_aload_n d_La_about_2 rfl rfl ?_
  refine J_iload_n d_La_about_3 rfl rfl ?_
  refine J_iload_n d_La_about_4 rfl rfl ?_
  refine J_callY (xGo_v2 d_La_about_5 xc_La_39 hx rfl rfl) ⟨xq_RF_about.1, xq_RF_about.2.1⟩ ⟨Nat.le_of_ble_eq_true rfl, Nat.le_of_ble_eq_true rfl, Nat.le_of_ble_eq_true rfl, Nat.le_of_ble_eq_true rfl⟩ (Nat.le_of_ble_eq_true rfl) hM ?_
  refine J_last d_La_about_8 (gt1 hG) ho (vp_in_nI (n := 0) (by decide) (by decide)) ?_
  refine J_goto (tgt := 16) d_La_about_9 (by decide) ?_
  refine J_iconst (v := 0) d_La_about_16 (by decide) ?_
  exact J_ireturn d_La_about_17 rfl rfl
set_option maxHeartbeats 4000000 in
set_option maxRecDepth 100000 in
theorem w_about_I {h h2 : List va_E} {fs : List Value} {p0 : Int32} {p1 : Int32} (hx : h[0]? = some (.inr (0, fs))) (hM : XM G Y_RF_about [.ref 0, .int p0, .int p1] (1, h) (.inr "java/lang/IndexOutOfBoundsException", (0, h2), 1, 6)) : XM G Y_La_about [.ref 0, .int p0, .int p1, .ref 39] (1, h) (.inl (some (.int 1)), (0, h2), 1, 6) := by
  refine XM_of (by decide +kernel) (Nat.le_of_ble_eq_true rfl) (Or.inl rfl) ?_
  refine J_aload_n d_La_about_0 rfl rfl ?_
  refine J_iconst (v := 0) d_La_about_1 (by decide) ?_
  refine J_aload_n d_La_about_2 rfl rfl ?_
  refine J_iload_n d_La_about_3 rfl rfl ?_
  refine J_iload_n d_La_about_4 rfl rfl ?_
  exact J_callC (xGo_v2 d_La_about_5 xc_La_39 hx rfl rfl) ⟨xq_RF_about.1, xq_RF_about.2.1⟩ ⟨Nat.le_of_ble_eq_true rfl, Nat.le_of_ble_eq_true rfl, Nat.le_of_ble_eq_true rfl, Nat.le_of_ble_eq_true rfl⟩ (Nat.le_of_ble_eq_true rfl) hM (by decide) xa_La_about_I (Or.inr ⟨4, d_La_about_12, by decide, rfl⟩) d_La_about_14 (by decide) d_La_about_15 rfl rfl
set_option maxHeartbeats 4000000 in
set_option maxRecDepth 100000 in
theorem w_bin_ok {h h2 : List va_E} {fs : List Value} {mr : Nat} {p0 : Int32} {p1 : Int32} {v : Int32} {o : Nat → Int64} (hG : gTok G) (hx : h[0]? = some (.inr (0, fs))) (ho : h2[39]? = some (oc_ o)) (hM : XM G Y_RF_bin [.ref 0, .int p0, .int p1] (1, h) (.inl (some (.int v)), (mr, h2), 0, 0)) : XM G Y_La_bin [.ref 0, .int p0, .int p1, .ref 39] (1, h) (.inl (some (.int 0)), (0, h2.set 39 (oc_ (vp_updL o 0 v.toInt64))), 0, 0) := by
  refine XM_of (by decide +kernel) (Nat.le_of_ble_eq_true rfl) (Or.inl rfl) ?_
  refine J_aload_n d_La_bin_0 rfl rfl ?_
  refine J_iconst (v := 0) d_La_bin_1 (by decide) ?_
  refine J_aload_n d_La_bin_2 rfl rfl ?_
  refine J_iload_n d_La_bin_3 rfl rfl ?_
  refine J_iload_n d_La_bin_4 rfl rfl ?_
  refine J_callY (xGo_v2 d_La_bin_5 xc_La_31 hx rfl rfl) ⟨xq_RF_bin.1, xq_RF_bin.2.1⟩ ⟨Nat.le_of_ble_eq_true rfl, Nat.le_of_ble_eq_true rfl, Nat.le_of_ble_eq_true rfl, Nat.le_of_ble_eq_true rfl⟩ (Nat.le_of_ble_eq_true rfl) hM ?_
  refine J_i2l d_La_bin_8 ?_
  refine J_last d_La_bin_9 (gt1 hG) ho (vp_in_nI (n := 0) (by decide) (by decide)) ?_
  refine J_goto (tgt := 25) d_La_bin_10 (by decide) ?_
  refine J_iconst (v := 0) d_La_bin_25 (by decide) ?_
  exact J_ireturn d_La_bin_26 rfl rfl
set_option maxHeartbeats 4000000 in
set_option maxRecDepth 100000 in
theorem w_bin_I {h h2 : List va_E} {fs : List Value} {p0 : Int32} {p1 : Int32} (hx : h[0]? = some (.inr (0, fs))) (hM : XM G Y_RF_bin [.ref 0, .int p0, .int p1] (1, h) (.inr "java/lang/IndexOutOfBoundsException", (0, h2), 1, 6)) : XM G Y_La_bin [.ref 0, .int p0, .int p1, .ref 39] (1, h) (.inl (some (.int 1)), (0, h2), 1, 6) := by
  refine XM_of (by decide +kernel) (Nat.le_of_ble_eq_true rfl) (Or.inl rfl) ?_
  refine J_aload_n d_La_bin_0 rfl rfl ?_
  refine J_iconst (v := 0) d_La_bin_1 (by decide) ?_
  refine J_aload_n d_La_bin_2 rfl rfl ?_
  refine J_iload_n d_La_bin_3 rfl rfl ?_
  refine J_iload_n d_La_bin_4 rfl rfl ?_
  exact J_callC (xGo_v2 d_La_bin_5 xc_La_31 hx rfl rfl) ⟨xq_RF_bin.1, xq_RF_bin.2.1⟩ ⟨Nat.le_of_ble_eq_true rfl, Nat.le_of_ble_eq_true rfl, Nat.le_of_ble_eq_true rfl, Nat.le_of_ble_eq_true rfl⟩ (Nat.le_of_ble_eq_true rfl) hM (by decide) xa_La_bin_I (Or.inr ⟨4, d_La_bin_13, by decide, rfl⟩) d_La_bin_15 (by decide) d_La_bin_16 rfl rfl
set_option maxHeartbeats 4000000 in
set_option maxRecDepth 100000 in
theorem w_bin_A {h h2 : List va_E} {fs : List Value} {p0 : Int32} {p1 : Int32} (hx : h[0]? = some (.inr (0, fs))) (hM : XM G Y_RF_bin [.ref 0, .int p0, .int p1] (1, h) (.inr "java/lang/IllegalArgumentException", (0, h2), 1, 6)) : XM G Y_La_bin [.ref 0, .int p0, .int p1, .ref 39] (1, h) (.inl (some (.int 2)), (0, h2), 1, 6) := by
  refine XM_of (by decide +kernel) (Nat.le_of_ble_eq_true rfl) (Or.inl rfl) ?_
  refine J_aload_n d_La_bin_0 rfl rfl ?_
  refine J_iconst (v := 0) d_La_bin_1 (by decide) ?_
  refine J_aload_n d_La_bin_2 rfl rfl ?_
  refine J_iload_n d_La_bin_3 rfl rfl ?_
  refine J_iload_n d_La_bin_4 rfl rfl ?_
  exact J_callC (xGo_v2 d_La_bin_5 xc_La_31 hx rfl rfl) ⟨xq_RF_bin.1, xq_RF_bin.2.1⟩ ⟨Nat.le_of_ble_eq_true rfl, Nat.le_of_ble_eq_true rfl, Nat.le_of_ble_eq_true rfl, Nat.le_of_ble_eq_true rfl⟩ (Nat.le_of_ble_eq_true rfl) hM (by decide) xa_La_bin_A (Or.inr ⟨4, d_La_bin_17, by decide, rfl⟩) d_La_bin_19 (by decide) d_La_bin_20 rfl rfl
set_option maxHeartbeats 4000000 in
set_option maxRecDepth 100000 in
theorem w_bin_S {h h2 : List va_E} {fs : List Value} {p0 : Int32} {p1 : Int32} (hx : h[0]? = some (.inr (0, fs))) (hM : XM G Y_RF_bin [.ref 0, .int p0, .int p1] (1, h) (.inr "java/lang/IllegalStateException", (0, h2), 1, 6)) : XM G Y_La_bin [.ref 0, .int p0, .int p1, .ref 39] (1, h) (.inl (some (.int 3)), (0, h2), 1, 6) := by
  refine XM_of (by decide +kernel) (Nat.le_of_ble_eq_true rfl) (Or.inl rfl) ?_
  refine J_aload_n d_La_bin_0 rfl rfl ?_
  refine J_iconst (v := 0) d_La_bin_1 (by decide) ?_
  refine J_aload_n d_La_bin_2 rfl rfl ?_
  refine J_iload_n d_La_bin_3 rfl rfl ?_
  refine J_iload_n d_La_bin_4 rfl rfl ?_
  exact J_callC (xGo_v2 d_La_bin_5 xc_La_31 hx rfl rfl) ⟨xq_RF_bin.1, xq_RF_bin.2.1⟩ ⟨Nat.le_of_ble_eq_true rfl, Nat.le_of_ble_eq_true rfl, Nat.le_of_ble_eq_true rfl, Nat.le_of_ble_eq_true rfl⟩ (Nat.le_of_ble_eq_true rfl) hM (by decide) xa_La_bin_S (Or.inr ⟨4, d_La_bin_21, by decide, rfl⟩) d_La_bin_23 (by decide) d_La_bin_24 rfl rfl
set_option maxHeartbeats 4000000 in
set_option maxRecDepth 100000 in
theorem w_boards_ok {h h2 : List va_E} {fs : List Value} {mr : Nat} {p0 : Int32} {v : Int64} {o : Nat → Int64} (hG : gTok G) (hx : h[0]? = some (.inr (0, fs))) (ho : h2[39]? = some (oc_ o)) (hM : XM G Y_RF_boards [.ref 0, .int p0] (1, h) (.inl (some (.long v)), (mr, h2), 0, 0)) : XM G Y_La_boards [.ref 0, .int p0, .ref 39] (1, h) (.inl (some (.int 0)), (0, h2.set 39 (oc_ (vp_updL o 0 v))), 0, 0) := by
  refine XM_of (by decide +kernel) (Nat.le_of_ble_eq_true rfl) (Or.inl rfl) ?_
  refine J_aload_n d_La_boards_0 rfl rfl ?_
  refine J_iconst (v := 0) d_La_boards_1 (by decide) ?_
  refine J_aload_n d_La_boards_2 rfl rfl ?_
  refine J_iload_n d_La_boards_3 rfl rfl ?_
  refine J_callY (xGo_v1 d_La_boards_4 xc_La_27 hx rfl rfl) ⟨xq_RF_boards.1, xq_RF_boards.2.1⟩ ⟨Nat.le_of_ble_eq_true rfl, Nat.le_of_ble_eq_true rfl, Nat.le_of_ble_eq_true rfl, Nat.le_of_ble_eq_true rfl⟩ (Nat.le_of_ble_eq_true rfl) hM ?_
  refine J_last d_La_boards_7 (gt1 hG) ho (vp_in_nI (n := 0) (by decide) (by decide)) ?_
  refine J_goto (tgt := 14) d_La_boards_8 (by decide) ?_
  refine J_iconst (v := 0) d_La_boards_14 (by decide) ?_
  exact J_ireturn d_La_boards_15 rfl rfl
set_option maxHeartbeats 4000000 in
set_option maxRecDepth 100000 in
theorem w_boards_S {h h2 : List va_E} {fs : List Value} {p0 : Int32} (hx : h[0]? = some (.inr (0, fs))) (hM : XM G Y_RF_boards [.ref 0, .int p0] (1, h) (.inr "java/lang/IllegalStateException", (0, h2), 1, 6)) : XM G Y_La_boards [.ref 0, .int p0, .ref 39] (1, h) (.inl (some (.int 1)), (0, h2), 1, 6) := by
  refine XM_of (by decide +kernel) (Nat.le_of_ble_eq_true rfl) (Or.inl rfl) ?_
  refine J_aload_n d_La_boards_0 rfl rfl ?_
  refine J_iconst (v := 0) d_La_boards_1 (by decide) ?_
  refine J_aload_n d_La_boards_2 rfl rfl ?_
  refine J_iload_n d_La_boards_3 rfl rfl ?_
  exact J_callC (xGo_v1 d_La_boards_4 xc_La_27 hx rfl rfl) ⟨xq_RF_boards.1, xq_RF_boards.2.1⟩ ⟨Nat.le_of_ble_eq_true rfl, Nat.le_of_ble_eq_true rfl, Nat.le_of_ble_eq_true rfl, Nat.le_of_ble_eq_true rfl⟩ (Nat.le_of_ble_eq_true rfl) hM (by decide) xa_La_boards_S (Or.inl ⟨3, d_La_boards_11, by decide, rfl⟩) d_La_boards_12 (by decide) d_La_boards_13 rfl rfl
set_option maxHeartbeats 4000000 in
set_option maxRecDepth 100000 in
theorem w_burn_ok {h h2 : List va_E} {fs : List Value} {mr : Nat} {p0 : Int32} {p1 : Int32} {p2 : Int32} {v : Int64} {o : Nat → Int64} (hG : gTok G) (hx : h[0]? = some (.inr (0, fs))) (ho : h2[39]? = some (oc_ o)) (hM : XM G Y_RF_burn [.ref 0, .int p0, .int p1, .int p2] (1, h) (.inl (some (.long v)), (mr, h2), 0, 0)) : XM G Y_La_burn [.ref 0, .int p0, .int p1, .int p2, .ref 39] (1, h) (.inl (some (.int 0)), (0, h2.set 39 (oc_ (vp_updL o 0 v))), 0, 0) := by
  refine XM_of (by decide +kernel) (Nat.le_of_ble_eq_true rfl) (Or.inl rfl) ?_
  refine J_aload d_La_burn_0 rfl ?_
  refine J_iconst (v := 0) d_La_burn_2 (by decide) ?_
  refine J_aload_n d_La_burn_3 rfl rfl ?_
  refine J_iload_n d_La_burn_4 rfl rfl ?_
  refine J_iload_n d_La_burn_5 rfl rfl ?_
  refine J_iload_n d_La_burn_6 rfl rfl ?_
  refine J_callY (xGo_v3 d_La_burn_7 xc_La_61 hx rfl rfl) ⟨xq_RF_burn.1, xq_RF_burn.2.1⟩ ⟨Nat.le_of_ble_eq_true rfl, Nat.le_of_ble_eq_true rfl, Nat.le_of_ble_eq_true rfl, Nat.le_of_ble_eq_true rfl⟩ (Nat.le_of_ble_eq_true rfl) hM ?_
  refine J_last d_La_burn_10 (gt1 hG) ho (vp_in_nI (n := 0) (by decide) (by decide)) ?_
  refine J_goto (tgt := 26) d_La_burn_11 (by decide) ?_
  refine J_iconst (v := 0) d_La_burn_26 (by decide) ?_
  exact J_ireturn d_La_burn_27 rfl rfl
set_option maxHeartbeats 4000000 in
set_option maxRecDepth 100000 in
theorem w_burn_I {h h2 : List va_E} {fs : List Value} {p0 : Int32} {p1 : Int32} {p2 : Int32} (hx : h[0]? = some (.inr (0, fs))) (hM : XM G Y_RF_burn [.ref 0, .int p0, .int p1, .int p2] (1, h) (.inr "java/lang/IndexOutOfBoundsException", (0, h2), 1, 6)) : XM G Y_La_burn [.ref 0, .int p0, .int p1, .int p2, .ref 39] (1, h) (.inl (some (.int 1)), (0, h2), 1, 6) := by
  refine XM_of (by decide +kernel) (Nat.le_of_ble_eq_true rfl) (Or.inl rfl) ?_
  refine J_aload d_La_burn_0 rfl ?_
  refine J_iconst (v := 0) d_La_burn_2 (by decide) ?_
  refine J_aload_n d_La_burn_3 rfl rfl ?_
  refine J_iload_n d_La_burn_4 rfl rfl ?_
  refine J_iload_n d_La_burn_5 rfl rfl ?_
  refine J_iload_n d_La_burn_6 rfl rfl ?_
  exact J_callC (xGo_v3 d_La_burn_7 xc_La_61 hx rfl rfl) ⟨xq_RF_burn.1, xq_RF_burn.2.1⟩ ⟨Nat.le_of_ble_eq_true rfl, Nat.le_of_ble_eq_true rfl, Nat.le_of_ble_eq_true rfl, Nat.le_of_ble_eq_true rfl⟩ (Nat.le_of_ble_eq_true rfl) hM (by decide) xa_La_burn_I (Or.inr ⟨5, d_La_burn_14, by decide, rfl⟩) d_La_burn_16 (by decide) d_La_burn_17 rfl rfl
set_option maxHeartbeats 4000000 in
set_option maxRecDepth 100000 in
theorem w_burn_A {h h2 : List va_E} {fs : List Value} {p0 : Int32} {p1 : Int32} {p2 : Int32} (hx : h[0]? = some (.inr (0, fs))) (hM : XM G Y_RF_burn [.ref 0, .int p0, .int p1, .int p2] (1, h) (.inr "java/lang/IllegalArgumentException", (0, h2), 1, 6)) : XM G Y_La_burn [.ref 0, .int p0, .int p1, .int p2, .ref 39] (1, h) (.inl (some (.int 2)), (0, h2), 1, 6) := by
  refine XM_of (by decide +kernel) (Nat.le_of_ble_eq_true rfl) (Or.inl rfl) ?_
  refine J_aload d_La_burn_0 rfl ?_
  refine J_iconst (v := 0) d_La_burn_2 (by decide) ?_
  refine J_aload_n d_La_burn_3 rfl rfl ?_
  refine J_iload_n d_La_burn_4 rfl rfl ?_
  refine J_iload_n d_La_burn_5 rfl rfl ?_
  refine J_iload_n d_La_burn_6 rfl rfl ?_
  exact J_callC (xGo_v3 d_La_burn_7 xc_La_61 hx rfl rfl) ⟨xq_RF_burn.1, xq_RF_burn.2.1⟩ ⟨Nat.le_of_ble_eq_true rfl, Nat.le_of_ble_eq_true rfl, Nat.le_of_ble_eq_true rfl, Nat.le_of_ble_eq_true rfl⟩ (Nat.le_of_ble_eq_true rfl) hM (by decide) xa_La_burn_A (Or.inr ⟨5, d_La_burn_18, by decide, rfl⟩) d_La_burn_20 (by decide) d_La_burn_21 rfl rfl
set_option maxHeartbeats 4000000 in
set_option maxRecDepth 100000 in
theorem w_burn_S {h h2 : List va_E} {fs : List Value} {p0 : Int32} {p1 : Int32} {p2 : Int32} (hx : h[0]? = some (.inr (0, fs))) (hM : XM G Y_RF_burn [.ref 0, .int p0, .int p1, .int p2] (1, h) (.inr "java/lang/IllegalStateException", (0, h2), 1, 6)) : XM G Y_La_burn [.ref 0, .int p0, .int p1, .int p2, .ref 39] (1, h) (.inl (some (.int 3)), (0, h2), 1, 6) := by
  refine XM_of (by decide +kernel) (Nat.le_of_ble_eq_true rfl) (Or.inl rfl) ?_
  refine J_aload d_La_burn_0 rfl ?_
  refine J_iconst (v := 0) d_La_burn_2 (by decide) ?_
  refine J_aload_n d_La_burn_3 rfl rfl ?_
  refine J_iload_n d_La_burn_4 rfl rfl ?_
  refine J_iload_n d_La_burn_5 rfl rfl ?_
  refine J_iload_n d_La_burn_6 rfl rfl ?_
  exact J_callC (xGo_v3 d_La_burn_7 xc_La_61 hx rfl rfl) ⟨xq_RF_burn.1, xq_RF_burn.2.1⟩ ⟨Nat.le_of_ble_eq_true rfl, Nat.le_of_ble_eq_true rfl, Nat.le_of_ble_eq_true rfl, Nat.le_of_ble_eq_true rfl⟩ (Nat.le_of_ble_eq_true rfl) hM (by decide) xa_La_burn_S (Or.inr ⟨5, d_La_burn_22, by decide, rfl⟩) d_La_burn_24 (by decide) d_La_burn_25 rfl rfl
set_option maxHeartbeats 4000000 in
set_option maxRecDepth 100000 in
theorem w_log_ok {h h2 : List va_E} {fs : List Value} {mr : Nat} {p0 : Int32} {p1 : Int32} {p2 : Int32} {v : Int32} {o : Nat → Int64} (hG : gTok G) (hx : h[0]? = some (.inr (0, fs))) (ho : h2[39]? = some (oc_ o)) (hM : XM G Y_RF_log [.ref 0, .int p0, .int p1, .int p2] (1, h) (.inl (some (.int v)), (mr, h2), 0, 0)) : XM G Y_La_log [.ref 0, .int p0, .int p1, .int p2, .ref 39] (1, h) (.inl (some (.int 0)), (0, h2.set 39 (oc_ (vp_updL o 0 v.toInt64))), 0, 0) := by
  refine XM_of (by decide +kernel) (Nat.le_of_ble_eq_true rfl) (Or.inl rfl) ?_
  refine J_aload d_La_log_0 rfl ?_
  refine J_iconst (v := 0) d_La_log_2 (by decide) ?_
  refine J_aload_n d_La_log_3 rfl rfl ?_
  refine J_iload_n d_La_log_4 rfl rfl ?_
  refine J_iload_n d_La_log_5 rfl rfl ?_
  refine J_iload_n d_La_log_6 rfl rfl ?_
  refine J_callY (xGo_v3 d_La_log_7 xc_La_17 hx rfl rfl) ⟨xq_RF_log.1, xq_RF_log.2.1⟩ ⟨Nat.le_of_ble_eq_true rfl, Nat.le_of_ble_eq_true rfl, Nat.le_of_ble_eq_true rfl, Nat.le_of_ble_eq_true rfl⟩ (Nat.le_of_ble_eq_true rfl) hM ?_
  refine J_i2l d_La_log_10 ?_
  refine J_last d_La_log_11 (gt1 hG) ho (vp_in_nI (n := 0) (by decide) (by decide)) ?_
  refine J_goto (tgt := 19) d_La_log_12 (by decide) ?_
  refine J_iconst (v := 0) d_La_log_19 (by decide) ?_
  exact J_ireturn d_La_log_20 rfl rfl
set_option maxHeartbeats 4000000 in
set_option maxRecDepth 100000 in
theorem w_log_A {h h2 : List va_E} {fs : List Value} {p0 : Int32} {p1 : Int32} {p2 : Int32} (hx : h[0]? = some (.inr (0, fs))) (hM : XM G Y_RF_log [.ref 0, .int p0, .int p1, .int p2] (1, h) (.inr "java/lang/IllegalArgumentException", (0, h2), 1, 6)) : XM G Y_La_log [.ref 0, .int p0, .int p1, .int p2, .ref 39] (1, h) (.inl (some (.int 1)), (0, h2), 1, 6) := by
  refine XM_of (by decide +kernel) (Nat.le_of_ble_eq_true rfl) (Or.inl rfl) ?_
  refine J_aload d_La_log_0 rfl ?_
  refine J_iconst (v := 0) d_La_log_2 (by decide) ?_
  refine J_aload_n d_La_log_3 rfl rfl ?_
  refine J_iload_n d_La_log_4 rfl rfl ?_
  refine J_iload_n d_La_log_5 rfl rfl ?_
  refine J_iload_n d_La_log_6 rfl rfl ?_
  exact J_callC (xGo_v3 d_La_log_7 xc_La_17 hx rfl rfl) ⟨xq_RF_log.1, xq_RF_log.2.1⟩ ⟨Nat.le_of_ble_eq_true rfl, Nat.le_of_ble_eq_true rfl, Nat.le_of_ble_eq_true rfl, Nat.le_of_ble_eq_true rfl⟩ (Nat.le_of_ble_eq_true rfl) hM (by decide) xa_La_log_A (Or.inr ⟨5, d_La_log_15, by decide, rfl⟩) d_La_log_17 (by decide) d_La_log_18 rfl rfl
set_option maxHeartbeats 4000000 in
set_option maxRecDepth 100000 in
theorem w_mix_ok {h h2 : List va_E} {fs : List Value} {mr : Nat} {p0 : Int32} {p1 : Int32} {p2 : Int32} {v : Int32} {o : Nat → Int64} (hG : gTok G) (hx : h[0]? = some (.inr (0, fs))) (ho : h2[39]? = some (oc_ o)) (hM : XM G Y_RF_mix [.ref 0, .int p0, .int p1, .int p2] (1, h) (.inl (some (.int v)), (mr, h2), 0, 0)) : XM G Y_La_mix [.ref 0, .int p0, .int p1, .int p2, .ref 39] (1, h) (.inl (some (.int 0)), (0, h2.set 39 (oc_ (vp_updL o 0 (if v = 0 then 0 else 1)))), 0, 0) := by
  refine XM_of (by decide +kernel) (Nat.le_of_ble_eq_true rfl) (Or.inl rfl) ?_
  refine J_aload d_La_mix_0 rfl ?_
  refine J_iconst (v := 0) d_La_mix_2 (by decide) ?_
  refine J_aload_n d_La_mix_3 rfl rfl ?_
  refine J_iload_n d_La_mix_4 rfl rfl ?_
  refine J_iload_n d_La_mix_5 rfl rfl ?_
  refine J_iload_n d_La_mix_6 rfl rfl ?_
  refine J_callY (xGo_v3 d_La_mix_7 xc_La_71 hx rfl rfl) ⟨xq_RF_mix.1, xq_RF_mix.2.1⟩ ⟨Nat.le_of_ble_eq_true rfl, Nat.le_of_ble_eq_true rfl, Nat.le_of_ble_eq_true rfl, Nat.le_of_ble_eq_true rfl⟩ (Nat.le_of_ble_eq_true rfl) hM ?_
  refine J_if_eq (tgt := 17) d_La_mix_10 (by decide) (fun c10 => ?_) (fun c10 => ?_)
  · skip
    refine J_lconst (v := 0) d_La_mix_17 (by decide) ?_
    refine J_last d_La_mix_18 (gt1 hG) ho (vp_in_nI (n := 0) (by decide) (by decide)) ?_
    refine J_goto (tgt := 34) d_La_mix_19 (by decide) ?_
    refine J_iconst (v := 0) d_La_mix_34 (by decide) ?_
    exact J_ireturn d_La_mix_35 rfl (by rw [if_pos c10] <;> rfl)
  · skip
    refine J_lconst (v := 1) d_La_mix_13 (by decide) ?_
    refine J_goto (tgt := 18) d_La_mix_14 (by decide) ?_
    refine J_last d_La_mix_18 (gt1 hG) ho (vp_in_nI (n := 0) (by decide) (by decide)) ?_
    refine J_goto (tgt := 34) d_La_mix_19 (by decide) ?_
    refine J_iconst (v := 0) d_La_mix_34 (by decide) ?_
    exact J_ireturn d_La_mix_35 rfl (by rw [if_neg c10] <;> rfl)
set_option maxHeartbeats 4000000 in
set_option maxRecDepth 100000 in
theorem w_mix_I {h h2 : List va_E} {fs : List Value} {p0 : Int32} {p1 : Int32} {p2 : Int32} (hx : h[0]? = some (.inr (0, fs))) (hM : XM G Y_RF_mix [.ref 0, .int p0, .int p1, .int p2] (1, h) (.inr "java/lang/IndexOutOfBoundsException", (0, h2), 1, 6)) : XM G Y_La_mix [.ref 0, .int p0, .int p1, .int p2, .ref 39] (1, h) (.inl (some (.int 1)), (0, h2), 1, 6) := by
  refine XM_of (by decide +kernel) (Nat.le_of_ble_eq_true rfl) (Or.inl rfl) ?_
  refine J_aload d_La_mix_0 rfl ?_
  refine J_iconst (v := 0) d_La_mix_2 (by decide) ?_
  refine J_aload_n d_La_mix_3 rfl rfl ?_
  refine J_iload_n d_La_mix_4 rfl rfl ?_
  refine J_iload_n d_La_mix_5 rfl rfl ?_
  refine J_iload_n d_La_mix_6 rfl rfl ?_
  exact J_callC (xGo_v3 d_La_mix_7 xc_La_71 hx rfl rfl) ⟨xq_RF_mix.1, xq_RF_mix.2.1⟩ ⟨Nat.le_of_ble_eq_true rfl, Nat.le_of_ble_eq_true rfl, Nat.le_of_ble_eq_true rfl, Nat.le_of_ble_eq_true rfl⟩ (Nat.le_of_ble_eq_true rfl) hM (by decide) xa_La_mix_I (Or.inr ⟨5, d_La_mix_22, by decide, rfl⟩) d_La_mix_24 (by decide) d_La_mix_25 rfl rfl
set_option maxHeartbeats 4000000 in
set_option maxRecDepth 100000 in
theorem w_mix_A {h h2 : List va_E} {fs : List Value} {p0 : Int32} {p1 : Int32} {p2 : Int32} (hx : h[0]? = some (.inr (0, fs))) (hM : XM G Y_RF_mix [.ref 0, .int p0, .int p1, .int p2] (1, h) (.inr "java/lang/IllegalArgumentException", (0, h2), 1, 6)) : XM G Y_La_mix [.ref 0, .int p0, .int p1, .int p2, .ref 39] (1, h) (.inl (some (.int 2)), (0, h2), 1, 6) := by
  refine XM_of (by decide +kernel) (Nat.le_of_ble_eq_true rfl) (Or.inl rfl) ?_
  refine J_aload d_La_mix_0 rfl ?_
  refine J_iconst (v := 0) d_La_mix_2 (by decide) ?_
  refine J_aload_n d_La_mix_3 rfl rfl ?_
  refine J_iload_n d_La_mix_4 rfl rfl ?_
  refine J_iload_n d_La_mix_5 rfl rfl ?_
  refine J_iload_n d_La_mix_6 rfl rfl ?_
  exact J_callC (xGo_v3 d_La_mix_7 xc_La_71 hx rfl rfl) ⟨xq_RF_mix.1, xq_RF_mix.2.1⟩ ⟨Nat.le_of_ble_eq_true rfl, Nat.le_of_ble_eq_true rfl, Nat.le_of_ble_eq_true rfl, Nat.le_of_ble_eq_true rfl⟩ (Nat.le_of_ble_eq_true rfl) hM (by decide) xa_La_mix_A (Or.inr ⟨5, d_La_mix_26, by decide, rfl⟩) d_La_mix_28 (by decide) d_La_mix_29 rfl rfl
set_option maxHeartbeats 4000000 in
set_option maxRecDepth 100000 in
theorem w_mix_S {h h2 : List va_E} {fs : List Value} {p0 : Int32} {p1 : Int32} {p2 : Int32} (hx : h[0]? = some (.inr (0, fs))) (hM : XM G Y_RF_mix [.ref 0, .int p0, .int p1, .int p2] (1, h) (.inr "java/lang/IllegalStateException", (0, h2), 1, 6)) : XM G Y_La_mix [.ref 0, .int p0, .int p1, .int p2, .ref 39] (1, h) (.inl (some (.int 3)), (0, h2), 1, 6) := by
  refine XM_of (by decide +kernel) (Nat.le_of_ble_eq_true rfl) (Or.inl rfl) ?_
  refine J_aload d_La_mix_0 rfl ?_
  refine J_iconst (v := 0) d_La_mix_2 (by decide) ?_
  refine J_aload_n d_La_mix_3 rfl rfl ?_
  refine J_iload_n d_La_mix_4 rfl rfl ?_
  refine J_iload_n d_La_mix_5 rfl rfl ?_
  refine J_iload_n d_La_mix_6 rfl rfl ?_
  exact J_callC (xGo_v3 d_La_mix_7 xc_La_71 hx rfl rfl) ⟨xq_RF_mix.1, xq_RF_mix.2.1⟩ ⟨Nat.le_of_ble_eq_true rfl, Nat.le_of_ble_eq_true rfl, Nat.le_of_ble_eq_true rfl, Nat.le_of_ble_eq_true rfl⟩ (Nat.le_of_ble_eq_true rfl) hM (by decide) xa_La_mix_S (Or.inr ⟨5, d_La_mix_30, by decide, rfl⟩) d_La_mix_32 (by decide) d_La_mix_33 rfl rfl
set_option maxHeartbeats 4000000 in
set_option maxRecDepth 100000 in
theorem w_pour_ok {h h2 : List va_E} {fs : List Value} {mr : Nat} {p0 : Int32} {p1 : Int32} {p2 : Int32} {v : Int32} {o : Nat → Int64} (hG : gTok G) (hx : h[0]? = some (.inr (0, fs))) (ho : h2[39]? = some (oc_ o)) (hM : XM G Y_RF_pour [.ref 0, .int p0, .int p1, .int p2] (1, h) (.inl (some (.int v)), (mr, h2), 0, 0)) : XM G Y_La_pour [.ref 0, .int p0, .int p1, .int p2, .ref 39] (1, h) (.inl (some (.int 0)), (0, h2.set 39 (oc_ (vp_updL o 0 (if v = 0 then 0 else 1)))), 0, 0) := by
  refine XM_of (by decide +kernel) (Nat.le_of_ble_eq_true rfl) (Or.inl rfl) ?_
  refine J_aload d_La_pour_0 rfl ?_
  refine J_iconst (v := 0) d_La_pour_2 (by decide) ?_
  refine J_aload_n d_La_pour_3 rfl rfl ?_
  refine J_iload_n d_La_pour_4 rfl rfl ?_
  refine J_iload_n d_La_pour_5 rfl rfl ?_
  refine J_iload_n d_La_pour_6 rfl rfl ?_
  refine J_callY (xGo_v3 d_La_pour_7 xc_La_35 hx rfl rfl) ⟨xq_RF_pour.1, xq_RF_pour.2.1⟩ ⟨Nat.le_of_ble_eq_true rfl, Nat.le_of_ble_eq_true rfl, Nat.le_of_ble_eq_true rfl, Nat.le_of_ble_eq_true rfl⟩ (Nat.le_of_ble_eq_true rfl) hM ?_
  refine J_if_eq (tgt := 17) d_La_pour_10 (by decide) (fun c10 => ?_) (fun c10 => ?_)
  · skip
    refine J_lconst (v := 0) d_La_pour_17 (by decide) ?_
    refine J_last d_La_pour_18 (gt1 hG) ho (vp_in_nI (n := 0) (by decide) (by decide)) ?_
    refine J_goto (tgt := 30) d_La_pour_19 (by decide) ?_
    refine J_iconst (v := 0) d_La_pour_30 (by decide) ?_
    exact J_ireturn d_La_pour_31 rfl (by rw [if_pos c10] <;> rfl)
  · skip
    refine J_lconst (v := 1) d_La_pour_13 (by decide) ?_
    refine J_goto (tgt := 18) d_La_pour_14 (by decide) ?_
    refine J_last d_La_pour_18 (gt1 hG) ho (vp_in_nI (n := 0) (by decide) (by decide)) ?_
    refine J_goto (tgt := 30) d_La_pour_19 (by decide) ?_
    refine J_iconst (v := 0) d_La_pour_30 (by decide) ?_
    exact J_ireturn d_La_pour_31 rfl (by rw [if_neg c10] <;> rfl)
set_option maxHeartbeats 4000000 in
set_option maxRecDepth 100000 in
theorem w_pour_I {h h2 : List va_E} {fs : List Value} {p0 : Int32} {p1 : Int32} {p2 : Int32} (hx : h[0]? = some (.inr (0, fs))) (hM : XM G Y_RF_pour [.ref 0, .int p0, .int p1, .int p2] (1, h) (.inr "java/lang/IndexOutOfBoundsException", (0, h2), 1, 6)) : XM G Y_La_pour [.ref 0, .int p0, .int p1, .int p2, .ref 39] (1, h) (.inl (some (.int 1)), (0, h2), 1, 6) := by
  refine XM_of (by decide +kernel) (Nat.le_of_ble_eq_true rfl) (Or.inl rfl) ?_
  refine J_aload d_La_pour_0 rfl ?_
  refine J_iconst (v := 0) d_La_pour_2 (by decide) ?_
  refine J_aload_n d_La_pour_3 rfl rfl ?_
  refine J_iload_n d_La_pour_4 rfl rfl ?_
  refine J_iload_n d_La_pour_5 rfl rfl ?_
  refine J_iload_n d_La_pour_6 rfl rfl ?_
  exact J_callC (xGo_v3 d_La_pour_7 xc_La_35 hx rfl rfl) ⟨xq_RF_pour.1, xq_RF_pour.2.1⟩ ⟨Nat.le_of_ble_eq_true rfl, Nat.le_of_ble_eq_true rfl, Nat.le_of_ble_eq_true rfl, Nat.le_of_ble_eq_true rfl⟩ (Nat.le_of_ble_eq_true rfl) hM (by decide) xa_La_pour_I (Or.inr ⟨5, d_La_pour_22, by decide, rfl⟩) d_La_pour_24 (by decide) d_La_pour_25 rfl rfl
set_option maxHeartbeats 4000000 in
set_option maxRecDepth 100000 in
theorem w_pour_A {h h2 : List va_E} {fs : List Value} {p0 : Int32} {p1 : Int32} {p2 : Int32} (hx : h[0]? = some (.inr (0, fs))) (hM : XM G Y_RF_pour [.ref 0, .int p0, .int p1, .int p2] (1, h) (.inr "java/lang/IllegalArgumentException", (0, h2), 1, 6)) : XM G Y_La_pour [.ref 0, .int p0, .int p1, .int p2, .ref 39] (1, h) (.inl (some (.int 2)), (0, h2), 1, 6) := by
  refine XM_of (by decide +kernel) (Nat.le_of_ble_eq_true rfl) (Or.inl rfl) ?_
  refine J_aload d_La_pour_0 rfl ?_
  refine J_iconst (v := 0) d_La_pour_2 (by decide) ?_
  refine J_aload_n d_La_pour_3 rfl rfl ?_
  refine J_iload_n d_La_pour_4 rfl rfl ?_
  refine J_iload_n d_La_pour_5 rfl rfl ?_
  refine J_iload_n d_La_pour_6 rfl rfl ?_
  exact J_callC (xGo_v3 d_La_pour_7 xc_La_35 hx rfl rfl) ⟨xq_RF_pour.1, xq_RF_pour.2.1⟩ ⟨Nat.le_of_ble_eq_true rfl, Nat.le_of_ble_eq_true rfl, Nat.le_of_ble_eq_true rfl, Nat.le_of_ble_eq_true rfl⟩ (Nat.le_of_ble_eq_true rfl) hM (by decide) xa_La_pour_A (Or.inr ⟨5, d_La_pour_26, by decide, rfl⟩) d_La_pour_28 (by decide) d_La_pour_29 rfl rfl
set_option maxHeartbeats 4000000 in
set_option maxRecDepth 100000 in
theorem w_row_ok {h h2 : List va_E} {fs : List Value} {mr : Nat} {p0 : Int32} {p1 : Int32} {v : Int32} {o : Nat → Int64} (hG : gTok G) (hx : h[0]? = some (.inr (0, fs))) (ho : h2[39]? = some (oc_ o)) (hM : XM G Y_RF_row [.ref 0, .int p0, .int p1] (1, h) (.inl (some (.int v)), (mr, h2), 0, 0)) : XM G Y_La_row [.ref 0, .int p0, .int p1, .ref 39] (1, h) (.inl (some (.int 0)), (0, h2.set 39 (oc_ (vp_updL o 0 v.toInt64))), 0, 0) := by
  refine XM_of (by decide +kernel) (Nat.le_of_ble_eq_true rfl) (Or.inl rfl) ?_
  refine J_aload_n d_La_row_0 rfl rfl ?_
  refine J_iconst (v := 0) d_La_row_1 (by decide) ?_
  refine J_aload_n d_La_row_2 rfl rfl ?_
  refine J_iload_n d_La_row_3 rfl rfl ?_
  refine J_iload_n d_La_row_4 rfl rfl ?_
  refine J_callY (xGo_v2 d_La_row_5 xc_La_58 hx rfl rfl) ⟨xq_RF_row.1, xq_RF_row.2.1⟩ ⟨Nat.le_of_ble_eq_true rfl, Nat.le_of_ble_eq_true rfl, Nat.le_of_ble_eq_true rfl, Nat.le_of_ble_eq_true rfl⟩ (Nat.le_of_ble_eq_true rfl) hM ?_
  refine J_i2l d_La_row_8 ?_
  refine J_last d_La_row_9 (gt1 hG) ho (vp_in_nI (n := 0) (by decide) (by decide)) ?_
  refine J_goto (tgt := 21) d_La_row_10 (by decide) ?_
  refine J_iconst (v := 0) d_La_row_21 (by decide) ?_
  exact J_ireturn d_La_row_22 rfl rfl
set_option maxHeartbeats 4000000 in
set_option maxRecDepth 100000 in
theorem w_row_A {h h2 : List va_E} {fs : List Value} {p0 : Int32} {p1 : Int32} (hx : h[0]? = some (.inr (0, fs))) (hM : XM G Y_RF_row [.ref 0, .int p0, .int p1] (1, h) (.inr "java/lang/IllegalArgumentException", (0, h2), 1, 6)) : XM G Y_La_row [.ref 0, .int p0, .int p1, .ref 39] (1, h) (.inl (some (.int 1)), (0, h2), 1, 6) := by
  refine XM_of (by decide +kernel) (Nat.le_of_ble_eq_true rfl) (Or.inl rfl) ?_
  refine J_aload_n d_La_row_0 rfl rfl ?_
  refine J_iconst (v := 0) d_La_row_1 (by decide) ?_
  refine J_aload_n d_La_row_2 rfl rfl ?_
  refine J_iload_n d_La_row_3 rfl rfl ?_
  refine J_iload_n d_La_row_4 rfl rfl ?_
  exact J_callC (xGo_v2 d_La_row_5 xc_La_58 hx rfl rfl) ⟨xq_RF_row.1, xq_RF_row.2.1⟩ ⟨Nat.le_of_ble_eq_true rfl, Nat.le_of_ble_eq_true rfl, Nat.le_of_ble_eq_true rfl, Nat.le_of_ble_eq_true rfl⟩ (Nat.le_of_ble_eq_true rfl) hM (by decide) xa_La_row_A (Or.inr ⟨4, d_La_row_13, by decide, rfl⟩) d_La_row_15 (by decide) d_La_row_16 rfl rfl
set_option maxHeartbeats 4000000 in
set_option maxRecDepth 100000 in
theorem w_row_S {h h2 : List va_E} {fs : List Value} {p0 : Int32} {p1 : Int32} (hx : h[0]? = some (.inr (0, fs))) (hM : XM G Y_RF_row [.ref 0, .int p0, .int p1] (1, h) (.inr "java/lang/IllegalStateException", (0, h2), 1, 6)) : XM G Y_La_row [.ref 0, .int p0, .int p1, .ref 39] (1, h) (.inl (some (.int 2)), (0, h2), 1, 6) := by
  refine XM_of (by decide +kernel) (Nat.le_of_ble_eq_true rfl) (Or.inl rfl) ?_
  refine J_aload_n d_La_row_0 rfl rfl ?_
  refine J_iconst (v := 0) d_La_row_1 (by decide) ?_
  refine J_aload_n d_La_row_2 rfl rfl ?_
  refine J_iload_n d_La_row_3 rfl rfl ?_
  refine J_iload_n d_La_row_4 rfl rfl ?_
  exact J_callC (xGo_v2 d_La_row_5 xc_La_58 hx rfl rfl) ⟨xq_RF_row.1, xq_RF_row.2.1⟩ ⟨Nat.le_of_ble_eq_true rfl, Nat.le_of_ble_eq_true rfl, Nat.le_of_ble_eq_true rfl, Nat.le_of_ble_eq_true rfl⟩ (Nat.le_of_ble_eq_true rfl) hM (by decide) xa_La_row_S (Or.inr ⟨4, d_La_row_17, by decide, rfl⟩) d_La_row_19 (by decide) d_La_row_20 rfl rfl
set_option maxHeartbeats 4000000 in
set_option maxRecDepth 100000 in
theorem w_scale_ok {h h2 : List va_E} {fs : List Value} {mr : Nat} {p0 : Int32} {p1 : Int64} (hx : h[0]? = some (.inr (0, fs))) (hM : XM G Y_RF_scale [.ref 0, .int p0, .long p1] (1, h) (.inl (none), (mr, h2), 0, 0)) : XM G Y_La_scale [.ref 0, .int p0, .long p1] (1, h) (.inl (some (.int 0)), (0, h2), 0, 0) := by
  refine XM_of (by decide +kernel) (Nat.le_of_ble_eq_true rfl) (Or.inl rfl) ?_
  refine J_aload_n d_La_scale_0 rfl rfl ?_
  refine J_iload_n d_La_scale_1 rfl rfl ?_
  refine J_lload_n d_La_scale_2 rfl rfl ?_
  refine J_callY (xGo_v2 d_La_scale_3 xc_La_50 hx rfl rfl) ⟨xq_RF_scale.1, xq_RF_scale.2.1⟩ ⟨Nat.le_of_ble_eq_true rfl, Nat.le_of_ble_eq_true rfl, Nat.le_of_ble_eq_true rfl, Nat.le_of_ble_eq_true rfl⟩ (Nat.le_of_ble_eq_true rfl) hM ?_
  refine J_goto (tgt := 17) d_La_scale_6 (by decide) ?_
  refine J_iconst (v := 0) d_La_scale_17 (by decide) ?_
  exact J_ireturn d_La_scale_18 rfl rfl
set_option maxHeartbeats 4000000 in
set_option maxRecDepth 100000 in
theorem w_scale_I {h h2 : List va_E} {fs : List Value} {p0 : Int32} {p1 : Int64} (hx : h[0]? = some (.inr (0, fs))) (hM : XM G Y_RF_scale [.ref 0, .int p0, .long p1] (1, h) (.inr "java/lang/IndexOutOfBoundsException", (0, h2), 1, 6)) : XM G Y_La_scale [.ref 0, .int p0, .long p1] (1, h) (.inl (some (.int 1)), (0, h2), 1, 6) := by
  refine XM_of (by decide +kernel) (Nat.le_of_ble_eq_true rfl) (Or.inl rfl) ?_
  refine J_aload_n d_La_scale_0 rfl rfl ?_
  refine J_iload_n d_La_scale_1 rfl rfl ?_
  refine J_lload_n d_La_scale_2 rfl rfl ?_
  exact J_callC (xGo_v2 d_La_scale_3 xc_La_50 hx rfl rfl) ⟨xq_RF_scale.1, xq_RF_scale.2.1⟩ ⟨Nat.le_of_ble_eq_true rfl, Nat.le_of_ble_eq_true rfl, Nat.le_of_ble_eq_true rfl, Nat.le_of_ble_eq_true rfl⟩ (Nat.le_of_ble_eq_true rfl) hM (by decide) xa_La_scale_I (Or.inr ⟨4, d_La_scale_9, by decide, rfl⟩) d_La_scale_11 (by decide) d_La_scale_12 rfl rfl
set_option maxHeartbeats 4000000 in
set_option maxRecDepth 100000 in
theorem w_scale_A {h h2 : List va_E} {fs : List Value} {p0 : Int32} {p1 : Int64} (hx : h[0]? = some (.inr (0, fs))) (hM : XM G Y_RF_scale [.ref 0, .int p0, .long p1] (1, h) (.inr "java/lang/IllegalArgumentException", (0, h2), 1, 6)) : XM G Y_La_scale [.ref 0, .int p0, .long p1] (1, h) (.inl (some (.int 2)), (0, h2), 1, 6) := by
  refine XM_of (by decide +kernel) (Nat.le_of_ble_eq_true rfl) (Or.inl rfl) ?_
  refine J_aload_n d_La_scale_0 rfl rfl ?_
  refine J_iload_n d_La_scale_1 rfl rfl ?_
  refine J_lload_n d_La_scale_2 rfl rfl ?_
  exact J_callC (xGo_v2 d_La_scale_3 xc_La_50 hx rfl rfl) ⟨xq_RF_scale.1, xq_RF_scale.2.1⟩ ⟨Nat.le_of_ble_eq_true rfl, Nat.le_of_ble_eq_true rfl, Nat.le_of_ble_eq_true rfl, Nat.le_of_ble_eq_true rfl⟩ (Nat.le_of_ble_eq_true rfl) hM (by decide) xa_La_scale_A (Or.inr ⟨4, d_La_scale_13, by decide, rfl⟩) d_La_scale_15 (by decide) d_La_scale_16 rfl rfl
set_option maxHeartbeats 4000000 in
set_option maxRecDepth 100000 in
theorem w_screen_ok {h h2 : List va_E} {fs : List Value} {mr : Nat} {p0 : Int32} {p1 : Int32} {p2 : Int32} {p3 : Int32} {p4 : Int32} {p5 : Int32} (hx : h[0]? = some (.inr (0, fs))) (hM : XM G Y_RF_screen [.ref 0, .int p0, .int p1, .int p2, .int p3, .int p4, .int p5] (1, h) (.inl (none), (mr, h2), 0, 0)) : XM G Y_La_screen [.ref 0, .int p0, .int p1, .int p2, .int p3, .int p4, .int p5] (1, h) (.inl (some (.int 0)), (0, h2), 0, 0) := by
  refine XM_of (by decide +kernel) (Nat.le_of_ble_eq_true rfl) (Or.inl rfl) ?_
  refine J_aload_n d_La_screen_0 rfl rfl ?_
  refine J_iload_n d_La_screen_1 rfl rfl ?_
  refine J_iload_n d_La_screen_2 rfl rfl ?_
  refine J_iload_n d_La_screen_3 rfl rfl ?_
  refine J_iload d_La_screen_4 rfl ?_
  refine J_iload d_La_screen_6 rfl ?_
  refine J_iload d_La_screen_8 rfl ?_
  refine J_callY (xGo_v6 d_La_screen_10 xc_La_43 hx rfl rfl) ⟨xq_RF_screen.1, xq_RF_screen.2.1⟩ ⟨Nat.le_of_ble_eq_true rfl, Nat.le_of_ble_eq_true rfl, Nat.le_of_ble_eq_true rfl, Nat.le_of_ble_eq_true rfl⟩ (Nat.le_of_ble_eq_true rfl) hM ?_
  refine J_goto (tgt := 24) d_La_screen_13 (by decide) ?_
  refine J_iconst (v := 0) d_La_screen_24 (by decide) ?_
  exact J_ireturn d_La_screen_25 rfl rfl
set_option maxHeartbeats 4000000 in
set_option maxRecDepth 100000 in
theorem w_screen_I {h h2 : List va_E} {fs : List Value} {p0 : Int32} {p1 : Int32} {p2 : Int32} {p3 : Int32} {p4 : Int32} {p5 : Int32} (hx : h[0]? = some (.inr (0, fs))) (hM : XM G Y_RF_screen [.ref 0, .int p0, .int p1, .int p2, .int p3, .int p4, .int p5] (1, h) (.inr "java/lang/IndexOutOfBoundsException", (0, h2), 1, 6)) : XM G Y_La_screen [.ref 0, .int p0, .int p1, .int p2, .int p3, .int p4, .int p5] (1, h) (.inl (some (.int 1)), (0, h2), 1, 6) := by
  refine XM_of (by decide +kernel) (Nat.le_of_ble_eq_true rfl) (Or.inl rfl) ?_
  refine J_aload_n d_La_screen_0 rfl rfl ?_
  refine J_iload_n d_La_screen_1 rfl rfl ?_
  refine J_iload_n d_La_screen_2 rfl rfl ?_
  refine J_iload_n d_La_screen_3 rfl rfl ?_
  refine J_iload d_La_screen_4 rfl ?_
  refine J_iload d_La_screen_6 rfl ?_
  refine J_iload d_La_screen_8 rfl ?_
  exact J_callC (xGo_v6 d_La_screen_10 xc_La_43 hx rfl rfl) ⟨xq_RF_screen.1, xq_RF_screen.2.1⟩ ⟨Nat.le_of_ble_eq_true rfl, Nat.le_of_ble_eq_true rfl, Nat.le_of_ble_eq_true rfl, Nat.le_of_ble_eq_true rfl⟩ (Nat.le_of_ble_eq_true rfl) hM (by decide) xa_La_screen_I (Or.inr ⟨7, d_La_screen_16, by decide, rfl⟩) d_La_screen_18 (by decide) d_La_screen_19 rfl rfl
set_option maxHeartbeats 4000000 in
set_option maxRecDepth 100000 in
theorem w_screen_A {h h2 : List va_E} {fs : List Value} {p0 : Int32} {p1 : Int32} {p2 : Int32} {p3 : Int32} {p4 : Int32} {p5 : Int32} (hx : h[0]? = some (.inr (0, fs))) (hM : XM G Y_RF_screen [.ref 0, .int p0, .int p1, .int p2, .int p3, .int p4, .int p5] (1, h) (.inr "java/lang/IllegalArgumentException", (0, h2), 1, 6)) : XM G Y_La_screen [.ref 0, .int p0, .int p1, .int p2, .int p3, .int p4, .int p5] (1, h) (.inl (some (.int 2)), (0, h2), 1, 6) := by
  refine XM_of (by decide +kernel) (Nat.le_of_ble_eq_true rfl) (Or.inl rfl) ?_
  refine J_aload_n d_La_screen_0 rfl rfl ?_
  refine J_iload_n d_La_screen_1 rfl rfl ?_
  refine J_iload_n d_La_screen_2 rfl rfl ?_
  refine J_iload_n d_La_screen_3 rfl rfl ?_
  refine J_iload d_La_screen_4 rfl ?_
  refine J_iload d_La_screen_6 rfl ?_
  refine J_iload d_La_screen_8 rfl ?_
  exact J_callC (xGo_v6 d_La_screen_10 xc_La_43 hx rfl rfl) ⟨xq_RF_screen.1, xq_RF_screen.2.1⟩ ⟨Nat.le_of_ble_eq_true rfl, Nat.le_of_ble_eq_true rfl, Nat.le_of_ble_eq_true rfl, Nat.le_of_ble_eq_true rfl⟩ (Nat.le_of_ble_eq_true rfl) hM (by decide) xa_La_screen_A (Or.inr ⟨7, d_La_screen_20, by decide, rfl⟩) d_La_screen_22 (by decide) d_La_screen_23 rfl rfl
set_option maxHeartbeats 4000000 in
set_option maxRecDepth 100000 in
theorem w_sell_ok {h h2 : List va_E} {fs : List Value} {mr : Nat} {p0 : Int32} {p1 : Int32} {p2 : Int32} {v : Int64} {o : Nat → Int64} (hG : gTok G) (hx : h[0]? = some (.inr (0, fs))) (ho : h2[39]? = some (oc_ o)) (hM : XM G Y_RF_sell [.ref 0, .int p0, .int p1, .int p2] (1, h) (.inl (some (.long v)), (mr, h2), 0, 0)) : XM G Y_La_sell [.ref 0, .int p0, .int p1, .int p2, .ref 39] (1, h) (.inl (some (.int 0)), (0, h2.set 39 (oc_ (vp_updL o 0 v))), 0, 0) := by
  refine XM_of (by decide +kernel) (Nat.le_of_ble_eq_true rfl) (Or.inl rfl) ?_
  refine J_aload d_La_sell_0 rfl ?_
  refine J_iconst (v := 0) d_La_sell_2 (by decide) ?_
  refine J_aload_n d_La_sell_3 rfl rfl ?_
  refine J_iload_n d_La_sell_4 rfl rfl ?_
  refine J_iload_n d_La_sell_5 rfl rfl ?_
  refine J_iload_n d_La_sell_6 rfl rfl ?_
  refine J_callY (xGo_v3 d_La_sell_7 xc_La_65 hx rfl rfl) ⟨xq_RF_sell.1, xq_RF_sell.2.1⟩ ⟨Nat.le_of_ble_eq_true rfl, Nat.le_of_ble_eq_true rfl, Nat.le_of_ble_eq_true rfl, Nat.le_of_ble_eq_true rfl⟩ (Nat.le_of_ble_eq_true rfl) hM ?_
  refine J_last d_La_sell_10 (gt1 hG) ho (vp_in_nI (n := 0) (by decide) (by decide)) ?_
  refine J_goto (tgt := 26) d_La_sell_11 (by decide) ?_
  refine J_iconst (v := 0) d_La_sell_26 (by decide) ?_
  exact J_ireturn d_La_sell_27 rfl rfl
set_option maxHeartbeats 4000000 in
set_option maxRecDepth 100000 in
theorem w_sell_I {h h2 : List va_E} {fs : List Value} {p0 : Int32} {p1 : Int32} {p2 : Int32} (hx : h[0]? = some (.inr (0, fs))) (hM : XM G Y_RF_sell [.ref 0, .int p0, .int p1, .int p2] (1, h) (.inr "java/lang/IndexOutOfBoundsException", (0, h2), 1, 6)) : XM G Y_La_sell [.ref 0, .int p0, .int p1, .int p2, .ref 39] (1, h) (.inl (some (.int 1)), (0, h2), 1, 6) := by
  refine XM_of (by decide +kernel) (Nat.le_of_ble_eq_true rfl) (Or.inl rfl) ?_
  refine J_aload d_La_sell_0 rfl ?_
  refine J_iconst (v := 0) d_La_sell_2 (by decide) ?_
  refine J_aload_n d_La_sell_3 rfl rfl ?_
  refine J_iload_n d_La_sell_4 rfl rfl ?_
  refine J_iload_n d_La_sell_5 rfl rfl ?_
  refine J_iload_n d_La_sell_6 rfl rfl ?_
  exact J_callC (xGo_v3 d_La_sell_7 xc_La_65 hx rfl rfl) ⟨xq_RF_sell.1, xq_RF_sell.2.1⟩ ⟨Nat.le_of_ble_eq_true rfl, Nat.le_of_ble_eq_true rfl, Nat.le_of_ble_eq_true rfl, Nat.le_of_ble_eq_true rfl⟩ (Nat.le_of_ble_eq_true rfl) hM (by decide) xa_La_sell_I (Or.inr ⟨5, d_La_sell_14, by decide, rfl⟩) d_La_sell_16 (by decide) d_La_sell_17 rfl rfl
set_option maxHeartbeats 4000000 in
set_option maxRecDepth 100000 in
theorem w_sell_A {h h2 : List va_E} {fs : List Value} {p0 : Int32} {p1 : Int32} {p2 : Int32} (hx : h[0]? = some (.inr (0, fs))) (hM : XM G Y_RF_sell [.ref 0, .int p0, .int p1, .int p2] (1, h) (.inr "java/lang/IllegalArgumentException", (0, h2), 1, 6)) : XM G Y_La_sell [.ref 0, .int p0, .int p1, .int p2, .ref 39] (1, h) (.inl (some (.int 2)), (0, h2), 1, 6) := by
  refine XM_of (by decide +kernel) (Nat.le_of_ble_eq_true rfl) (Or.inl rfl) ?_
  refine J_aload d_La_sell_0 rfl ?_
  refine J_iconst (v := 0) d_La_sell_2 (by decide) ?_
  refine J_aload_n d_La_sell_3 rfl rfl ?_
  refine J_iload_n d_La_sell_4 rfl rfl ?_
  refine J_iload_n d_La_sell_5 rfl rfl ?_
  refine J_iload_n d_La_sell_6 rfl rfl ?_
  exact J_callC (xGo_v3 d_La_sell_7 xc_La_65 hx rfl rfl) ⟨xq_RF_sell.1, xq_RF_sell.2.1⟩ ⟨Nat.le_of_ble_eq_true rfl, Nat.le_of_ble_eq_true rfl, Nat.le_of_ble_eq_true rfl, Nat.le_of_ble_eq_true rfl⟩ (Nat.le_of_ble_eq_true rfl) hM (by decide) xa_La_sell_A (Or.inr ⟨5, d_La_sell_18, by decide, rfl⟩) d_La_sell_20 (by decide) d_La_sell_21 rfl rfl
set_option maxHeartbeats 4000000 in
set_option maxRecDepth 100000 in
theorem w_sell_S {h h2 : List va_E} {fs : List Value} {p0 : Int32} {p1 : Int32} {p2 : Int32} (hx : h[0]? = some (.inr (0, fs))) (hM : XM G Y_RF_sell [.ref 0, .int p0, .int p1, .int p2] (1, h) (.inr "java/lang/IllegalStateException", (0, h2), 1, 6)) : XM G Y_La_sell [.ref 0, .int p0, .int p1, .int p2, .ref 39] (1, h) (.inl (some (.int 3)), (0, h2), 1, 6) := by
  refine XM_of (by decide +kernel) (Nat.le_of_ble_eq_true rfl) (Or.inl rfl) ?_
  refine J_aload d_La_sell_0 rfl ?_
  refine J_iconst (v := 0) d_La_sell_2 (by decide) ?_
  refine J_aload_n d_La_sell_3 rfl rfl ?_
  refine J_iload_n d_La_sell_4 rfl rfl ?_
  refine J_iload_n d_La_sell_5 rfl rfl ?_
  refine J_iload_n d_La_sell_6 rfl rfl ?_
  exact J_callC (xGo_v3 d_La_sell_7 xc_La_65 hx rfl rfl) ⟨xq_RF_sell.1, xq_RF_sell.2.1⟩ ⟨Nat.le_of_ble_eq_true rfl, Nat.le_of_ble_eq_true rfl, Nat.le_of_ble_eq_true rfl, Nat.le_of_ble_eq_true rfl⟩ (Nat.le_of_ble_eq_true rfl) hM (by decide) xa_La_sell_S (Or.inr ⟨5, d_La_sell_22, by decide, rfl⟩) d_La_sell_24 (by decide) d_La_sell_25 rfl rfl
set_option maxHeartbeats 4000000 in
set_option maxRecDepth 100000 in
theorem w_send_ok {h h2 : List va_E} {fs : List Value} {mr : Nat} {p0 : Int32} {p1 : Int32} {p2 : Int32} {v : Int32} {o : Nat → Int64} (hG : gTok G) (hx : h[0]? = some (.inr (0, fs))) (ho : h2[39]? = some (oc_ o)) (hM : XM G Y_RF_send [.ref 0, .int p0, .int p1, .int p2] (1, h) (.inl (some (.int v)), (mr, h2), 0, 0)) : XM G Y_La_send [.ref 0, .int p0, .int p1, .int p2, .ref 39] (1, h) (.inl (some (.int 0)), (0, h2.set 39 (oc_ (vp_updL o 0 (if v = 0 then 0 else 1)))), 0, 0) := by
  refine XM_of (by decide +kernel) (Nat.le_of_ble_eq_true rfl) (Or.inl rfl) ?_
  refine J_aload d_La_send_0 rfl ?_
  refine J_iconst (v := 0) d_La_send_2 (by decide) ?_
  refine J_aload_n d_La_send_3 rfl rfl ?_
  refine J_iload_n d_La_send_4 rfl rfl ?_
  refine J_iload_n d_La_send_5 rfl rfl ?_
  refine J_iload_n d_La_send_6 rfl rfl ?_
  refine J_callY (xGo_v3 d_La_send_7 xc_La_47 hx rfl rfl) ⟨xq_RF_send.1, xq_RF_send.2.1⟩ ⟨Nat.le_of_ble_eq_true rfl, Nat.le_of_ble_eq_true rfl, Nat.le_of_ble_eq_true rfl, Nat.le_of_ble_eq_true rfl⟩ (Nat.le_of_ble_eq_true rfl) hM ?_
  refine J_if_eq (tgt := 17) d_La_send_10 (by decide) (fun c10 => ?_) (fun c10 => ?_)
  · skip
    refine J_lconst (v := 0) d_La_send_17 (by decide) ?_
    refine J_last d_La_send_18 (gt1 hG) ho (vp_in_nI (n := 0) (by decide) (by decide)) ?_
    refine J_goto (tgt := 34) d_La_send_19 (by decide) ?_
    refine J_iconst (v := 0) d_La_send_34 (by decide) ?_
    exact J_ireturn d_La_send_35 rfl (by rw [if_pos c10] <;> rfl)
  · skip
    refine J_lconst (v := 1) d_La_send_13 (by decide) ?_
    refine J_goto (tgt := 18) d_La_send_14 (by decide) ?_
    refine J_last d_La_send_18 (gt1 hG) ho (vp_in_nI (n := 0) (by decide) (by decide)) ?_
    refine J_goto (tgt := 34) d_La_send_19 (by decide) ?_
    refine J_iconst (v := 0) d_La_send_34 (by decide) ?_
    exact J_ireturn d_La_send_35 rfl (by rw [if_neg c10] <;> rfl)
set_option maxHeartbeats 4000000 in
set_option maxRecDepth 100000 in
theorem w_send_I {h h2 : List va_E} {fs : List Value} {p0 : Int32} {p1 : Int32} {p2 : Int32} (hx : h[0]? = some (.inr (0, fs))) (hM : XM G Y_RF_send [.ref 0, .int p0, .int p1, .int p2] (1, h) (.inr "java/lang/IndexOutOfBoundsException", (0, h2), 1, 6)) : XM G Y_La_send [.ref 0, .int p0, .int p1, .int p2, .ref 39] (1, h) (.inl (some (.int 1)), (0, h2), 1, 6) := by
  refine XM_of (by decide +kernel) (Nat.le_of_ble_eq_true rfl) (Or.inl rfl) ?_
  refine J_aload d_La_send_0 rfl ?_
  refine J_iconst (v := 0) d_La_send_2 (by decide) ?_
  refine J_aload_n d_La_send_3 rfl rfl ?_
  refine J_iload_n d_La_send_4 rfl rfl ?_
  refine J_iload_n d_La_send_5 rfl rfl ?_
  refine J_iload_n d_La_send_6 rfl rfl ?_
  exact J_callC (xGo_v3 d_La_send_7 xc_La_47 hx rfl rfl) ⟨xq_RF_send.1, xq_RF_send.2.1⟩ ⟨Nat.le_of_ble_eq_true rfl, Nat.le_of_ble_eq_true rfl, Nat.le_of_ble_eq_true rfl, Nat.le_of_ble_eq_true rfl⟩ (Nat.le_of_ble_eq_true rfl) hM (by decide) xa_La_send_I (Or.inr ⟨5, d_La_send_22, by decide, rfl⟩) d_La_send_24 (by decide) d_La_send_25 rfl rfl
set_option maxHeartbeats 4000000 in
set_option maxRecDepth 100000 in
theorem w_send_A {h h2 : List va_E} {fs : List Value} {p0 : Int32} {p1 : Int32} {p2 : Int32} (hx : h[0]? = some (.inr (0, fs))) (hM : XM G Y_RF_send [.ref 0, .int p0, .int p1, .int p2] (1, h) (.inr "java/lang/IllegalArgumentException", (0, h2), 1, 6)) : XM G Y_La_send [.ref 0, .int p0, .int p1, .int p2, .ref 39] (1, h) (.inl (some (.int 2)), (0, h2), 1, 6) := by
  refine XM_of (by decide +kernel) (Nat.le_of_ble_eq_true rfl) (Or.inl rfl) ?_
  refine J_aload d_La_send_0 rfl ?_
  refine J_iconst (v := 0) d_La_send_2 (by decide) ?_
  refine J_aload_n d_La_send_3 rfl rfl ?_
  refine J_iload_n d_La_send_4 rfl rfl ?_
  refine J_iload_n d_La_send_5 rfl rfl ?_
  refine J_iload_n d_La_send_6 rfl rfl ?_
  exact J_callC (xGo_v3 d_La_send_7 xc_La_47 hx rfl rfl) ⟨xq_RF_send.1, xq_RF_send.2.1⟩ ⟨Nat.le_of_ble_eq_true rfl, Nat.le_of_ble_eq_true rfl, Nat.le_of_ble_eq_true rfl, Nat.le_of_ble_eq_true rfl⟩ (Nat.le_of_ble_eq_true rfl) hM (by decide) xa_La_send_A (Or.inr ⟨5, d_La_send_26, by decide, rfl⟩) d_La_send_28 (by decide) d_La_send_29 rfl rfl
set_option maxHeartbeats 4000000 in
set_option maxRecDepth 100000 in
theorem w_send_S {h h2 : List va_E} {fs : List Value} {p0 : Int32} {p1 : Int32} {p2 : Int32} (hx : h[0]? = some (.inr (0, fs))) (hM : XM G Y_RF_send [.ref 0, .int p0, .int p1, .int p2] (1, h) (.inr "java/lang/IllegalStateException", (0, h2), 1, 6)) : XM G Y_La_send [.ref 0, .int p0, .int p1, .int p2, .ref 39] (1, h) (.inl (some (.int 3)), (0, h2), 1, 6) := by
  refine XM_of (by decide +kernel) (Nat.le_of_ble_eq_true rfl) (Or.inl rfl) ?_
  refine J_aload d_La_send_0 rfl ?_
  refine J_iconst (v := 0) d_La_send_2 (by decide) ?_
  refine J_aload_n d_La_send_3 rfl rfl ?_
  refine J_iload_n d_La_send_4 rfl rfl ?_
  refine J_iload_n d_La_send_5 rfl rfl ?_
  refine J_iload_n d_La_send_6 rfl rfl ?_
  exact J_callC (xGo_v3 d_La_send_7 xc_La_47 hx rfl rfl) ⟨xq_RF_send.1, xq_RF_send.2.1⟩ ⟨Nat.le_of_ble_eq_true rfl, Nat.le_of_ble_eq_true rfl, Nat.le_of_ble_eq_true rfl, Nat.le_of_ble_eq_true rfl⟩ (Nat.le_of_ble_eq_true rfl) hM (by decide) xa_La_send_S (Or.inr ⟨5, d_La_send_30, by decide, rfl⟩) d_La_send_32 (by decide) d_La_send_33 rfl rfl
set_option maxHeartbeats 4000000 in
set_option maxRecDepth 100000 in
theorem w_share_ok {h h2 : List va_E} {fs : List Value} {mr : Nat} {p0 : Int32} {p1 : Int32} {p2 : Int32} (hx : h[0]? = some (.inr (0, fs))) (hM : XM G Y_RF_share [.ref 0, .int p0, .int p1, .int p2] (1, h) (.inl (none), (mr, h2), 0, 0)) : XM G Y_La_share [.ref 0, .int p0, .int p1, .int p2] (1, h) (.inl (some (.int 0)), (0, h2), 0, 0) := by
  refine XM_of (by decide +kernel) (Nat.le_of_ble_eq_true rfl) (Or.inl rfl) ?_
  refine J_aload_n d_La_share_0 rfl rfl ?_
  refine J_iload_n d_La_share_1 rfl rfl ?_
  refine J_iload_n d_La_share_2 rfl rfl ?_
  refine J_iload_n d_La_share_3 rfl rfl ?_
  refine J_callY (xGo_v3 d_La_share_4 xc_La_7 hx rfl rfl) ⟨xq_RF_share.1, xq_RF_share.2.1⟩ ⟨Nat.le_of_ble_eq_true rfl, Nat.le_of_ble_eq_true rfl, Nat.le_of_ble_eq_true rfl, Nat.le_of_ble_eq_true rfl⟩ (Nat.le_of_ble_eq_true rfl) hM ?_
  refine J_goto (tgt := 18) d_La_share_7 (by decide) ?_
  refine J_iconst (v := 0) d_La_share_18 (by decide) ?_
  exact J_ireturn d_La_share_19 rfl rfl
set_option maxHeartbeats 4000000 in
set_option maxRecDepth 100000 in
theorem w_share_I {h h2 : List va_E} {fs : List Value} {p0 : Int32} {p1 : Int32} {p2 : Int32} (hx : h[0]? = some (.inr (0, fs))) (hM : XM G Y_RF_share [.ref 0, .int p0, .int p1, .int p2] (1, h) (.inr "java/lang/IndexOutOfBoundsException", (0, h2), 1, 6)) : XM G Y_La_share [.ref 0, .int p0, .int p1, .int p2] (1, h) (.inl (some (.int 1)), (0, h2), 1, 6) := by
  refine XM_of (by decide +kernel) (Nat.le_of_ble_eq_true rfl) (Or.inl rfl) ?_
  refine J_aload_n d_La_share_0 rfl rfl ?_
  refine J_iload_n d_La_share_1 rfl rfl ?_
  refine J_iload_n d_La_share_2 rfl rfl ?_
  refine J_iload_n d_La_share_3 rfl rfl ?_
  exact J_callC (xGo_v3 d_La_share_4 xc_La_7 hx rfl rfl) ⟨xq_RF_share.1, xq_RF_share.2.1⟩ ⟨Nat.le_of_ble_eq_true rfl, Nat.le_of_ble_eq_true rfl, Nat.le_of_ble_eq_true rfl, Nat.le_of_ble_eq_true rfl⟩ (Nat.le_of_ble_eq_true rfl) hM (by decide) xa_La_share_I (Or.inr ⟨4, d_La_share_10, by decide, rfl⟩) d_La_share_12 (by decide) d_La_share_13 rfl rfl
set_option maxHeartbeats 4000000 in
set_option maxRecDepth 100000 in
theorem w_share_A {h h2 : List va_E} {fs : List Value} {p0 : Int32} {p1 : Int32} {p2 : Int32} (hx : h[0]? = some (.inr (0, fs))) (hM : XM G Y_RF_share [.ref 0, .int p0, .int p1, .int p2] (1, h) (.inr "java/lang/IllegalArgumentException", (0, h2), 1, 6)) : XM G Y_La_share [.ref 0, .int p0, .int p1, .int p2] (1, h) (.inl (some (.int 2)), (0, h2), 1, 6) := by
  refine XM_of (by decide +kernel) (Nat.le_of_ble_eq_true rfl) (Or.inl rfl) ?_
  refine J_aload_n d_La_share_0 rfl rfl ?_
  refine J_iload_n d_La_share_1 rfl rfl ?_
  refine J_iload_n d_La_share_2 rfl rfl ?_
  refine J_iload_n d_La_share_3 rfl rfl ?_
  exact J_callC (xGo_v3 d_La_share_4 xc_La_7 hx rfl rfl) ⟨xq_RF_share.1, xq_RF_share.2.1⟩ ⟨Nat.le_of_ble_eq_true rfl, Nat.le_of_ble_eq_true rfl, Nat.le_of_ble_eq_true rfl, Nat.le_of_ble_eq_true rfl⟩ (Nat.le_of_ble_eq_true rfl) hM (by decide) xa_La_share_A (Or.inr ⟨4, d_La_share_14, by decide, rfl⟩) d_La_share_16 (by decide) d_La_share_17 rfl rfl
set_option maxHeartbeats 4000000 in
set_option maxRecDepth 100000 in
theorem w_shift_ok {h h2 : List va_E} {fs : List Value} {mr : Nat} {p0 : Int32} {v : Int64} {o : Nat → Int64} (hG : gTok G) (hx : h[0]? = some (.inr (0, fs))) (ho : h2[39]? = some (oc_ o)) (hM : XM G Y_RF_shift [.ref 0, .int p0] (1, h) (.inl (some (.long v)), (mr, h2), 0, 0)) : XM G Y_La_shift [.ref 0, .int p0, .ref 39] (1, h) (.inl (some (.int 0)), (0, h2.set 39 (oc_ (vp_updL o 0 v))), 0, 0) := by
  refine XM_of (by decide +kernel) (Nat.le_of_ble_eq_true rfl) (Or.inl rfl) ?_
  refine J_aload_n d_La_shift_0 rfl rfl ?_
  refine J_iconst (v := 0) d_La_shift_1 (by decide) ?_
  refine J_aload_n d_La_shift_2 rfl rfl ?_
  refine J_iload_n d_La_shift_3 rfl rfl ?_
  refine J_callY (xGo_v1 d_La_shift_4 xc_La_54 hx rfl rfl) ⟨xq_RF_shift.1, xq_RF_shift.2.1⟩ ⟨Nat.le_of_ble_eq_true rfl, Nat.le_of_ble_eq_true rfl, Nat.le_of_ble_eq_true rfl, Nat.le_of_ble_eq_true rfl⟩ (Nat.le_of_ble_eq_true rfl) hM ?_
  refine J_last d_La_shift_7 (gt1 hG) ho (vp_in_nI (n := 0) (by decide) (by decide)) ?_
  refine J_goto (tgt := 14) d_La_shift_8 (by decide) ?_
  refine J_iconst (v := 0) d_La_shift_14 (by decide) ?_
  exact J_ireturn d_La_shift_15 rfl rfl
set_option maxHeartbeats 4000000 in
set_option maxRecDepth 100000 in
theorem w_shift_I {h h2 : List va_E} {fs : List Value} {p0 : Int32} (hx : h[0]? = some (.inr (0, fs))) (hM : XM G Y_RF_shift [.ref 0, .int p0] (1, h) (.inr "java/lang/IndexOutOfBoundsException", (0, h2), 1, 6)) : XM G Y_La_shift [.ref 0, .int p0, .ref 39] (1, h) (.inl (some (.int 1)), (0, h2), 1, 6) := by
  refine XM_of (by decide +kernel) (Nat.le_of_ble_eq_true rfl) (Or.inl rfl) ?_
  refine J_aload_n d_La_shift_0 rfl rfl ?_
  refine J_iconst (v := 0) d_La_shift_1 (by decide) ?_
  refine J_aload_n d_La_shift_2 rfl rfl ?_
  refine J_iload_n d_La_shift_3 rfl rfl ?_
  exact J_callC (xGo_v1 d_La_shift_4 xc_La_54 hx rfl rfl) ⟨xq_RF_shift.1, xq_RF_shift.2.1⟩ ⟨Nat.le_of_ble_eq_true rfl, Nat.le_of_ble_eq_true rfl, Nat.le_of_ble_eq_true rfl, Nat.le_of_ble_eq_true rfl⟩ (Nat.le_of_ble_eq_true rfl) hM (by decide) xa_La_shift_I (Or.inl ⟨3, d_La_shift_11, by decide, rfl⟩) d_La_shift_12 (by decide) d_La_shift_13 rfl rfl
set_option maxHeartbeats 4000000 in
set_option maxRecDepth 100000 in
theorem w_span_ok {h h2 : List va_E} {fs : List Value} {mr : Nat} {p0 : Int32} {p1 : Int32} {p2 : Int32} (hx : h[0]? = some (.inr (0, fs))) (hM : XM G Y_RF_span [.ref 0, .int p0, .int p1, .int p2] (1, h) (.inl (none), (mr, h2), 0, 0)) : XM G Y_La_span [.ref 0, .int p0, .int p1, .int p2] (1, h) (.inl (some (.int 0)), (0, h2), 0, 0) := by
  refine XM_of (by decide +kernel) (Nat.le_of_ble_eq_true rfl) (Or.inl rfl) ?_
  refine J_aload_n d_La_span_0 rfl rfl ?_
  refine J_iload_n d_La_span_1 rfl rfl ?_
  refine J_iload_n d_La_span_2 rfl rfl ?_
  refine J_iload_n d_La_span_3 rfl rfl ?_
  refine J_callY (xGo_v3 d_La_span_4 xc_La_68 hx rfl rfl) ⟨xq_RF_span.1, xq_RF_span.2.1⟩ ⟨Nat.le_of_ble_eq_true rfl, Nat.le_of_ble_eq_true rfl, Nat.le_of_ble_eq_true rfl, Nat.le_of_ble_eq_true rfl⟩ (Nat.le_of_ble_eq_true rfl) hM ?_
  refine J_goto (tgt := 18) d_La_span_7 (by decide) ?_
  refine J_iconst (v := 0) d_La_span_18 (by decide) ?_
  exact J_ireturn d_La_span_19 rfl rfl
set_option maxHeartbeats 4000000 in
set_option maxRecDepth 100000 in
theorem w_span_I {h h2 : List va_E} {fs : List Value} {p0 : Int32} {p1 : Int32} {p2 : Int32} (hx : h[0]? = some (.inr (0, fs))) (hM : XM G Y_RF_span [.ref 0, .int p0, .int p1, .int p2] (1, h) (.inr "java/lang/IndexOutOfBoundsException", (0, h2), 1, 6)) : XM G Y_La_span [.ref 0, .int p0, .int p1, .int p2] (1, h) (.inl (some (.int 1)), (0, h2), 1, 6) := by
  refine XM_of (by decide +kernel) (Nat.le_of_ble_eq_true rfl) (Or.inl rfl) ?_
  refine J_aload_n d_La_span_0 rfl rfl ?_
  refine J_iload_n d_La_span_1 rfl rfl ?_
  refine J_iload_n d_La_span_2 rfl rfl ?_
  refine J_iload_n d_La_span_3 rfl rfl ?_
  exact J_callC (xGo_v3 d_La_span_4 xc_La_68 hx rfl rfl) ⟨xq_RF_span.1, xq_RF_span.2.1⟩ ⟨Nat.le_of_ble_eq_true rfl, Nat.le_of_ble_eq_true rfl, Nat.le_of_ble_eq_true rfl, Nat.le_of_ble_eq_true rfl⟩ (Nat.le_of_ble_eq_true rfl) hM (by decide) xa_La_span_I (Or.inr ⟨4, d_La_span_10, by decide, rfl⟩) d_La_span_12 (by decide) d_La_span_13 rfl rfl
set_option maxHeartbeats 4000000 in
set_option maxRecDepth 100000 in
theorem w_span_A {h h2 : List va_E} {fs : List Value} {p0 : Int32} {p1 : Int32} {p2 : Int32} (hx : h[0]? = some (.inr (0, fs))) (hM : XM G Y_RF_span [.ref 0, .int p0, .int p1, .int p2] (1, h) (.inr "java/lang/IllegalArgumentException", (0, h2), 1, 6)) : XM G Y_La_span [.ref 0, .int p0, .int p1, .int p2] (1, h) (.inl (some (.int 2)), (0, h2), 1, 6) := by
  refine XM_of (by decide +kernel) (Nat.le_of_ble_eq_true rfl) (Or.inl rfl) ?_
  refine J_aload_n d_La_span_0 rfl rfl ?_
  refine J_iload_n d_La_span_1 rfl rfl ?_
  refine J_iload_n d_La_span_2 rfl rfl ?_
  refine J_iload_n d_La_span_3 rfl rfl ?_
  exact J_callC (xGo_v3 d_La_span_4 xc_La_68 hx rfl rfl) ⟨xq_RF_span.1, xq_RF_span.2.1⟩ ⟨Nat.le_of_ble_eq_true rfl, Nat.le_of_ble_eq_true rfl, Nat.le_of_ble_eq_true rfl, Nat.le_of_ble_eq_true rfl⟩ (Nat.le_of_ble_eq_true rfl) hM (by decide) xa_La_span_A (Or.inr ⟨4, d_La_span_14, by decide, rfl⟩) d_La_span_16 (by decide) d_La_span_17 rfl rfl
set_option maxHeartbeats 4000000 in
set_option maxRecDepth 100000 in
theorem w_volume_ok {h h2 : List va_E} {fs : List Value} {mr : Nat} {p0 : Int32} {p1 : Int32} {v : Int64} {o : Nat → Int64} (hG : gTok G) (hx : h[0]? = some (.inr (0, fs))) (ho : h2[39]? = some (oc_ o)) (hM : XM G Y_RF_volume [.ref 0, .int p0, .int p1] (1, h) (.inl (some (.long v)), (mr, h2), 0, 0)) : XM G Y_La_volume [.ref 0, .int p0, .int p1, .ref 39] (1, h) (.inl (some (.int 0)), (0, h2.set 39 (oc_ (vp_updL o 0 v))), 0, 0) := by
  refine XM_of (by decide +kernel) (Nat.le_of_ble_eq_true rfl) (Or.inl rfl) ?_
  refine J_aload_n d_La_volume_0 rfl rfl ?_
  refine J_iconst (v := 0) d_La_volume_1 (by decide) ?_
  refine J_aload_n d_La_volume_2 rfl rfl ?_
  refine J_iload_n d_La_volume_3 rfl rfl ?_
  refine J_iload_n d_La_volume_4 rfl rfl ?_
  refine J_callY (xGo_v2 d_La_volume_5 xc_La_21 hx rfl rfl) ⟨xq_RF_volume.1, xq_RF_volume.2.1⟩ ⟨Nat.le_of_ble_eq_true rfl, Nat.le_of_ble_eq_true rfl, Nat.le_of_ble_eq_true rfl, Nat.le_of_ble_eq_true rfl⟩ (Nat.le_of_ble_eq_true rfl) hM ?_
  refine J_last d_La_volume_8 (gt1 hG) ho (vp_in_nI (n := 0) (by decide) (by decide)) ?_
  refine J_goto (tgt := 20) d_La_volume_9 (by decide) ?_
  refine J_iconst (v := 0) d_La_volume_20 (by decide) ?_
  exact J_ireturn d_La_volume_21 rfl rfl
set_option maxHeartbeats 4000000 in
set_option maxRecDepth 100000 in
theorem w_volume_I {h h2 : List va_E} {fs : List Value} {p0 : Int32} {p1 : Int32} (hx : h[0]? = some (.inr (0, fs))) (hM : XM G Y_RF_volume [.ref 0, .int p0, .int p1] (1, h) (.inr "java/lang/IndexOutOfBoundsException", (0, h2), 1, 6)) : XM G Y_La_volume [.ref 0, .int p0, .int p1, .ref 39] (1, h) (.inl (some (.int 1)), (0, h2), 1, 6) := by
  refine XM_of (by decide +kernel) (Nat.le_of_ble_eq_true rfl) (Or.inl rfl) ?_
  refine J_aload_n d_La_volume_0 rfl rfl ?_
  refine J_iconst (v := 0) d_La_volume_1 (by decide) ?_
  refine J_aload_n d_La_volume_2 rfl rfl ?_
  refine J_iload_n d_La_volume_3 rfl rfl ?_
  refine J_iload_n d_La_volume_4 rfl rfl ?_
  exact J_callC (xGo_v2 d_La_volume_5 xc_La_21 hx rfl rfl) ⟨xq_RF_volume.1, xq_RF_volume.2.1⟩ ⟨Nat.le_of_ble_eq_true rfl, Nat.le_of_ble_eq_true rfl, Nat.le_of_ble_eq_true rfl, Nat.le_of_ble_eq_true rfl⟩ (Nat.le_of_ble_eq_true rfl) hM (by decide) xa_La_volume_I (Or.inr ⟨4, d_La_volume_12, by decide, rfl⟩) d_La_volume_14 (by decide) d_La_volume_15 rfl rfl
set_option maxHeartbeats 4000000 in
set_option maxRecDepth 100000 in
theorem w_volume_S {h h2 : List va_E} {fs : List Value} {p0 : Int32} {p1 : Int32} (hx : h[0]? = some (.inr (0, fs))) (hM : XM G Y_RF_volume [.ref 0, .int p0, .int p1] (1, h) (.inr "java/lang/IllegalStateException", (0, h2), 1, 6)) : XM G Y_La_volume [.ref 0, .int p0, .int p1, .ref 39] (1, h) (.inl (some (.int 2)), (0, h2), 1, 6) := by
  refine XM_of (by decide +kernel) (Nat.le_of_ble_eq_true rfl) (Or.inl rfl) ?_
  refine J_aload_n d_La_volume_0 rfl rfl ?_
  refine J_iconst (v := 0) d_La_volume_1 (by decide) ?_
  refine J_aload_n d_La_volume_2 rfl rfl ?_
  refine J_iload_n d_La_volume_3 rfl rfl ?_
  refine J_iload_n d_La_volume_4 rfl rfl ?_
  exact J_callC (xGo_v2 d_La_volume_5 xc_La_21 hx rfl rfl) ⟨xq_RF_volume.1, xq_RF_volume.2.1⟩ ⟨Nat.le_of_ble_eq_true rfl, Nat.le_of_ble_eq_true rfl, Nat.le_of_ble_eq_true rfl, Nat.le_of_ble_eq_true rfl⟩ (Nat.le_of_ble_eq_true rfl) hM (by decide) xa_La_volume_S (Or.inr ⟨4, d_La_volume_16, by decide, rfl⟩) d_La_volume_18 (by decide) d_La_volume_19 rfl rfl
end XL1
