section XM1
variable {G : xG} {sa sb : Int32 × Int32} {lt tt : cP} {lg bc : Int32} {gi go : Int64} {sh : Int32} {bn : Nat → cB} {sc : Nat → cS} {rw : Int32} {dy pt : Nat → Int32} {R : List va_E}
variable {th : Int32} {ab be : Nat → Int32} {lgm : Int32} {ltm smm : Nat → Int64} {bs : Int32} {kd : Nat → Int32} {mo dr wa re : Nat → Int64} {lom him scm ou sr : Nat → Int32} {gim gom shm : Int64} {rwm : Int32} {dym ptm : Nat → Int32} {td tw : Int64}
def s_in (v a z : Int64) : Int32 := if v < a then 0 else if z < v then 0 else 1
def s_nb (bs b : Int32) : Int32 := if b < 0 then 1 else if b < bs then 0 else 1
def s_ip (k w : Int32) : Int32 := if s_in k.toInt64 0 1000000 = 0 then 0 else if s_in w.toInt64 0 1000 = 0 then 0 else 1
def s_al (dr wa : Nat → Int64) (b : Int32) : Int64 := dr b.toNatClampNeg + wa b.toNatClampNeg
def s_mr (mo dr wa : Nat → Int64) (b : Int32) (k : Int64) : Int32 := if 1000 * mo b.toNatClampNeg < s_al dr wa b + 1000 * k then 0 else 1
def s_ha (dr wa : Nat → Int64) (b k : Int32) : Int32 := if s_al dr wa b < 1000 * k.toInt64 then 0 else 1
theorem nb_in {bs b : Int32} {nb : Nat} (hb : bs = nI nb) (hn : nb ≤ 8) (h : s_nb bs b = 0) : vp_in b 8 := by
  unfold s_nb at h
  by_cases h1 : b < 0
  · rw [if_pos h1] at h; exact absurd h (by decide)
  · rw [if_neg h1] at h
    by_cases h2 : b < bs
    · obtain ⟨j, hj, e⟩ := nI_of h1
      subst e
      subst hb
      have : j < nb := (nI_ltI hj (by omega)).mp h2
      exact vp_in_nI (by omega) (by decide)
    · rw [if_neg h2] at h; exact absurd h (by decide)
theorem ib2 {t : Int32} (h0 : ¬ t < 0) (h : t ≤ 1) : vp_in t 2 := by
  have e8 : (1 : Int32).toInt = ((1 : Nat) : Int) := by decide
  obtain ⟨j, hj, e⟩ := nI_of2 e8 h0 h
  rw [e]
  exact vp_in_nI (by omega) (by decide)
theorem ib5 {t : Int32} (h0 : ¬ t < 0) (h : t ≤ 3) : vp_in t 5 := by
  have e8 : (3 : Int32).toInt = ((3 : Nat) : Int) := by decide
  obtain ⟨j, hj, e⟩ := nI_of2 e8 h0 h
  rw [e]
  exact vp_in_nI (by omega) (by decide)
theorem ib4 {t : Int32} (h0 : ¬ t < 0) (h : t ≤ 3) : vp_in t 4 := by
  have e8 : (3 : Int32).toInt = ((3 : Nat) : Int) := by decide
  obtain ⟨j, hj, e⟩ := nI_of2 e8 h0 h
  rw [e]
  exact vp_in_nI (by omega) (by decide)
set_option maxHeartbeats 4000000 in
set_option maxRecDepth 100000 in
theorem n_isIn {h : List va_E} {v a z : Int64} : XM G Y_Mo_isIn [.long v, .long a, .long z] (1, h) (.inl (some (.int (s_in v a z))), (1, h), 0, 0) := by
  refine XM_of (by decide +kernel) (Nat.le_of_ble_eq_true rfl) (Or.inl rfl) ?_
  refine J_lload_n d_Mo_isIn_0 rfl rfl ?_
  refine J_lload_n d_Mo_isIn_1 rfl rfl ?_
  refine J_lcmp d_Mo_isIn_2 ?_
  refine J_lif_lt (tgt := 17) d_Mo_isIn_3 (by decide) (fun c3 => ?_) (fun c3 => ?_)
  · skip
    refine J_iconst (v := 0) d_Mo_isIn_17 (by decide) ?_
    exact J_zreturn d_Mo_isIn_18 rfl rfl (by simp only [s_in, c3, Classical.not_not, if_true, if_false, not_true_eq_false, not_false_eq_true, and_true, true_and, and_false, false_and, or_true, true_or, or_false, false_or, and_self, or_self])
  · skip
    refine J_lload_n d_Mo_isIn_6 rfl rfl ?_
    refine J_lload d_Mo_isIn_7 rfl ?_
    refine J_lcmp d_Mo_isIn_9 ?_
    refine J_lif_gt (tgt := 17) d_Mo_isIn_10 (by decide) (fun c10 => ?_) (fun c10 => ?_)
    · skip
      refine J_iconst (v := 0) d_Mo_isIn_17 (by decide) ?_
      exact J_zreturn d_Mo_isIn_18 rfl rfl (by simp only [s_in, c3, c10, Classical.not_not, if_true, if_false, not_true_eq_false, not_false_eq_true, and_true, true_and, and_false, false_and, or_true, true_or, or_false, false_or, and_self, or_self])
    · skip
      refine J_iconst (v := 1) d_Mo_isIn_13 (by decide) ?_
      refine J_goto (tgt := 18) d_Mo_isIn_14 (by decide) ?_
      exact J_zreturn d_Mo_isIn_18 rfl rfl (by simp only [s_in, c3, c10, Classical.not_not, if_true, if_false, not_true_eq_false, not_false_eq_true, and_true, true_and, and_false, false_and, or_true, true_or, or_false, false_or, and_self, or_self])
set_option maxHeartbeats 4000000 in
set_option maxRecDepth 100000 in
theorem n_noBin {b : Int32} : XM G Y_Mo_noBin [.ref 22, .int b] (1, ch sa sb lt tt lg bc gi go sh bn sc rw dy pt (mh th ab be lgm ltm smm bs kd mo dr wa re lom him scm ou sr gim gom shm rwm dym ptm td tw R)) (.inl (some (.int (s_nb bs b))), (1, ch sa sb lt tt lg bc gi go sh bn sc rw dy pt (mh th ab be lgm ltm smm bs kd mo dr wa re lom him scm ou sr gim gom shm rwm dym ptm td tw R)), 0, 0) := by
  refine XM_of (by decide +kernel) (Nat.le_of_ble_eq_true rfl) (Or.inl rfl) ?_
  refine J_iload_n d_Mo_noBin_0 rfl rfl ?_
  refine J_if_lt (tgt := 12) d_Mo_noBin_1 (by decide) (fun c1 => ?_) (fun c1 => ?_)
  · skip
    refine J_iconst (v := 1) d_Mo_noBin_12 (by decide) ?_
    refine J_goto (tgt := 17) d_Mo_noBin_13 (by decide) ?_
    exact J_zreturn d_Mo_noBin_17 rfl rfl (by simp only [s_nb, c1, Classical.not_not, if_true, if_false, not_true_eq_false, not_false_eq_true, and_true, true_and, and_false, false_and, or_true, true_or, or_false, false_or, and_self, or_self])
  · skip
    refine J_iload_n d_Mo_noBin_4 rfl rfl ?_
    refine J_aload_n d_Mo_noBin_5 rfl rfl ?_
    refine J_get d_Mo_noBin_6 xf_Mo_66 rfl rfl ?_
    refine J_icmp_lt (tgt := 16) d_Mo_noBin_9 (by decide) (fun c9 => ?_) (fun c9 => ?_)
    · skip
      refine J_iconst (v := 0) d_Mo_noBin_16 (by decide) ?_
      exact J_zreturn d_Mo_noBin_17 rfl rfl (by simp only [s_nb, c1, c9, Classical.not_not, if_true, if_false, not_true_eq_false, not_false_eq_true, and_true, true_and, and_false, false_and, or_true, true_or, or_false, false_or, and_self, or_self])
    · skip
      refine J_iconst (v := 1) d_Mo_noBin_12 (by decide) ?_
      refine J_goto (tgt := 17) d_Mo_noBin_13 (by decide) ?_
      exact J_zreturn d_Mo_noBin_17 rfl rfl (by simp only [s_nb, c1, c9, Classical.not_not, if_true, if_false, not_true_eq_false, not_false_eq_true, and_true, true_and, and_false, false_and, or_true, true_or, or_false, false_or, and_self, or_self])
set_option maxHeartbeats 4000000 in
set_option maxRecDepth 100000 in
theorem n_thrown  : XM G Y_Mo_thrown [.ref 22] (1, ch sa sb lt tt lg bc gi go sh bn sc rw dy pt (mh th ab be lgm ltm smm bs kd mo dr wa re lom him scm ou sr gim gom shm rwm dym ptm td tw R)) (.inl (some (.int th)), (1, ch sa sb lt tt lg bc gi go sh bn sc rw dy pt (mh th ab be lgm ltm smm bs kd mo dr wa re lom him scm ou sr gim gom shm rwm dym ptm td tw R)), 0, 0) := by
  refine XM_of (by decide +kernel) (Nat.le_of_ble_eq_true rfl) (Or.inl rfl) ?_
  refine J_aload_n d_Mo_thrown_0 rfl rfl ?_
  refine J_get d_Mo_thrown_1 xf_Mo_62 rfl rfl ?_
  exact J_ireturn d_Mo_thrown_4 rfl rfl
set_option maxHeartbeats 4000000 in
set_option maxRecDepth 100000 in
theorem n_isPoured {h : List va_E} {k w : Int32} : XM G Y_Mo_isPoured [.int k, .int w] (1, h) (.inl (some (.int (s_ip k w))), (1, h), 0, 0) := by
  refine XM_of (by decide +kernel) (Nat.le_of_ble_eq_true rfl) (Or.inl rfl) ?_
  refine J_iload_n d_Mo_isPoured_0 rfl rfl ?_
  refine J_i2l d_Mo_isPoured_1 ?_
  refine J_lconst (v := 0) d_Mo_isPoured_2 (by decide) ?_
  refine J_ldc2_w d_Mo_isPoured_3 xj_Mo_84 ?_
  refine J_callP (xGo_s3 d_Mo_isPoured_6 xc_Mo_71) ⟨xq_Mo_isIn.1, xq_Mo_isIn.2.1⟩ ⟨Nat.le_of_ble_eq_true rfl, Nat.le_of_ble_eq_true rfl, Nat.le_of_ble_eq_true rfl, Nat.le_of_ble_eq_true rfl⟩ (Nat.le_of_ble_eq_true rfl) n_isIn ?_
  refine J_if_eq (tgt := 28) d_Mo_isPoured_9 (by decide) (fun c9 => ?_) (fun c9 => ?_)
  · skip
    refine J_iconst (v := 0) d_Mo_isPoured_28 (by decide) ?_
    exact J_zreturn d_Mo_isPoured_29 rfl rfl (by simp only [s_ip, c9, Classical.not_not, if_true, if_false, not_true_eq_false, not_false_eq_true, and_true, true_and, and_false, false_and, or_true, true_or, or_false, false_or, and_self, or_self])
  · skip
    refine J_iload_n d_Mo_isPoured_12 rfl rfl ?_
    refine J_i2l d_Mo_isPoured_13 ?_
    refine J_lconst (v := 0) d_Mo_isPoured_14 (by decide) ?_
    refine J_ldc2_w d_Mo_isPoured_15 xj_Mo_75 ?_
    refine J_callP (xGo_s3 d_Mo_isPoured_18 xc_Mo_71) ⟨xq_Mo_isIn.1, xq_Mo_isIn.2.1⟩ ⟨Nat.le_of_ble_eq_true rfl, Nat.le_of_ble_eq_true rfl, Nat.le_of_ble_eq_true rfl, Nat.le_of_ble_eq_true rfl⟩ (Nat.le_of_ble_eq_true rfl) n_isIn ?_
    refine J_if_eq (tgt := 28) d_Mo_isPoured_21 (by decide) (fun c21 => ?_) (fun c21 => ?_)
    · skip
      refine J_iconst (v := 0) d_Mo_isPoured_28 (by decide) ?_
      exact J_zreturn d_Mo_isPoured_29 rfl rfl (by simp only [s_ip, c9, c21, Classical.not_not, if_true, if_false, not_true_eq_false, not_false_eq_true, and_true, true_and, and_false, false_and, or_true, true_or, or_false, false_or, and_self, or_self])
    · skip
      refine J_iconst (v := 1) d_Mo_isPoured_24 (by decide) ?_
      refine J_goto (tgt := 29) d_Mo_isPoured_25 (by decide) ?_
      exact J_zreturn d_Mo_isPoured_29 rfl rfl (by simp only [s_ip, c9, c21, Classical.not_not, if_true, if_false, not_true_eq_false, not_false_eq_true, and_true, true_and, and_false, false_and, or_true, true_or, or_false, false_or, and_self, or_self])
set_option maxHeartbeats 4000000 in
set_option maxRecDepth 100000 in
theorem n_all {b : Int32} (hG : gTok G) (hv : vp_in b 8) : XM G Y_Mo_all [.ref 22, .int b] (1, ch sa sb lt tt lg bc gi go sh bn sc rw dy pt (mh th ab be lgm ltm smm bs kd mo dr wa re lom him scm ou sr gim gom shm rwm dym ptm td tw R)) (.inl (some (.long (s_al dr wa b))), (1, ch sa sb lt tt lg bc gi go sh bn sc rw dy pt (mh th ab be lgm ltm smm bs kd mo dr wa re lom him scm ou sr gim gom shm rwm dym ptm td tw R)), 0, 0) := by
  refine XM_of (by decide +kernel) (Nat.le_of_ble_eq_true rfl) (Or.inl rfl) ?_
  refine J_aload_n d_Mo_all_0 rfl rfl ?_
  refine J_get d_Mo_all_1 xf_Mo_29 rfl rfl ?_
  refine J_iload_n d_Mo_all_4 rfl rfl ?_
  refine J_lald d_Mo_all_5 (gt1 hG) rfl hv ?_
  refine J_aload_n d_Mo_all_6 rfl rfl ?_
  refine J_get d_Mo_all_7 xf_Mo_32 rfl rfl ?_
  refine J_iload_n d_Mo_all_10 rfl rfl ?_
  refine J_lald d_Mo_all_11 (gt1 hG) rfl hv ?_
  refine J_ladd d_Mo_all_12 ?_
  exact J_lreturn d_Mo_all_13 rfl rfl
set_option maxHeartbeats 4000000 in
set_option maxRecDepth 100000 in
theorem n_hasRoom {b : Int32} {k : Int64} (hG : gTok G) (hv : vp_in b 8) : XM G Y_Mo_hasRoom [.ref 22, .int b, .long k] (1, ch sa sb lt tt lg bc gi go sh bn sc rw dy pt (mh th ab be lgm ltm smm bs kd mo dr wa re lom him scm ou sr gim gom shm rwm dym ptm td tw R)) (.inl (some (.int (s_mr mo dr wa b k))), (1, ch sa sb lt tt lg bc gi go sh bn sc rw dy pt (mh th ab be lgm ltm smm bs kd mo dr wa re lom him scm ou sr gim gom shm rwm dym ptm td tw R)), 0, 0) := by
  refine XM_of (by decide +kernel) (Nat.le_of_ble_eq_true rfl) (Or.inl rfl) ?_
  refine J_aload_n d_Mo_hasRoom_0 rfl rfl ?_
  refine J_iload_n d_Mo_hasRoom_1 rfl rfl ?_
  refine J_callP (xGo_v1 d_Mo_hasRoom_2 xc_Mo_86 rfl rfl rfl) ⟨xq_Mo_all.1, xq_Mo_all.2.1⟩ ⟨Nat.le_of_ble_eq_true rfl, Nat.le_of_ble_eq_true rfl, Nat.le_of_ble_eq_true rfl, Nat.le_of_ble_eq_true rfl⟩ (Nat.le_of_ble_eq_true rfl) (n_all hG hv) ?_
  refine J_ldc2_w d_Mo_hasRoom_5 xj_Mo_75 ?_
  refine J_lload_n d_Mo_hasRoom_8 rfl rfl ?_
  refine J_lmul d_Mo_hasRoom_9 ?_
  refine J_ladd d_Mo_hasRoom_10 ?_
  refine J_ldc2_w d_Mo_hasRoom_11 xj_Mo_75 ?_
  refine J_aload_n d_Mo_hasRoom_14 rfl rfl ?_
  refine J_get d_Mo_hasRoom_15 xf_Mo_26 rfl rfl ?_
  refine J_iload_n d_Mo_hasRoom_18 rfl rfl ?_
  refine J_lald d_Mo_hasRoom_19 (gt1 hG) rfl hv ?_
  refine J_lmul d_Mo_hasRoom_20 ?_
  refine J_lcmp d_Mo_hasRoom_21 ?_
  refine J_lif_gt (tgt := 29) d_Mo_hasRoom_22 (by decide) (fun c22 => ?_) (fun c22 => ?_)
  · skip
    refine J_iconst (v := 0) d_Mo_hasRoom_29 (by decide) ?_
    exact J_zreturn d_Mo_hasRoom_30 rfl rfl (by simp only [s_mr, c22, Classical.not_not, if_true, if_false, not_true_eq_false, not_false_eq_true, and_true, true_and, and_false, false_and, or_true, true_or, or_false, false_or, and_self, or_self])
  · skip
    refine J_iconst (v := 1) d_Mo_hasRoom_25 (by decide) ?_
    refine J_goto (tgt := 30) d_Mo_hasRoom_26 (by decide) ?_
    exact J_zreturn d_Mo_hasRoom_30 rfl rfl (by simp only [s_mr, c22, Classical.not_not, if_true, if_false, not_true_eq_false, not_false_eq_true, and_true, true_and, and_false, false_and, or_true, true_or, or_false, false_or, and_self, or_self])
set_option maxHeartbeats 4000000 in
set_option maxRecDepth 100000 in
theorem n_add {b w : Int32} {k : Int64} (hG : gTok G) (hv : vp_in b 8) : XM G Y_Mo_add [.ref 22, .int b, .long k, .int w] (1, ch sa sb lt tt lg bc gi go sh bn sc rw dy pt (mh th ab be lgm ltm smm bs kd mo dr wa re lom him scm ou sr gim gom shm rwm dym ptm td tw R)) (.inl (none), (0, ch sa sb lt tt lg bc gi go sh bn sc rw dy pt (mh th ab be lgm ltm smm bs kd mo (vp_updL dr b.toNatClampNeg (dr b.toNatClampNeg + k * (1000 - w).toInt64)) (vp_updL wa b.toNatClampNeg (wa b.toNatClampNeg + k * w.toInt64)) re lom him scm ou sr (gim + 1000 * k) gom shm rwm dym ptm td tw R)), 0, 0) := by
  refine XM_of (by decide +kernel) (Nat.le_of_ble_eq_true rfl) (Or.inl rfl) ?_
  refine J_aload_n d_Mo_add_0 rfl rfl ?_
  refine J_get d_Mo_add_1 xf_Mo_32 rfl rfl ?_
  refine J_iload_n d_Mo_add_4 rfl rfl ?_
  refine J_aload_n d_Mo_add_5 rfl rfl ?_
  refine J_get d_Mo_add_6 xf_Mo_32 rfl rfl ?_
  refine J_iload_n d_Mo_add_9 rfl rfl ?_
  refine J_lald d_Mo_add_10 (gt1 hG) rfl hv ?_
  refine J_lload_n d_Mo_add_11 rfl rfl ?_
  refine J_iload d_Mo_add_12 rfl ?_
  refine J_i2l d_Mo_add_14 ?_
  refine J_lmul d_Mo_add_15 ?_
  refine J_ladd d_Mo_add_16 ?_
  refine J_last d_Mo_add_17 (gt1 hG) rfl hv ?_
  refine J_aload_n d_Mo_add_18 rfl rfl ?_
  refine J_get d_Mo_add_19 xf_Mo_29 rfl rfl ?_
  refine J_iload_n d_Mo_add_22 rfl rfl ?_
  refine J_aload_n d_Mo_add_23 rfl rfl ?_
  refine J_get d_Mo_add_24 xf_Mo_29 rfl rfl ?_
  refine J_iload_n d_Mo_add_27 rfl rfl ?_
  refine J_lald d_Mo_add_28 (gt1 hG) rfl hv ?_
  refine J_lload_n d_Mo_add_29 rfl rfl ?_
  refine J_sipush (v := 1000) d_Mo_add_30 (by decide) ?_
  refine J_iload d_Mo_add_33 rfl ?_
  refine J_isub d_Mo_add_35 ?_
  refine J_i2l d_Mo_add_36 ?_
  refine J_lmul d_Mo_add_37 ?_
  refine J_ladd d_Mo_add_38 ?_
  refine J_last d_Mo_add_39 (gt1 hG) rfl hv ?_
  refine J_aload_n d_Mo_add_40 rfl rfl ?_
  refine J_aload_n d_Mo_add_41 rfl rfl ?_
  refine J_get d_Mo_add_42 xf_Mo_90 rfl rfl ?_
  refine J_ldc2_w d_Mo_add_45 xj_Mo_75 ?_
  refine J_lload_n d_Mo_add_48 rfl rfl ?_
  refine J_lmul d_Mo_add_49 ?_
  refine J_ladd d_Mo_add_50 ?_
  refine J_put d_Mo_add_51 xf_Mo_90 xt_Mo (fun _ _ _ h => by cases h; rfl) rfl rfl rfl (Nat.le_of_ble_eq_true rfl) ?_
  exact J_return d_Mo_add_54 rfl rfl
set_option maxHeartbeats 4000000 in
set_option maxRecDepth 100000 in
theorem n_has {b k : Int32} (hG : gTok G) (hv : vp_in b 8) : XM G Y_Mo_has [.ref 22, .int b, .int k] (1, ch sa sb lt tt lg bc gi go sh bn sc rw dy pt (mh th ab be lgm ltm smm bs kd mo dr wa re lom him scm ou sr gim gom shm rwm dym ptm td tw R)) (.inl (some (.int (s_ha dr wa b k))), (1, ch sa sb lt tt lg bc gi go sh bn sc rw dy pt (mh th ab be lgm ltm smm bs kd mo dr wa re lom him scm ou sr gim gom shm rwm dym ptm td tw R)), 0, 0) := by
  refine XM_of (by decide +kernel) (Nat.le_of_ble_eq_true rfl) (Or.inl rfl) ?_
  refine J_aload_n d_Mo_has_0 rfl rfl ?_
  refine J_iload_n d_Mo_has_1 rfl rfl ?_
  refine J_callP (xGo_v1 d_Mo_has_2 xc_Mo_86 rfl rfl rfl) ⟨xq_Mo_all.1, xq_Mo_all.2.1⟩ ⟨Nat.le_of_ble_eq_true rfl, Nat.le_of_ble_eq_true rfl, Nat.le_of_ble_eq_true rfl, Nat.le_of_ble_eq_true rfl⟩ (Nat.le_of_ble_eq_true rfl) (n_all hG hv) ?_
  refine J_ldc2_w d_Mo_has_5 xj_Mo_75 ?_
  refine J_iload_n d_Mo_has_8 rfl rfl ?_
  refine J_i2l d_Mo_has_9 ?_
  refine J_lmul d_Mo_has_10 ?_
  refine J_lcmp d_Mo_has_11 ?_
  refine J_lif_lt (tgt := 19) d_Mo_has_12 (by decide) (fun c12 => ?_) (fun c12 => ?_)
  · skip
    refine J_iconst (v := 0) d_Mo_has_19 (by decide) ?_
    exact J_zreturn d_Mo_has_20 rfl rfl (by simp only [s_ha, c12, Classical.not_not, if_true, if_false, not_true_eq_false, not_false_eq_true, and_true, true_and, and_false, false_and, or_true, true_or, or_false, false_or, and_self, or_self])
  · skip
    refine J_iconst (v := 1) d_Mo_has_15 (by decide) ?_
    refine J_goto (tgt := 20) d_Mo_has_16 (by decide) ?_
    exact J_zreturn d_Mo_has_20 rfl rfl (by simp only [s_ha, c12, Classical.not_not, if_true, if_false, not_true_eq_false, not_false_eq_true, and_true, true_and, and_false, false_and, or_true, true_or, or_false, false_or, and_self, or_self])
set_option maxHeartbeats 4000000 in
set_option maxRecDepth 100000 in
theorem n_take {b k : Int32} (hG : gTok G) (hv : vp_in b 8) (hz : ¬ s_al dr wa b = 0) : XM G Y_Mo_take [.ref 22, .int b, .int k] (1, ch sa sb lt tt lg bc gi go sh bn sc rw dy pt (mh th ab be lgm ltm smm bs kd mo dr wa re lom him scm ou sr gim gom shm rwm dym ptm td tw R)) (.inl (none), (0, ch sa sb lt tt lg bc gi go sh bn sc rw dy pt (mh th ab be lgm ltm smm bs kd mo dr wa re lom him scm ou sr gim gom shm rwm dym ptm (1000 * k.toInt64 - wa b.toNatClampNeg * (1000 * k.toInt64) / s_al dr wa b) (wa b.toNatClampNeg * (1000 * k.toInt64) / s_al dr wa b) R)), 0, 0) := by
  refine XM_of (by decide +kernel) (Nat.le_of_ble_eq_true rfl) (Or.inl rfl) ?_
  refine J_ldc2_w d_Mo_take_0 xj_Mo_75 ?_
  refine J_iload_n d_Mo_take_3 rfl rfl ?_
  refine J_i2l d_Mo_take_4 ?_
  refine J_lmul d_Mo_take_5 ?_
  refine J_lstore_n d_Mo_take_6 rfl (by decide) ?_
  refine J_aload_n d_Mo_take_7 rfl rfl ?_
  refine J_aload_n d_Mo_take_8 rfl rfl ?_
  refine J_get d_Mo_take_9 xf_Mo_32 rfl rfl ?_
  refine J_iload_n d_Mo_take_12 rfl rfl ?_
  refine J_lald d_Mo_take_13 (gt1 hG) rfl hv ?_
  refine J_lload_n d_Mo_take_14 rfl rfl ?_
  refine J_lmul d_Mo_take_15 ?_
  refine J_aload_n d_Mo_take_16 rfl rfl ?_
  refine J_iload_n d_Mo_take_17 rfl rfl ?_
  refine J_callP (xGo_v1 d_Mo_take_18 xc_Mo_86 rfl rfl rfl) ⟨xq_Mo_all.1, xq_Mo_all.2.1⟩ ⟨Nat.le_of_ble_eq_true rfl, Nat.le_of_ble_eq_true rfl, Nat.le_of_ble_eq_true rfl, Nat.le_of_ble_eq_true rfl⟩ (Nat.le_of_ble_eq_true rfl) (n_all hG hv) ?_
  refine J_ldiv d_Mo_take_21 hz ?_
  refine J_put d_Mo_take_22 xf_Mo_135 xt_Mo (fun _ _ _ h => by cases h; rfl) rfl rfl rfl (Nat.le_of_ble_eq_true rfl) ?_
  refine J_aload_n d_Mo_take_25 rfl rfl ?_
  refine J_lload_n d_Mo_take_26 rfl rfl ?_
  refine J_aload_n d_Mo_take_27 rfl rfl ?_
  refine J_get d_Mo_take_28 xf_Mo_135 rfl rfl ?_
  refine J_lsub d_Mo_take_31 ?_
  refine J_put d_Mo_take_32 xf_Mo_138 xt_Mo (fun _ _ _ h => by cases h; rfl) rfl rfl rfl (Nat.le_of_ble_eq_true rfl) ?_
  exact J_return d_Mo_take_35 rfl rfl
set_option maxHeartbeats 4000000 in
set_option maxRecDepth 100000 in
theorem n_goes {b : Int32} (hG : gTok G) (hv : vp_in b 8) : XM G Y_Mo_goes [.ref 22, .int b] (1, ch sa sb lt tt lg bc gi go sh bn sc rw dy pt (mh th ab be lgm ltm smm bs kd mo dr wa re lom him scm ou sr gim gom shm rwm dym ptm td tw R)) (.inl (none), (0, ch sa sb lt tt lg bc gi go sh bn sc rw dy pt (mh th ab be lgm ltm smm bs kd mo (vp_updL dr b.toNatClampNeg (dr b.toNatClampNeg - td)) (vp_updL wa b.toNatClampNeg (wa b.toNatClampNeg - tw)) re lom him scm ou sr gim (gom + td + tw) shm rwm dym ptm td tw R)), 0, 0) := by
  refine XM_of (by decide +kernel) (Nat.le_of_ble_eq_true rfl) (Or.inl rfl) ?_
  refine J_aload_n d_Mo_goes_0 rfl rfl ?_
  refine J_get d_Mo_goes_1 xf_Mo_32 rfl rfl ?_
  refine J_iload_n d_Mo_goes_4 rfl rfl ?_
  refine J_aload_n d_Mo_goes_5 rfl rfl ?_
  refine J_get d_Mo_goes_6 xf_Mo_32 rfl rfl ?_
  refine J_iload_n d_Mo_goes_9 rfl rfl ?_
  refine J_lald d_Mo_goes_10 (gt1 hG) rfl hv ?_
  refine J_aload_n d_Mo_goes_11 rfl rfl ?_
  refine J_get d_Mo_goes_12 xf_Mo_135 rfl rfl ?_
  refine J_lsub d_Mo_goes_15 ?_
  refine J_last d_Mo_goes_16 (gt1 hG) rfl hv ?_
  refine J_aload_n d_Mo_goes_17 rfl rfl ?_
  refine J_get d_Mo_goes_18 xf_Mo_29 rfl rfl ?_
  refine J_iload_n d_Mo_goes_21 rfl rfl ?_
  refine J_aload_n d_Mo_goes_22 rfl rfl ?_
  refine J_get d_Mo_goes_23 xf_Mo_29 rfl rfl ?_
  refine J_iload_n d_Mo_goes_26 rfl rfl ?_
  refine J_lald d_Mo_goes_27 (gt1 hG) rfl hv ?_
  refine J_aload_n d_Mo_goes_28 rfl rfl ?_
  refine J_get d_Mo_goes_29 xf_Mo_138 rfl rfl ?_
  refine J_lsub d_Mo_goes_32 ?_
  refine J_last d_Mo_goes_33 (gt1 hG) rfl hv ?_
  refine J_aload_n d_Mo_goes_34 rfl rfl ?_
  refine J_aload_n d_Mo_goes_35 rfl rfl ?_
  refine J_get d_Mo_goes_36 xf_Mo_122 rfl rfl ?_
  refine J_aload_n d_Mo_goes_39 rfl rfl ?_
  refine J_get d_Mo_goes_40 xf_Mo_138 rfl rfl ?_
  refine J_ladd d_Mo_goes_43 ?_
  refine J_aload_n d_Mo_goes_44 rfl rfl ?_
  refine J_get d_Mo_goes_45 xf_Mo_135 rfl rfl ?_
  refine J_ladd d_Mo_goes_48 ?_
  refine J_put d_Mo_goes_49 xf_Mo_122 xt_Mo (fun _ _ _ h => by cases h; rfl) rfl rfl rfl (Nat.le_of_ble_eq_true rfl) ?_
  exact J_return d_Mo_goes_52 rfl rfl
set_option maxHeartbeats 4000000 in
set_option maxRecDepth 100000 in
theorem n_share {t a b : Int32} (hG : gTok G) : XM G Y_Mo_share [.ref 22, .int t, .int a, .int b] (1, ch sa sb lt tt lg bc gi go sh bn sc rw dy pt (mh th ab be lgm ltm smm bs kd mo dr wa re lom him scm ou sr gim gom shm rwm dym ptm td tw R)) (xif (¬ t < 0 ∧ t ≤ 1) (xif (¬ s_in b.toInt64 1 10 = 0 ∧ ¬ s_in a.toInt64 0 b.toInt64 = 0) (.inl (none), (0, ch sa sb lt tt lg bc gi go sh bn sc rw dy pt (mh (0) (upd ab t.toNatClampNeg a) (upd be t.toNatClampNeg b) lgm ltm smm bs kd mo dr wa re lom him scm ou sr gim gom shm rwm dym ptm td tw R)), 0, 0) (.inl (none), (0, ch sa sb lt tt lg bc gi go sh bn sc rw dy pt (mh (2) ab be lgm ltm smm bs kd mo dr wa re lom him scm ou sr gim gom shm rwm dym ptm td tw R)), 0, 0)) (.inl (none), (0, ch sa sb lt tt lg bc gi go sh bn sc rw dy pt (mh (1) ab be lgm ltm smm bs kd mo dr wa re lom him scm ou sr gim gom shm rwm dym ptm td tw R)), 0, 0)) := by
  refine XM_of (by decide +kernel) (Nat.le_of_ble_eq_true rfl) (Or.inl rfl) ?_
  refine J_aload_n d_Mo_share_0 rfl rfl ?_
  refine J_iload_n d_Mo_share_1 rfl rfl ?_
  refine J_if_lt (tgt := 10) d_Mo_share_2 (by decide) (fun c2 => ?_) (fun c2 => ?_)
  · skip
    refine J_iconst (v := 1) d_Mo_share_10 (by decide) ?_
    refine J_goto (tgt := 42) d_Mo_share_11 (by decide) ?_
    refine J_put d_Mo_share_42 xf_Mo_62 xt_Mo (fun _ _ _ h => by cases h; rfl) rfl rfl rfl (Nat.le_of_ble_eq_true rfl) ?_
    refine J_aload_n d_Mo_share_45 rfl rfl ?_
    refine J_get d_Mo_share_46 xf_Mo_62 rfl rfl ?_
    refine J_if_ne (tgt := 66) d_Mo_share_49 (by decide) (fun _ => ?_) (fun q => absurd (by decide) q)
    exact J_return d_Mo_share_66 rfl (by simp only [xif, c2, Classical.not_not, if_true, if_false, not_true_eq_false, not_false_eq_true, and_true, true_and, and_false, false_and, or_true, true_or, or_false, false_or, and_self, or_self] <;> rfl)
  · skip
    refine J_iload_n d_Mo_share_5 rfl rfl ?_
    refine J_iconst (v := 1) d_Mo_share_6 (by decide) ?_
    refine J_icmp_le (tgt := 14) d_Mo_share_7 (by decide) (fun c7 => ?_) (fun c7 => ?_)
    · skip
      refine J_iload_n d_Mo_share_14 rfl rfl ?_
      refine J_i2l d_Mo_share_15 ?_
      refine J_lconst (v := 1) d_Mo_share_16 (by decide) ?_
      refine J_ldc2_w d_Mo_share_17 xj_Mo_69 ?_
      refine J_callP (xGo_s3 d_Mo_share_20 xc_Mo_71) ⟨xq_Mo_isIn.1, xq_Mo_isIn.2.1⟩ ⟨Nat.le_of_ble_eq_true rfl, Nat.le_of_ble_eq_true rfl, Nat.le_of_ble_eq_true rfl, Nat.le_of_ble_eq_true rfl⟩ (Nat.le_of_ble_eq_true rfl) n_isIn ?_
      refine J_if_eq (tgt := 41) d_Mo_share_23 (by decide) (fun c23 => ?_) (fun c23 => ?_)
      · skip
        refine J_iconst (v := 2) d_Mo_share_41 (by decide) ?_
        refine J_put d_Mo_share_42 xf_Mo_62 xt_Mo (fun _ _ _ h => by cases h; rfl) rfl rfl rfl (Nat.le_of_ble_eq_true rfl) ?_
        refine J_aload_n d_Mo_share_45 rfl rfl ?_
        refine J_get d_Mo_share_46 xf_Mo_62 rfl rfl ?_
        refine J_if_ne (tgt := 66) d_Mo_share_49 (by decide) (fun _ => ?_) (fun q => absurd (by decide) q)
        exact J_return d_Mo_share_66 rfl (by simp only [xif, c2, c7, c23, Classical.not_not, if_true, if_false, not_true_eq_false, not_false_eq_true, and_true, true_and, and_false, false_and, or_true, true_or, or_false, false_or, and_self, or_self] <;> rfl)
      · skip
        refine J_iload_n d_Mo_share_26 rfl rfl ?_
        refine J_i2l d_Mo_share_27 ?_
        refine J_lconst (v := 0) d_Mo_share_28 (by decide) ?_
        refine J_iload_n d_Mo_share_29 rfl rfl ?_
        refine J_i2l d_Mo_share_30 ?_
        refine J_callP (xGo_s3 d_Mo_share_31 xc_Mo_71) ⟨xq_Mo_isIn.1, xq_Mo_isIn.2.1⟩ ⟨Nat.le_of_ble_eq_true rfl, Nat.le_of_ble_eq_true rfl, Nat.le_of_ble_eq_true rfl, Nat.le_of_ble_eq_true rfl⟩ (Nat.le_of_ble_eq_true rfl) n_isIn ?_
        refine J_if_eq (tgt := 41) d_Mo_share_34 (by decide) (fun c34 => ?_) (fun c34 => ?_)
        · skip
          refine J_iconst (v := 2) d_Mo_share_41 (by decide) ?_
          refine J_put d_Mo_share_42 xf_Mo_62 xt_Mo (fun _ _ _ h => by cases h; rfl) rfl rfl rfl (Nat.le_of_ble_eq_true rfl) ?_
          refine J_aload_n d_Mo_share_45 rfl rfl ?_
          refine J_get d_Mo_share_46 xf_Mo_62 rfl rfl ?_
          refine J_if_ne (tgt := 66) d_Mo_share_49 (by decide) (fun _ => ?_) (fun q => absurd (by decide) q)
          exact J_return d_Mo_share_66 rfl (by simp only [xif, c2, c7, c23, c34, Classical.not_not, if_true, if_false, not_true_eq_false, not_false_eq_true, and_true, true_and, and_false, false_and, or_true, true_or, or_false, false_or, and_self, or_self] <;> rfl)
        · skip
          refine J_iconst (v := 0) d_Mo_share_37 (by decide) ?_
          refine J_goto (tgt := 42) d_Mo_share_38 (by decide) ?_
          refine J_put d_Mo_share_42 xf_Mo_62 xt_Mo (fun _ _ _ h => by cases h; rfl) rfl rfl rfl (Nat.le_of_ble_eq_true rfl) ?_
          refine J_aload_n d_Mo_share_45 rfl rfl ?_
          refine J_get d_Mo_share_46 xf_Mo_62 rfl rfl ?_
          refine J_if_ne (tgt := 66) d_Mo_share_49 (by decide) (fun q => absurd q (by decide)) (fun _ => ?_)
          refine J_aload_n d_Mo_share_52 rfl rfl ?_
          refine J_get d_Mo_share_53 xf_Mo_7 rfl rfl ?_
          refine J_iload_n d_Mo_share_56 rfl rfl ?_
          refine J_iload_n d_Mo_share_57 rfl rfl ?_
          refine J_iast d_Mo_share_58 (gt0 hG) rfl (ib2 c2 c7) ?_
          refine J_aload_n d_Mo_share_59 rfl rfl ?_
          refine J_get d_Mo_share_60 xf_Mo_13 rfl rfl ?_
          refine J_iload_n d_Mo_share_63 rfl rfl ?_
          refine J_iload_n d_Mo_share_64 rfl rfl ?_
          refine J_iast d_Mo_share_65 (gt0 hG) rfl (ib2 c2 c7) ?_
          exact J_return d_Mo_share_66 rfl (by simp only [xif, c2, c7, c23, c34, Classical.not_not, if_true, if_false, not_true_eq_false, not_false_eq_true, and_true, true_and, and_false, false_and, or_true, true_or, or_false, false_or, and_self, or_self] <;> rfl)
    · skip
      refine J_iconst (v := 1) d_Mo_share_10 (by decide) ?_
      refine J_goto (tgt := 42) d_Mo_share_11 (by decide) ?_
      refine J_put d_Mo_share_42 xf_Mo_62 xt_Mo (fun _ _ _ h => by cases h; rfl) rfl rfl rfl (Nat.le_of_ble_eq_true rfl) ?_
      refine J_aload_n d_Mo_share_45 rfl rfl ?_
      refine J_get d_Mo_share_46 xf_Mo_62 rfl rfl ?_
      refine J_if_ne (tgt := 66) d_Mo_share_49 (by decide) (fun _ => ?_) (fun q => absurd (by decide) q)
      exact J_return d_Mo_share_66 rfl (by simp only [xif, c2, c7, Classical.not_not, if_true, if_false, not_true_eq_false, not_false_eq_true, and_true, true_and, and_false, false_and, or_true, true_or, or_false, false_or, and_self, or_self] <;> rfl)
def s_kb (ab be : Nat → Int32) (v : Int32) : Int64 := 63504000 * v.toInt64 / (be 0).toInt64 * (ab 0).toInt64
def s_kl (ab be : Nat → Int32) (v b k : Int32) : Int64 := 63504000 * v.toInt64 - s_kb ab be v - 25200 * (b.toInt64 + k.toInt64)
def s_ko (ab be : Nat → Int32) (v b k : Int32) : Int64 := s_kl ab be v b k / (be 1).toInt64 * (ab 1).toInt64
def s_kt (ab be : Nat → Int32) (ltm : Nat → Int64) (v b k : Int32) : Nat → Int64 := vp_updL (vp_updL (vp_updL (vp_updL (vp_updL ltm 0 (s_kb ab be v)) 2 (25200 * k.toInt64)) 3 (s_ko ab be v b k)) 1 (s_kl ab be v b k - s_ko ab be v b k)) 4 (25200 * b.toInt64)
def s_ks (smm lt : Nat → Int64) : Nat → Int64 := vp_updL (vp_updL (vp_updL (vp_updL (vp_updL smm 0 (smm 0 + lt 0)) 1 (smm 1 + lt 1)) 2 (smm 2 + lt 2)) 3 (smm 3 + lt 3)) 4 (smm 4 + lt 4)
set_option maxHeartbeats 4000000 in
set_option maxRecDepth 100000 in
theorem n_log {v b k : Int32} (hG : gTok G) (h0 : ¬ (be 0).toInt64 = 0) (h1 : ¬ (be 1).toInt64 = 0) : XM G Y_Mo_log [.ref 22, .int v, .int b, .int k] (1, ch sa sb lt tt lg bc gi go sh bn sc rw dy pt (mh th ab be lgm ltm smm bs kd mo dr wa re lom him scm ou sr gim gom shm rwm dym ptm td tw R)) (xif (¬ s_in v.toInt64 1 1000 = 0 ∧ ¬ b < 0 ∧ ¬ k < 0) (xif (0 ≤ s_kl ab be v b k) (.inl (some (.int (lgm + 1 - 1))), (0, ch sa sb lt tt lg bc gi go sh bn sc rw dy pt (mh (0) ab be (lgm + 1) (s_kt ab be ltm v b k) (s_ks smm (s_kt ab be ltm v b k)) bs kd mo dr wa re lom him scm ou sr gim gom shm rwm dym ptm td tw R)), 0, 0) (.inl (some (.int 0)), (0, ch sa sb lt tt lg bc gi go sh bn sc rw dy pt (mh (1) ab be lgm ltm smm bs kd mo dr wa re lom him scm ou sr gim gom shm rwm dym ptm td tw R)), 0, 0)) (.inl (some (.int 0)), (0, ch sa sb lt tt lg bc gi go sh bn sc rw dy pt (mh (1) ab be lgm ltm smm bs kd mo dr wa re lom him scm ou sr gim gom shm rwm dym ptm td tw R)), 0, 0)) := by
  refine XM_of (by decide +kernel) (Nat.le_of_ble_eq_true rfl) (Or.inl rfl) ?_
  refine J_aload_n d_Mo_log_0 rfl rfl ?_
  refine J_iload_n d_Mo_log_1 rfl rfl ?_
  refine J_i2l d_Mo_log_2 ?_
  refine J_lconst (v := 1) d_Mo_log_3 (by decide) ?_
  refine J_ldc2_w d_Mo_log_4 xj_Mo_75 ?_
  refine J_callP (xGo_s3 d_Mo_log_7 xc_Mo_71) ⟨xq_Mo_isIn.1, xq_Mo_isIn.2.1⟩ ⟨Nat.le_of_ble_eq_true rfl, Nat.le_of_ble_eq_true rfl, Nat.le_of_ble_eq_true rfl, Nat.le_of_ble_eq_true rfl⟩ (Nat.le_of_ble_eq_true rfl) n_isIn ?_
  refine J_if_eq (tgt := 25) d_Mo_log_10 (by decide) (fun c10 => ?_) (fun c10 => ?_)
  · skip
    refine J_iconst (v := 1) d_Mo_log_25 (by decide) ?_
    refine J_put d_Mo_log_26 xf_Mo_62 xt_Mo (fun _ _ _ h => by cases h; rfl) rfl rfl rfl (Nat.le_of_ble_eq_true rfl) ?_
    refine J_aload_n d_Mo_log_29 rfl rfl ?_
    refine J_get d_Mo_log_30 xf_Mo_62 rfl rfl ?_
    refine J_if_le (tgt := 38) d_Mo_log_33 (by decide) (fun q => absurd q (by decide)) (fun _ => ?_)
    refine J_iconst (v := 0) d_Mo_log_36 (by decide) ?_
    exact J_ireturn d_Mo_log_37 rfl (by simp only [xif, c10, Classical.not_not, if_true, if_false, not_true_eq_false, not_false_eq_true, and_true, true_and, and_false, false_and, or_true, true_or, or_false, false_or, and_self, or_self] <;> rfl)
  · skip
    refine J_iload_n d_Mo_log_13 rfl rfl ?_
    refine J_if_lt (tgt := 25) d_Mo_log_14 (by decide) (fun c14 => ?_) (fun c14 => ?_)
    · skip
      refine J_iconst (v := 1) d_Mo_log_25 (by decide) ?_
      refine J_put d_Mo_log_26 xf_Mo_62 xt_Mo (fun _ _ _ h => by cases h; rfl) rfl rfl rfl (Nat.le_of_ble_eq_true rfl) ?_
      refine J_aload_n d_Mo_log_29 rfl rfl ?_
      refine J_get d_Mo_log_30 xf_Mo_62 rfl rfl ?_
      refine J_if_le (tgt := 38) d_Mo_log_33 (by decide) (fun q => absurd q (by decide)) (fun _ => ?_)
      refine J_iconst (v := 0) d_Mo_log_36 (by decide) ?_
      exact J_ireturn d_Mo_log_37 rfl (by simp only [xif, c10, c14, Classical.not_not, if_true, if_false, not_true_eq_false, not_false_eq_true, and_true, true_and, and_false, false_and, or_true, true_or, or_false, false_or, and_self, or_self] <;> rfl)
    · skip
      refine J_iload_n d_Mo_log_17 rfl rfl ?_
      refine J_if_lt (tgt := 25) d_Mo_log_18 (by decide) (fun c18 => ?_) (fun c18 => ?_)
      · skip
        refine J_iconst (v := 1) d_Mo_log_25 (by decide) ?_
        refine J_put d_Mo_log_26 xf_Mo_62 xt_Mo (fun _ _ _ h => by cases h; rfl) rfl rfl rfl (Nat.le_of_ble_eq_true rfl) ?_
        refine J_aload_n d_Mo_log_29 rfl rfl ?_
        refine J_get d_Mo_log_30 xf_Mo_62 rfl rfl ?_
        refine J_if_le (tgt := 38) d_Mo_log_33 (by decide) (fun q => absurd q (by decide)) (fun _ => ?_)
        refine J_iconst (v := 0) d_Mo_log_36 (by decide) ?_
        exact J_ireturn d_Mo_log_37 rfl (by simp only [xif, c10, c14, c18, Classical.not_not, if_true, if_false, not_true_eq_false, not_false_eq_true, and_true, true_and, and_false, false_and, or_true, true_or, or_false, false_or, and_self, or_self] <;> rfl)
      · skip
        refine J_iconst (v := 0) d_Mo_log_21 (by decide) ?_
        refine J_goto (tgt := 26) d_Mo_log_22 (by decide) ?_
        refine J_put d_Mo_log_26 xf_Mo_62 xt_Mo (fun _ _ _ h => by cases h; rfl) rfl rfl rfl (Nat.le_of_ble_eq_true rfl) ?_
        refine J_aload_n d_Mo_log_29 rfl rfl ?_
        refine J_get d_Mo_log_30 xf_Mo_62 rfl rfl ?_
        refine J_if_le (tgt := 38) d_Mo_log_33 (by decide) (fun _ => ?_) (fun q => absurd (by decide) q)
        refine J_ldc2_w d_Mo_log_38 xj_Mo_77 ?_
        refine J_iload_n d_Mo_log_41 rfl rfl ?_
        refine J_i2l d_Mo_log_42 ?_
        refine J_lmul d_Mo_log_43 ?_
        refine J_lstore d_Mo_log_44 (by decide) ?_
        refine J_lload d_Mo_log_46 rfl ?_
        refine J_aload_n d_Mo_log_48 rfl rfl ?_
        refine J_get d_Mo_log_49 xf_Mo_13 rfl rfl ?_
        refine J_iconst (v := 0) d_Mo_log_52 (by decide) ?_
        refine J_iald d_Mo_log_53 (gt0 hG) rfl (vp_in_nI (n := 0) (by decide) (by decide)) ?_
        refine J_i2l d_Mo_log_54 ?_
        refine J_ldiv d_Mo_log_55 h0 ?_
        refine J_aload_n d_Mo_log_56 rfl rfl ?_
        refine J_get d_Mo_log_57 xf_Mo_7 rfl rfl ?_
        refine J_iconst (v := 0) d_Mo_log_60 (by decide) ?_
        refine J_iald d_Mo_log_61 (gt0 hG) rfl (vp_in_nI (n := 0) (by decide) (by decide)) ?_
        refine J_i2l d_Mo_log_62 ?_
        refine J_lmul d_Mo_log_63 ?_
        refine J_lstore d_Mo_log_64 (by decide) ?_
        refine J_lload d_Mo_log_66 rfl ?_
        refine J_lload d_Mo_log_68 rfl ?_
        refine J_lsub d_Mo_log_70 ?_
        refine J_ldc2_w d_Mo_log_71 xj_Mo_79 ?_
        refine J_iload_n d_Mo_log_74 rfl rfl ?_
        refine J_i2l d_Mo_log_75 ?_
        refine J_iload_n d_Mo_log_76 rfl rfl ?_
        refine J_i2l d_Mo_log_77 ?_
        refine J_ladd d_Mo_log_78 ?_
        refine J_lmul d_Mo_log_79 ?_
        refine J_lsub d_Mo_log_80 ?_
        refine J_lstore d_Mo_log_81 (by decide) ?_
        refine J_lload d_Mo_log_83 rfl ?_
        refine J_lconst (v := 0) d_Mo_log_85 (by decide) ?_
        refine J_lcmp d_Mo_log_86 ?_
        refine J_lif_ge (tgt := 97) d_Mo_log_87 (by decide) (fun c87 => ?_) (fun c87 => ?_)
        · skip
          refine J_aload_n d_Mo_log_97 rfl rfl ?_
          refine J_get d_Mo_log_98 xf_Mo_16 rfl rfl ?_
          refine J_iconst (v := 0) d_Mo_log_101 (by decide) ?_
          refine J_lload d_Mo_log_102 rfl ?_
          refine J_last d_Mo_log_104 (gt1 hG) rfl (vp_in_nI (n := 0) (by decide) (by decide)) ?_
          refine J_aload_n d_Mo_log_105 rfl rfl ?_
          refine J_get d_Mo_log_106 xf_Mo_16 rfl rfl ?_
          refine J_iconst (v := 2) d_Mo_log_109 (by decide) ?_
          refine J_ldc2_w d_Mo_log_110 xj_Mo_79 ?_
          refine J_iload_n d_Mo_log_113 rfl rfl ?_
          refine J_i2l d_Mo_log_114 ?_
          refine J_lmul d_Mo_log_115 ?_
          refine J_last d_Mo_log_116 (gt1 hG) rfl (vp_in_nI (n := 2) (by decide) (by decide)) ?_
          refine J_aload_n d_Mo_log_117 rfl rfl ?_
          refine J_get d_Mo_log_118 xf_Mo_16 rfl rfl ?_
          refine J_iconst (v := 3) d_Mo_log_121 (by decide) ?_
          refine J_lload d_Mo_log_122 rfl ?_
          refine J_aload_n d_Mo_log_124 rfl rfl ?_
          refine J_get d_Mo_log_125 xf_Mo_13 rfl rfl ?_
          refine J_iconst (v := 1) d_Mo_log_128 (by decide) ?_
          refine J_iald d_Mo_log_129 (gt0 hG) rfl (vp_in_nI (n := 1) (by decide) (by decide)) ?_
          refine J_i2l d_Mo_log_130 ?_
          refine J_ldiv d_Mo_log_131 h1 ?_
          refine J_aload_n d_Mo_log_132 rfl rfl ?_
          refine J_get d_Mo_log_133 xf_Mo_7 rfl rfl ?_
          refine J_iconst (v := 1) d_Mo_log_136 (by decide) ?_
          refine J_iald d_Mo_log_137 (gt0 hG) rfl (vp_in_nI (n := 1) (by decide) (by decide)) ?_
          refine J_i2l d_Mo_log_138 ?_
          refine J_lmul d_Mo_log_139 ?_
          refine J_last d_Mo_log_140 (gt1 hG) rfl (vp_in_nI (n := 3) (by decide) (by decide)) ?_
          refine J_aload_n d_Mo_log_141 rfl rfl ?_
          refine J_get d_Mo_log_142 xf_Mo_16 rfl rfl ?_
          refine J_iconst (v := 1) d_Mo_log_145 (by decide) ?_
          refine J_lload d_Mo_log_146 rfl ?_
          refine J_aload_n d_Mo_log_148 rfl rfl ?_
          refine J_get d_Mo_log_149 xf_Mo_16 rfl rfl ?_
          refine J_iconst (v := 3) d_Mo_log_152 (by decide) ?_
          refine J_lald d_Mo_log_153 (gt1 hG) rfl (vp_in_nI (n := 3) (by decide) (by decide)) ?_
          refine J_lsub d_Mo_log_154 ?_
          refine J_last d_Mo_log_155 (gt1 hG) rfl (vp_in_nI (n := 1) (by decide) (by decide)) ?_
          refine J_aload_n d_Mo_log_156 rfl rfl ?_
          refine J_get d_Mo_log_157 xf_Mo_16 rfl rfl ?_
          refine J_iconst (v := 4) d_Mo_log_160 (by decide) ?_
          refine J_ldc2_w d_Mo_log_161 xj_Mo_79 ?_
          refine J_iload_n d_Mo_log_164 rfl rfl ?_
          refine J_i2l d_Mo_log_165 ?_
          refine J_lmul d_Mo_log_166 ?_
          refine J_last d_Mo_log_167 (gt1 hG) rfl (vp_in_nI (n := 4) (by decide) (by decide)) ?_
          refine J_iconst (v := 0) d_Mo_log_168 (by decide) ?_
          refine J_istore d_Mo_log_169 (by decide) ?_
          refine J_iload d_Mo_log_171 rfl ?_
          refine J_iconst (v := 5) d_Mo_log_173 (by decide) ?_
          refine J_icmp_ge (tgt := 205) d_Mo_log_174 (by decide) (fun q => absurd q (by decide)) (fun _ => ?_)
          refine J_aload_n d_Mo_log_177 rfl rfl ?_
          refine J_get d_Mo_log_178 xf_Mo_20 rfl rfl ?_
          refine J_iload d_Mo_log_181 rfl ?_
          refine J_aload_n d_Mo_log_183 rfl rfl ?_
          refine J_get d_Mo_log_184 xf_Mo_20 rfl rfl ?_
          refine J_iload d_Mo_log_187 rfl ?_
          refine J_lald d_Mo_log_189 (gt1 hG) rfl (vp_in_nI (n := 0) (by decide) (by decide)) ?_
          refine J_aload_n d_Mo_log_190 rfl rfl ?_
          refine J_get d_Mo_log_191 xf_Mo_16 rfl rfl ?_
          refine J_iload d_Mo_log_194 rfl ?_
          refine J_lald d_Mo_log_196 (gt1 hG) rfl (vp_in_nI (n := 0) (by decide) (by decide)) ?_
          refine J_ladd d_Mo_log_197 ?_
          refine J_last d_Mo_log_198 (gt1 hG) rfl (vp_in_nI (n := 0) (by decide) (by decide)) ?_
          refine J_iinc (v := 1) d_Mo_log_199 rfl (by decide) (by decide) ?_
          refine J_goto (tgt := 171) d_Mo_log_202 (by decide) ?_
          refine J_iload d_Mo_log_171 rfl ?_
          refine J_iconst (v := 5) d_Mo_log_173 (by decide) ?_
          refine J_icmp_ge (tgt := 205) d_Mo_log_174 (by decide) (fun q => absurd q (by decide)) (fun _ => ?_)
          refine J_aload_n d_Mo_log_177 rfl rfl ?_
          refine J_get d_Mo_log_178 xf_Mo_20 rfl rfl ?_
          refine J_iload d_Mo_log_181 rfl ?_
          refine J_aload_n d_Mo_log_183 rfl rfl ?_
          refine J_get d_Mo_log_184 xf_Mo_20 rfl rfl ?_
          refine J_iload d_Mo_log_187 rfl ?_
          refine J_lald d_Mo_log_189 (gt1 hG) rfl (vp_in_nI (n := 1) (by decide) (by decide)) ?_
          refine J_aload_n d_Mo_log_190 rfl rfl ?_
          refine J_get d_Mo_log_191 xf_Mo_16 rfl rfl ?_
          refine J_iload d_Mo_log_194 rfl ?_
          refine J_lald d_Mo_log_196 (gt1 hG) rfl (vp_in_nI (n := 1) (by decide) (by decide)) ?_
          refine J_ladd d_Mo_log_197 ?_
          refine J_last d_Mo_log_198 (gt1 hG) rfl (vp_in_nI (n := 1) (by decide) (by decide)) ?_
          refine J_iinc (v := 2) d_Mo_log_199 rfl (by decide) (by decide) ?_
          refine J_goto (tgt := 171) d_Mo_log_202 (by decide) ?_
          refine J_iload d_Mo_log_171 rfl ?_
          refine J_iconst (v := 5) d_Mo_log_173 (by decide) ?_
          refine J_icmp_ge (tgt := 205) d_Mo_log_174 (by decide) (fun q => absurd q (by decide)) (fun _ => ?_)
          refine J_aload_n d_Mo_log_177 rfl rfl ?_
          refine J_get d_Mo_log_178 xf_Mo_20 rfl rfl ?_
          refine J_iload d_Mo_log_181 rfl ?_
          refine J_aload_n d_Mo_log_183 rfl rfl ?_
          refine J_get d_Mo_log_184 xf_Mo_20 rfl rfl ?_
          refine J_iload d_Mo_log_187 rfl ?_
          refine J_lald d_Mo_log_189 (gt1 hG) rfl (vp_in_nI (n := 2) (by decide) (by decide)) ?_
          refine J_aload_n d_Mo_log_190 rfl rfl ?_
          refine J_get d_Mo_log_191 xf_Mo_16 rfl rfl ?_
          refine J_iload d_Mo_log_194 rfl ?_
          refine J_lald d_Mo_log_196 (gt1 hG) rfl (vp_in_nI (n := 2) (by decide) (by decide)) ?_
          refine J_ladd d_Mo_log_197 ?_
          refine J_last d_Mo_log_198 (gt1 hG) rfl (vp_in_nI (n := 2) (by decide) (by decide)) ?_
          refine J_iinc (v := 3) d_Mo_log_199 rfl (by decide) (by decide) ?_
          refine J_goto (tgt := 171) d_Mo_log_202 (by decide) ?_
          refine J_iload d_Mo_log_171 rfl ?_
          refine J_iconst (v := 5) d_Mo_log_173 (by decide) ?_
          refine J_icmp_ge (tgt := 205) d_Mo_log_174 (by decide) (fun q => absurd q (by decide)) (fun _ => ?_)
          refine J_aload_n d_Mo_log_177 rfl rfl ?_
          refine J_get d_Mo_log_178 xf_Mo_20 rfl rfl ?_
          refine J_iload d_Mo_log_181 rfl ?_
          refine J_aload_n d_Mo_log_183 rfl rfl ?_
          refine J_get d_Mo_log_184 xf_Mo_20 rfl rfl ?_
          refine J_iload d_Mo_log_187 rfl ?_
          refine J_lald d_Mo_log_189 (gt1 hG) rfl (vp_in_nI (n := 3) (by decide) (by decide)) ?_
          refine J_aload_n d_Mo_log_190 rfl rfl ?_
          refine J_get d_Mo_log_191 xf_Mo_16 rfl rfl ?_
          refine J_iload d_Mo_log_194 rfl ?_
          refine J_lald d_Mo_log_196 (gt1 hG) rfl (vp_in_nI (n := 3) (by decide) (by decide)) ?_
          refine J_ladd d_Mo_log_197 ?_
          refine J_last d_Mo_log_198 (gt1 hG) rfl (vp_in_nI (n := 3) (by decide) (by decide)) ?_
          refine J_iinc (v := 4) d_Mo_log_199 rfl (by decide) (by decide) ?_
          refine J_goto (tgt := 171) d_Mo_log_202 (by decide) ?_
          refine J_iload d_Mo_log_171 rfl ?_
          refine J_iconst (v := 5) d_Mo_log_173 (by decide) ?_
          refine J_icmp_ge (tgt := 205) d_Mo_log_174 (by decide) (fun q => absurd q (by decide)) (fun _ => ?_)
          refine J_aload_n d_Mo_log_177 rfl rfl ?_
          refine J_get d_Mo_log_178 xf_Mo_20 rfl rfl ?_
          refine J_iload d_Mo_log_181 rfl ?_
          refine J_aload_n d_Mo_log_183 rfl rfl ?_
          refine J_get d_Mo_log_184 xf_Mo_20 rfl rfl ?_
          refine J_iload d_Mo_log_187 rfl ?_
          refine J_lald d_Mo_log_189 (gt1 hG) rfl (vp_in_nI (n := 4) (by decide) (by decide)) ?_
          refine J_aload_n d_Mo_log_190 rfl rfl ?_
          refine J_get d_Mo_log_191 xf_Mo_16 rfl rfl ?_
          refine J_iload d_Mo_log_194 rfl ?_
          refine J_lald d_Mo_log_196 (gt1 hG) rfl (vp_in_nI (n := 4) (by decide) (by decide)) ?_
          refine J_ladd d_Mo_log_197 ?_
          refine J_last d_Mo_log_198 (gt1 hG) rfl (vp_in_nI (n := 4) (by decide) (by decide)) ?_
          refine J_iinc (v := 5) d_Mo_log_199 rfl (by decide) (by decide) ?_
          refine J_goto (tgt := 171) d_Mo_log_202 (by decide) ?_
          refine J_iload d_Mo_log_171 rfl ?_
          refine J_iconst (v := 5) d_Mo_log_173 (by decide) ?_
          refine J_icmp_ge (tgt := 205) d_Mo_log_174 (by decide) (fun _ => ?_) (fun q => absurd (by decide) q)
          refine J_aload_n d_Mo_log_205 rfl rfl ?_
          refine J_dup d_Mo_log_206 ?_
          refine J_get d_Mo_log_207 xf_Mo_81 rfl rfl ?_
          refine J_iconst (v := 1) d_Mo_log_210 (by decide) ?_
          refine J_iadd d_Mo_log_211 ?_
          refine J_put d_Mo_log_212 xf_Mo_81 xt_Mo (fun _ _ _ h => by cases h; rfl) rfl rfl rfl (Nat.le_of_ble_eq_true rfl) ?_
          refine J_aload_n d_Mo_log_215 rfl rfl ?_
          refine J_get d_Mo_log_216 xf_Mo_81 rfl rfl ?_
          refine J_iconst (v := 1) d_Mo_log_219 (by decide) ?_
          refine J_isub d_Mo_log_220 ?_
          exact J_ireturn d_Mo_log_221 rfl (by have c87 : 0 ≤ s_kl ab be v b k := c87; simp only [xif, c10, c14, c18, c87, Classical.not_not, if_true, if_false, not_true_eq_false, not_false_eq_true, and_true, true_and, and_false, false_and, or_true, true_or, or_false, false_or, and_self, or_self] <;> rfl)
        · skip
          refine J_aload_n d_Mo_log_90 rfl rfl ?_
          refine J_iconst (v := 1) d_Mo_log_91 (by decide) ?_
          refine J_put d_Mo_log_92 xf_Mo_62 xt_Mo (fun _ _ _ h => by cases h; rfl) rfl rfl rfl (Nat.le_of_ble_eq_true rfl) ?_
          refine J_iconst (v := 0) d_Mo_log_95 (by decide) ?_
          exact J_ireturn d_Mo_log_96 rfl (by have c87 : ¬ 0 ≤ s_kl ab be v b k := c87; simp only [xif, c10, c14, c18, c87, Classical.not_not, if_true, if_false, not_true_eq_false, not_false_eq_true, and_true, true_and, and_false, false_and, or_true, true_or, or_false, false_or, and_self, or_self] <;> rfl)
set_option maxHeartbeats 4000000 in
set_option maxRecDepth 100000 in
theorem n_volume {k a : Int32} (hG : gTok G) : XM G Y_Mo_volume [.ref 22, .int k, .int a] (1, ch sa sb lt tt lg bc gi go sh bn sc rw dy pt (mh th ab be lgm ltm smm bs kd mo dr wa re lom him scm ou sr gim gom shm rwm dym ptm td tw R)) (xif (¬ k < 0 ∧ k ≤ 3) (xif (¬ lgm = 0) (xif (a = 0) (.inl (some (.long (ltm k.toNatClampNeg))), (0, ch sa sb lt tt lg bc gi go sh bn sc rw dy pt (mh (0) ab be lgm ltm smm bs kd mo dr wa re lom him scm ou sr gim gom shm rwm dym ptm td tw R)), 0, 0) (.inl (some (.long (smm k.toNatClampNeg))), (0, ch sa sb lt tt lg bc gi go sh bn sc rw dy pt (mh (0) ab be lgm ltm smm bs kd mo dr wa re lom him scm ou sr gim gom shm rwm dym ptm td tw R)), 0, 0)) (.inl (some (.long 0)), (0, ch sa sb lt tt lg bc gi go sh bn sc rw dy pt (mh (2) ab be lgm ltm smm bs kd mo dr wa re lom him scm ou sr gim gom shm rwm dym ptm td tw R)), 0, 0)) (.inl (some (.long 0)), (0, ch sa sb lt tt lg bc gi go sh bn sc rw dy pt (mh (1) ab be lgm ltm smm bs kd mo dr wa re lom him scm ou sr gim gom shm rwm dym ptm td tw R)), 0, 0)) := by
  refine XM_of (by decide +kernel) (Nat.le_of_ble_eq_true rfl) (Or.inl rfl) ?_
  refine J_aload_n d_Mo_volume_0 rfl rfl ?_
  refine J_iload_n d_Mo_volume_1 rfl rfl ?_
  refine J_if_lt (tgt := 10) d_Mo_volume_2 (by decide) (fun c2 => ?_) (fun c2 => ?_)
  · skip
    refine J_iconst (v := 1) d_Mo_volume_10 (by decide) ?_
    refine J_goto (tgt := 26) d_Mo_volume_11 (by decide) ?_
    refine J_put d_Mo_volume_26 xf_Mo_62 xt_Mo (fun _ _ _ h => by cases h; rfl) rfl rfl rfl (Nat.le_of_ble_eq_true rfl) ?_
    refine J_aload_n d_Mo_volume_29 rfl rfl ?_
    refine J_get d_Mo_volume_30 xf_Mo_62 rfl rfl ?_
    refine J_if_le (tgt := 40) d_Mo_volume_33 (by decide) (fun q => absurd q (by decide)) (fun _ => ?_)
    refine J_lconst (v := 0) d_Mo_volume_36 (by decide) ?_
    refine J_goto (tgt := 59) d_Mo_volume_37 (by decide) ?_
    exact J_lreturn d_Mo_volume_59 rfl (by simp only [xif, c2, Classical.not_not, if_true, if_false, not_true_eq_false, not_false_eq_true, and_true, true_and, and_false, false_and, or_true, true_or, or_false, false_or, and_self, or_self] <;> rfl)
  · skip
    refine J_iload_n d_Mo_volume_5 rfl rfl ?_
    refine J_iconst (v := 3) d_Mo_volume_6 (by decide) ?_
    refine J_icmp_le (tgt := 14) d_Mo_volume_7 (by decide) (fun c7 => ?_) (fun c7 => ?_)
    · skip
      refine J_aload_n d_Mo_volume_14 rfl rfl ?_
      refine J_get d_Mo_volume_15 xf_Mo_81 rfl rfl ?_
      refine J_if_ne (tgt := 25) d_Mo_volume_18 (by decide) (fun c18 => ?_) (fun c18 => ?_)
      · skip
        refine J_iconst (v := 0) d_Mo_volume_25 (by decide) ?_
        refine J_put d_Mo_volume_26 xf_Mo_62 xt_Mo (fun _ _ _ h => by cases h; rfl) rfl rfl rfl (Nat.le_of_ble_eq_true rfl) ?_
        refine J_aload_n d_Mo_volume_29 rfl rfl ?_
        refine J_get d_Mo_volume_30 xf_Mo_62 rfl rfl ?_
        refine J_if_le (tgt := 40) d_Mo_volume_33 (by decide) (fun _ => ?_) (fun q => absurd (by decide) q)
        refine J_iload_n d_Mo_volume_40 rfl rfl ?_
        refine J_if_eq (tgt := 53) d_Mo_volume_41 (by decide) (fun c41 => ?_) (fun c41 => ?_)
        · skip
          refine J_aload_n d_Mo_volume_53 rfl rfl ?_
          refine J_get d_Mo_volume_54 xf_Mo_16 rfl rfl ?_
          refine J_iload_n d_Mo_volume_57 rfl rfl ?_
          refine J_lald d_Mo_volume_58 (gt1 hG) rfl (ib5 c2 c7) ?_
          exact J_lreturn d_Mo_volume_59 rfl (by simp only [xif, c2, c7, c18, c41, Classical.not_not, if_true, if_false, not_true_eq_false, not_false_eq_true, and_true, true_and, and_false, false_and, or_true, true_or, or_false, false_or, and_self, or_self] <;> rfl)
        · skip
          refine J_aload_n d_Mo_volume_44 rfl rfl ?_
          refine J_get d_Mo_volume_45 xf_Mo_20 rfl rfl ?_
          refine J_iload_n d_Mo_volume_48 rfl rfl ?_
          refine J_lald d_Mo_volume_49 (gt1 hG) rfl (ib5 c2 c7) ?_
          refine J_goto (tgt := 59) d_Mo_volume_50 (by decide) ?_
          exact J_lreturn d_Mo_volume_59 rfl (by simp only [xif, c2, c7, c18, c41, Classical.not_not, if_true, if_false, not_true_eq_false, not_false_eq_true, and_true, true_and, and_false, false_and, or_true, true_or, or_false, false_or, and_self, or_self] <;> rfl)
      · skip
        have c18 := Classical.not_not.mp c18
        refine J_iconst (v := 2) d_Mo_volume_21 (by decide) ?_
        refine J_goto (tgt := 26) d_Mo_volume_22 (by decide) ?_
        refine J_put d_Mo_volume_26 xf_Mo_62 xt_Mo (fun _ _ _ h => by cases h; rfl) rfl rfl rfl (Nat.le_of_ble_eq_true rfl) ?_
        refine J_aload_n d_Mo_volume_29 rfl rfl ?_
        refine J_get d_Mo_volume_30 xf_Mo_62 rfl rfl ?_
        refine J_if_le (tgt := 40) d_Mo_volume_33 (by decide) (fun q => absurd q (by decide)) (fun _ => ?_)
        refine J_lconst (v := 0) d_Mo_volume_36 (by decide) ?_
        refine J_goto (tgt := 59) d_Mo_volume_37 (by decide) ?_
        exact J_lreturn d_Mo_volume_59 rfl (by simp only [xif, c2, c7, c18, Classical.not_not, if_true, if_false, not_true_eq_false, not_false_eq_true, and_true, true_and, and_false, false_and, or_true, true_or, or_false, false_or, and_self, or_self] <;> rfl)
    · skip
      refine J_iconst (v := 1) d_Mo_volume_10 (by decide) ?_
      refine J_goto (tgt := 26) d_Mo_volume_11 (by decide) ?_
      refine J_put d_Mo_volume_26 xf_Mo_62 xt_Mo (fun _ _ _ h => by cases h; rfl) rfl rfl rfl (Nat.le_of_ble_eq_true rfl) ?_
      refine J_aload_n d_Mo_volume_29 rfl rfl ?_
      refine J_get d_Mo_volume_30 xf_Mo_62 rfl rfl ?_
      refine J_if_le (tgt := 40) d_Mo_volume_33 (by decide) (fun q => absurd q (by decide)) (fun _ => ?_)
      refine J_lconst (v := 0) d_Mo_volume_36 (by decide) ?_
      refine J_goto (tgt := 59) d_Mo_volume_37 (by decide) ?_
      exact J_lreturn d_Mo_volume_59 rfl (by simp only [xif, c2, c7, Classical.not_not, if_true, if_false, not_true_eq_false, not_false_eq_true, and_true, true_and, and_false, false_and, or_true, true_or, or_false, false_or, and_self, or_self] <;> rfl)
set_option maxHeartbeats 4000000 in
set_option maxRecDepth 100000 in
theorem n_boards {a : Int32} (hG : gTok G) : XM G Y_Mo_boards [.ref 22, .int a] (1, ch sa sb lt tt lg bc gi go sh bn sc rw dy pt (mh th ab be lgm ltm smm bs kd mo dr wa re lom him scm ou sr gim gom shm rwm dym ptm td tw R)) (xif (¬ lgm = 0) (xif (a = 0) (.inl (some (.long (ltm 4))), (0, ch sa sb lt tt lg bc gi go sh bn sc rw dy pt (mh (0) ab be lgm ltm smm bs kd mo dr wa re lom him scm ou sr gim gom shm rwm dym ptm td tw R)), 0, 0) (.inl (some (.long (smm 4))), (0, ch sa sb lt tt lg bc gi go sh bn sc rw dy pt (mh (0) ab be lgm ltm smm bs kd mo dr wa re lom him scm ou sr gim gom shm rwm dym ptm td tw R)), 0, 0)) (.inl (some (.long 0)), (0, ch sa sb lt tt lg bc gi go sh bn sc rw dy pt (mh (1) ab be lgm ltm smm bs kd mo dr wa re lom him scm ou sr gim gom shm rwm dym ptm td tw R)), 0, 0)) := by
  refine XM_of (by decide +kernel) (Nat.le_of_ble_eq_true rfl) (Or.inl rfl) ?_
  refine J_aload_n d_Mo_boards_0 rfl rfl ?_
  refine J_aload_n d_Mo_boards_1 rfl rfl ?_
  refine J_get d_Mo_boards_2 xf_Mo_81 rfl rfl ?_
  refine J_if_ne (tgt := 12) d_Mo_boards_5 (by decide) (fun c5 => ?_) (fun c5 => ?_)
  · skip
    refine J_iconst (v := 0) d_Mo_boards_12 (by decide) ?_
    refine J_put d_Mo_boards_13 xf_Mo_62 xt_Mo (fun _ _ _ h => by cases h; rfl) rfl rfl rfl (Nat.le_of_ble_eq_true rfl) ?_
    refine J_aload_n d_Mo_boards_16 rfl rfl ?_
    refine J_get d_Mo_boards_17 xf_Mo_62 rfl rfl ?_
    refine J_if_le (tgt := 27) d_Mo_boards_20 (by decide) (fun _ => ?_) (fun q => absurd (by decide) q)
    refine J_iload_n d_Mo_boards_27 rfl rfl ?_
    refine J_if_eq (tgt := 40) d_Mo_boards_28 (by decide) (fun c28 => ?_) (fun c28 => ?_)
    · skip
      refine J_aload_n d_Mo_boards_40 rfl rfl ?_
      refine J_get d_Mo_boards_41 xf_Mo_16 rfl rfl ?_
      refine J_iconst (v := 4) d_Mo_boards_44 (by decide) ?_
      refine J_lald d_Mo_boards_45 (gt1 hG) rfl (vp_in_nI (n := 4) (by decide) (by decide)) ?_
      exact J_lreturn d_Mo_boards_46 rfl (by simp only [xif, c5, c28, Classical.not_not, if_true, if_false, not_true_eq_false, not_false_eq_true, and_true, true_and, and_false, false_and, or_true, true_or, or_false, false_or, and_self, or_self] <;> rfl)
    · skip
      refine J_aload_n d_Mo_boards_31 rfl rfl ?_
      refine J_get d_Mo_boards_32 xf_Mo_20 rfl rfl ?_
      refine J_iconst (v := 4) d_Mo_boards_35 (by decide) ?_
      refine J_lald d_Mo_boards_36 (gt1 hG) rfl (vp_in_nI (n := 4) (by decide) (by decide)) ?_
      refine J_goto (tgt := 46) d_Mo_boards_37 (by decide) ?_
      exact J_lreturn d_Mo_boards_46 rfl (by simp only [xif, c5, c28, Classical.not_not, if_true, if_false, not_true_eq_false, not_false_eq_true, and_true, true_and, and_false, false_and, or_true, true_or, or_false, false_or, and_self, or_self] <;> rfl)
  · skip
    have c5 := Classical.not_not.mp c5
    refine J_iconst (v := 1) d_Mo_boards_8 (by decide) ?_
    refine J_goto (tgt := 13) d_Mo_boards_9 (by decide) ?_
    refine J_put d_Mo_boards_13 xf_Mo_62 xt_Mo (fun _ _ _ h => by cases h; rfl) rfl rfl rfl (Nat.le_of_ble_eq_true rfl) ?_
    refine J_aload_n d_Mo_boards_16 rfl rfl ?_
    refine J_get d_Mo_boards_17 xf_Mo_62 rfl rfl ?_
    refine J_if_le (tgt := 27) d_Mo_boards_20 (by decide) (fun q => absurd q (by decide)) (fun _ => ?_)
    refine J_lconst (v := 0) d_Mo_boards_23 (by decide) ?_
    refine J_goto (tgt := 46) d_Mo_boards_24 (by decide) ?_
    exact J_lreturn d_Mo_boards_46 rfl (by simp only [xif, c5, Classical.not_not, if_true, if_false, not_true_eq_false, not_false_eq_true, and_true, true_and, and_false, false_and, or_true, true_or, or_false, false_or, and_self, or_self] <;> rfl)
theorem nb_ne {nb : Nat} (hn : nb ≤ 8) (h : ¬ nI nb = 8) : nb < 8 := by
  rcases Nat.lt_or_ge nb 8 with q | q
  · exact q
  · have : nb = 8 := by omega
    subst this
    exact absurd (by decide) h
set_option maxHeartbeats 4000000 in
set_option maxRecDepth 100000 in
theorem n_bin {k m : Int32} {nb : Nat} (hG : gTok G) (hb : bs = nI nb) (hn : nb ≤ 8) : XM G Y_Mo_bin [.ref 22, .int k, .int m] (1, ch sa sb lt tt lg bc gi go sh bn sc rw dy pt (mh th ab be lgm ltm smm bs kd mo dr wa re lom him scm ou sr gim gom shm rwm dym ptm td tw R)) (xif (¬ k < 0 ∧ k ≤ 3) (xif (¬ s_in m.toInt64 1 1000000 = 0) (xif (¬ bs = 8) (.inl (some (.int (bs + 1 - 1))), (0, ch sa sb lt tt lg bc gi go sh bn sc rw dy pt (mh (0) ab be lgm ltm smm (bs + 1) (upd kd bs.toNatClampNeg k) (vp_updL mo bs.toNatClampNeg m.toInt64) dr wa re lom him scm ou sr gim gom shm rwm dym ptm td tw R)), 0, 0) (.inl (some (.int 0)), (0, ch sa sb lt tt lg bc gi go sh bn sc rw dy pt (mh (3) ab be lgm ltm smm bs kd mo dr wa re lom him scm ou sr gim gom shm rwm dym ptm td tw R)), 0, 0)) (.inl (some (.int 0)), (0, ch sa sb lt tt lg bc gi go sh bn sc rw dy pt (mh (2) ab be lgm ltm smm bs kd mo dr wa re lom him scm ou sr gim gom shm rwm dym ptm td tw R)), 0, 0)) (.inl (some (.int 0)), (0, ch sa sb lt tt lg bc gi go sh bn sc rw dy pt (mh (1) ab be lgm ltm smm bs kd mo dr wa re lom him scm ou sr gim gom shm rwm dym ptm td tw R)), 0, 0)) := by
  refine XM_of (by decide +kernel) (Nat.le_of_ble_eq_true rfl) (Or.inl rfl) ?_
  refine J_aload_n d_Mo_bin_0 rfl rfl ?_
  refine J_iload_n d_Mo_bin_1 rfl rfl ?_
  refine J_if_lt (tgt := 10) d_Mo_bin_2 (by decide) (fun c2 => ?_) (fun c2 => ?_)
  · skip
    refine J_iconst (v := 1) d_Mo_bin_10 (by decide) ?_
    refine J_goto (tgt := 44) d_Mo_bin_11 (by decide) ?_
    refine J_put d_Mo_bin_44 xf_Mo_62 xt_Mo (fun _ _ _ h => by cases h; rfl) rfl rfl rfl (Nat.le_of_ble_eq_true rfl) ?_
    refine J_aload_n d_Mo_bin_47 rfl rfl ?_
    refine J_get d_Mo_bin_48 xf_Mo_62 rfl rfl ?_
    refine J_if_le (tgt := 56) d_Mo_bin_51 (by decide) (fun q => absurd q (by decide)) (fun _ => ?_)
    refine J_iconst (v := 0) d_Mo_bin_54 (by decide) ?_
    exact J_ireturn d_Mo_bin_55 rfl (by simp only [xif, c2, Classical.not_not, if_true, if_false, not_true_eq_false, not_false_eq_true, and_true, true_and, and_false, false_and, or_true, true_or, or_false, false_or, and_self, or_self] <;> rfl)
  · skip
    refine J_iload_n d_Mo_bin_5 rfl rfl ?_
    refine J_iconst (v := 3) d_Mo_bin_6 (by decide) ?_
    refine J_icmp_le (tgt := 14) d_Mo_bin_7 (by decide) (fun c7 => ?_) (fun c7 => ?_)
    · skip
      refine J_iload_n d_Mo_bin_14 rfl rfl ?_
      refine J_i2l d_Mo_bin_15 ?_
      refine J_lconst (v := 1) d_Mo_bin_16 (by decide) ?_
      refine J_ldc2_w d_Mo_bin_17 xj_Mo_84 ?_
      refine J_callP (xGo_s3 d_Mo_bin_20 xc_Mo_71) ⟨xq_Mo_isIn.1, xq_Mo_isIn.2.1⟩ ⟨Nat.le_of_ble_eq_true rfl, Nat.le_of_ble_eq_true rfl, Nat.le_of_ble_eq_true rfl, Nat.le_of_ble_eq_true rfl⟩ (Nat.le_of_ble_eq_true rfl) n_isIn ?_
      refine J_if_ne (tgt := 30) d_Mo_bin_23 (by decide) (fun c23 => ?_) (fun c23 => ?_)
      · skip
        refine J_aload_n d_Mo_bin_30 rfl rfl ?_
        refine J_get d_Mo_bin_31 xf_Mo_66 rfl rfl ?_
        refine J_bipush (v := 8) d_Mo_bin_34 (by decide) ?_
        refine J_icmp_ne (tgt := 43) d_Mo_bin_36 (by decide) (fun c36 => ?_) (fun c36 => ?_)
        · skip
          refine J_iconst (v := 0) d_Mo_bin_43 (by decide) ?_
          refine J_put d_Mo_bin_44 xf_Mo_62 xt_Mo (fun _ _ _ h => by cases h; rfl) rfl rfl rfl (Nat.le_of_ble_eq_true rfl) ?_
          refine J_aload_n d_Mo_bin_47 rfl rfl ?_
          refine J_get d_Mo_bin_48 xf_Mo_62 rfl rfl ?_
          refine J_if_le (tgt := 56) d_Mo_bin_51 (by decide) (fun _ => ?_) (fun q => absurd (by decide) q)
          refine J_aload_n d_Mo_bin_56 rfl rfl ?_
          refine J_get d_Mo_bin_57 xf_Mo_23 rfl rfl ?_
          refine J_aload_n d_Mo_bin_60 rfl rfl ?_
          refine J_get d_Mo_bin_61 xf_Mo_66 rfl rfl ?_
          refine J_iload_n d_Mo_bin_64 rfl rfl ?_
          refine J_iast d_Mo_bin_65 (gt0 hG) rfl (by rw [hb]; exact vp_in_nI (nb_ne hn (hb ▸ c36)) (by decide)) ?_
          refine J_aload_n d_Mo_bin_66 rfl rfl ?_
          refine J_get d_Mo_bin_67 xf_Mo_26 rfl rfl ?_
          refine J_aload_n d_Mo_bin_70 rfl rfl ?_
          refine J_get d_Mo_bin_71 xf_Mo_66 rfl rfl ?_
          refine J_iload_n d_Mo_bin_74 rfl rfl ?_
          refine J_i2l d_Mo_bin_75 ?_
          refine J_last d_Mo_bin_76 (gt1 hG) rfl (by rw [hb]; exact vp_in_nI (nb_ne hn (hb ▸ c36)) (by decide)) ?_
          refine J_aload_n d_Mo_bin_77 rfl rfl ?_
          refine J_dup d_Mo_bin_78 ?_
          refine J_get d_Mo_bin_79 xf_Mo_66 rfl rfl ?_
          refine J_iconst (v := 1) d_Mo_bin_82 (by decide) ?_
          refine J_iadd d_Mo_bin_83 ?_
          refine J_put d_Mo_bin_84 xf_Mo_66 xt_Mo (fun _ _ _ h => by cases h; rfl) rfl rfl rfl (Nat.le_of_ble_eq_true rfl) ?_
          refine J_aload_n d_Mo_bin_87 rfl rfl ?_
          refine J_get d_Mo_bin_88 xf_Mo_66 rfl rfl ?_
          refine J_iconst (v := 1) d_Mo_bin_91 (by decide) ?_
          refine J_isub d_Mo_bin_92 ?_
          exact J_ireturn d_Mo_bin_93 rfl (by simp only [xif, c2, c7, c23, c36, Classical.not_not, if_true, if_false, not_true_eq_false, not_false_eq_true, and_true, true_and, and_false, false_and, or_true, true_or, or_false, false_or, and_self, or_self] <;> rfl)
        · skip
          have c36 := Classical.not_not.mp c36
          refine J_iconst (v := 3) d_Mo_bin_39 (by decide) ?_
          refine J_goto (tgt := 44) d_Mo_bin_40 (by decide) ?_
          refine J_put d_Mo_bin_44 xf_Mo_62 xt_Mo (fun _ _ _ h => by cases h; rfl) rfl rfl rfl (Nat.le_of_ble_eq_true rfl) ?_
          refine J_aload_n d_Mo_bin_47 rfl rfl ?_
          refine J_get d_Mo_bin_48 xf_Mo_62 rfl rfl ?_
          refine J_if_le (tgt := 56) d_Mo_bin_51 (by decide) (fun q => absurd q (by decide)) (fun _ => ?_)
          refine J_iconst (v := 0) d_Mo_bin_54 (by decide) ?_
          exact J_ireturn d_Mo_bin_55 rfl (by simp only [xif, c2, c7, c23, c36, Classical.not_not, if_true, if_false, not_true_eq_false, not_false_eq_true, and_true, true_and, and_false, false_and, or_true, true_or, or_false, false_or, and_self, or_self] <;> rfl)
      · skip
        have c23 := Classical.not_not.mp c23
        refine J_iconst (v := 2) d_Mo_bin_26 (by decide) ?_
        refine J_goto (tgt := 44) d_Mo_bin_27 (by decide) ?_
        refine J_put d_Mo_bin_44 xf_Mo_62 xt_Mo (fun _ _ _ h => by cases h; rfl) rfl rfl rfl (Nat.le_of_ble_eq_true rfl) ?_
        refine J_aload_n d_Mo_bin_47 rfl rfl ?_
        refine J_get d_Mo_bin_48 xf_Mo_62 rfl rfl ?_
        refine J_if_le (tgt := 56) d_Mo_bin_51 (by decide) (fun q => absurd q (by decide)) (fun _ => ?_)
        refine J_iconst (v := 0) d_Mo_bin_54 (by decide) ?_
        exact J_ireturn d_Mo_bin_55 rfl (by simp only [xif, c2, c7, c23, Classical.not_not, if_true, if_false, not_true_eq_false, not_false_eq_true, and_true, true_and, and_false, false_and, or_true, true_or, or_false, false_or, and_self, or_self] <;> rfl)
    · skip
      refine J_iconst (v := 1) d_Mo_bin_10 (by decide) ?_
      refine J_goto (tgt := 44) d_Mo_bin_11 (by decide) ?_
      refine J_put d_Mo_bin_44 xf_Mo_62 xt_Mo (fun _ _ _ h => by cases h; rfl) rfl rfl rfl (Nat.le_of_ble_eq_true rfl) ?_
      refine J_aload_n d_Mo_bin_47 rfl rfl ?_
      refine J_get d_Mo_bin_48 xf_Mo_62 rfl rfl ?_
      refine J_if_le (tgt := 56) d_Mo_bin_51 (by decide) (fun q => absurd q (by decide)) (fun _ => ?_)
      refine J_iconst (v := 0) d_Mo_bin_54 (by decide) ?_
      exact J_ireturn d_Mo_bin_55 rfl (by simp only [xif, c2, c7, Classical.not_not, if_true, if_false, not_true_eq_false, not_false_eq_true, and_true, true_and, and_false, false_and, or_true, true_or, or_false, false_or, and_self, or_self] <;> rfl)
end XM1
