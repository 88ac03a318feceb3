section XM4
variable {G : xG} {sa sb : Int32 × Int32} {lt tt : cP} {lg bc : Int32} {gi go : Int64} {sh : Int32} {bn : Nat → cB} {sc : Nat → cS} {rw : Int32} {dy pt : Nat → Int32} {R : List va_E}
variable {th : Int32} {ab be : Nat → Int32} {lgm : Int32} {ltm smm : Nat → Int64} {bs : Int32} {kd : Nat → Int32} {mo dr wa re : Nat → Int64} {lom him scm ou sr : Nat → Int32} {gim gom shm : Int64} {rwm : Int32} {dym ptm : Nat → Int32} {td tw : Int64}
theorem ib12 {s : Int32} (h0 : ¬ s < 0) (h : s < 4) (c : Nat) (hc : c < 3) : vp_in (3 * s + nI c) 12 := by
  obtain ⟨h1, h2, -⟩ := okS_lt ⟨h0, h⟩
  rw [h2, show (3 : Int32) = nI 3 from rfl, pk_mul, nI_add]
  exact vp_in_nI (by omega) (by decide)
theorem ib12z {s : Int32} (h0 : ¬ s < 0) (h : s < 4) : vp_in (3 * s) 12 := by
  obtain ⟨h1, h2, -⟩ := okS_lt ⟨h0, h⟩
  rw [h2, show (3 : Int32) = nI 3 from rfl, pk_mul]
  exact vp_in_nI (by omega) (by decide)
theorem le3 {s : Int32} (h : s ≤ 3) : s < 4 := Int32.lt_of_le_of_lt h (by decide)
def s_ot (sr : Nat → Int32) (s : Int32) (g : Int64) : Int64 := g * (sr (3 * s + 1).toNatClampNeg).toInt64 / 60 + g * (sr (3 * s + 2).toNatClampNeg).toInt64 / 60
def s_pt (sr : Nat → Int32) (s k : Int32) (g : Int64) : Int64 := if k ≤ 0 then g - s_ot sr s g else g * (sr (3 * s + k).toNatClampNeg).toInt64 / 60
theorem mr_b {mo dr wa : Nat → Int64} {b : Int32} {k : Int64} : narrow .boolean (.int (s_mr mo dr wa b k)) = .int (s_mr mo dr wa b k) := by
  unfold s_mr
  split <;> rfl
set_option maxHeartbeats 4000000 in
set_option maxRecDepth 100000 in
theorem n_others {s : Int32} {g : Int64} (hG : gTok G) (h0 : ¬ s < 0) (h4 : s < 4) : XM G Y_Mo_others [.ref 22, .int s, .long g] (1, ch sa sb lt tt lg bc gi go sh bn sc rw dy pt (mh th ab be lgm ltm smm bs kd mo dr wa re lom him scm ou sr gim gom shm rwm dym ptm td tw R)) (.inl (some (.long (s_ot sr s g))), (1, ch sa sb lt tt lg bc gi go sh bn sc rw dy pt (mh th ab be lgm ltm smm bs kd mo dr wa re lom him scm ou sr gim gom shm rwm dym ptm td tw R)), 0, 0) := by
  refine XM_of (by decide +kernel) (Nat.le_of_ble_eq_true rfl) (Or.inl rfl) ?_
  refine J_lload_n d_Mo_others_0 rfl rfl ?_
  refine J_aload_n d_Mo_others_1 rfl rfl ?_
  refine J_get d_Mo_others_2 xf_Mo_53 rfl rfl ?_
  refine J_iconst (v := 3) d_Mo_others_5 (by decide) ?_
  refine J_iload_n d_Mo_others_6 rfl rfl ?_
  refine J_imul d_Mo_others_7 ?_
  refine J_iconst (v := 1) d_Mo_others_8 (by decide) ?_
  refine J_iadd d_Mo_others_9 ?_
  refine J_iald d_Mo_others_10 (gt0 hG) rfl (ib12 h0 h4 1 (by decide)) ?_
  refine J_i2l d_Mo_others_11 ?_
  refine J_lmul d_Mo_others_12 ?_
  refine J_ldc2_w d_Mo_others_13 xj_Mo_110 ?_
  refine J_ldiv d_Mo_others_16 (by decide) ?_
  refine J_lload_n d_Mo_others_17 rfl rfl ?_
  refine J_aload_n d_Mo_others_18 rfl rfl ?_
  refine J_get d_Mo_others_19 xf_Mo_53 rfl rfl ?_
  refine J_iconst (v := 3) d_Mo_others_22 (by decide) ?_
  refine J_iload_n d_Mo_others_23 rfl rfl ?_
  refine J_imul d_Mo_others_24 ?_
  refine J_iconst (v := 2) d_Mo_others_25 (by decide) ?_
  refine J_iadd d_Mo_others_26 ?_
  refine J_iald d_Mo_others_27 (gt0 hG) rfl (ib12 h0 h4 2 (by decide)) ?_
  refine J_i2l d_Mo_others_28 ?_
  refine J_lmul d_Mo_others_29 ?_
  refine J_ldc2_w d_Mo_others_30 xj_Mo_110 ?_
  refine J_ldiv d_Mo_others_33 (by decide) ?_
  refine J_ladd d_Mo_others_34 ?_
  exact J_lreturn d_Mo_others_35 rfl rfl
set_option maxHeartbeats 4000000 in
set_option maxRecDepth 100000 in
theorem n_part {s k : Int32} {g : Int64} (hG : gTok G) (h0 : ¬ s < 0) (h4 : s < 4) (hk : vp_in (3 * s + k) 12) : XM G Y_Mo_part [.ref 22, .int s, .int k, .long g] (1, ch sa sb lt tt lg bc gi go sh bn sc rw dy pt (mh th ab be lgm ltm smm bs kd mo dr wa re lom him scm ou sr gim gom shm rwm dym ptm td tw R)) (.inl (some (.long (s_pt sr s k g))), (1, ch sa sb lt tt lg bc gi go sh bn sc rw dy pt (mh th ab be lgm ltm smm bs kd mo dr wa re lom him scm ou sr gim gom shm rwm dym ptm td tw R)), 0, 0) := by
  refine XM_of (by decide +kernel) (Nat.le_of_ble_eq_true rfl) (Or.inl rfl) ?_
  refine J_iload_n d_Mo_part_0 rfl rfl ?_
  refine J_if_le (tgt := 22) d_Mo_part_1 (by decide) (fun c1 => ?_) (fun c1 => ?_)
  · skip
    refine J_lload_n d_Mo_part_22 rfl rfl ?_
    refine J_aload_n d_Mo_part_23 rfl rfl ?_
    refine J_iload_n d_Mo_part_24 rfl rfl ?_
    refine J_lload_n d_Mo_part_25 rfl rfl ?_
    refine J_callP (xGo_v2 d_Mo_part_26 xc_Mo_112 rfl rfl rfl) ⟨xq_Mo_others.1, xq_Mo_others.2.1⟩ ⟨Nat.le_of_ble_eq_true rfl, Nat.le_of_ble_eq_true rfl, Nat.le_of_ble_eq_true rfl, Nat.le_of_ble_eq_true rfl⟩ (Nat.le_of_ble_eq_true rfl) (n_others hG h0 h4) ?_
    refine J_lsub d_Mo_part_29 ?_
    exact J_lreturn d_Mo_part_30 rfl (by simp only [s_pt, c1, Classical.not_not, if_true, if_false, not_true_eq_false, not_false_eq_true, and_true, true_and, and_false, false_and, or_true, true_or, or_false, false_or, and_self, or_self])
  · skip
    refine J_lload_n d_Mo_part_4 rfl rfl ?_
    refine J_aload_n d_Mo_part_5 rfl rfl ?_
    refine J_get d_Mo_part_6 xf_Mo_53 rfl rfl ?_
    refine J_iconst (v := 3) d_Mo_part_9 (by decide) ?_
    refine J_iload_n d_Mo_part_10 rfl rfl ?_
    refine J_imul d_Mo_part_11 ?_
    refine J_iload_n d_Mo_part_12 rfl rfl ?_
    refine J_iadd d_Mo_part_13 ?_
    refine J_iald d_Mo_part_14 (gt0 hG) rfl hk ?_
    refine J_i2l d_Mo_part_15 ?_
    refine J_lmul d_Mo_part_16 ?_
    refine J_ldc2_w d_Mo_part_17 xj_Mo_110 ?_
    refine J_ldiv d_Mo_part_20 (by decide) ?_
    exact J_lreturn d_Mo_part_21 rfl (by simp only [s_pt, c1, Classical.not_not, if_true, if_false, not_true_eq_false, not_false_eq_true, and_true, true_and, and_false, false_and, or_true, true_or, or_false, false_or, and_self, or_self])
set_option maxHeartbeats 4000000 in
set_option maxRecDepth 100000 in
theorem n_screen {s b0 b1 b2 a0 a1 : Int32} (hG : gTok G) {nb : Nat} (hb : bs = nI nb) (hn : nb ≤ 8) : XM G Y_Mo_screen [.ref 22, .int s, .int b0, .int b1, .int b2, .int a0, .int a1] (1, ch sa sb lt tt lg bc gi go sh bn sc rw dy pt (mh th ab be lgm ltm smm bs kd mo dr wa re lom him scm ou sr gim gom shm rwm dym ptm td tw R)) (xif (¬ s < 0 ∧ ¬ 4 ≤ s ∧ s_nb bs b0 = 0 ∧ s_nb bs b1 = 0 ∧ s_nb bs b2 = 0) (xif (¬ b0 = b1 ∧ ¬ b1 = b2 ∧ ¬ b0 = b2) (xif (kd b0.toNatClampNeg = kd b1.toNatClampNeg ∧ kd b1.toNatClampNeg = kd b2.toNatClampNeg) (xif (¬ a0 < 0 ∧ ¬ a1 < 0 ∧ ¬ 60 < a0.toInt64 + a1.toInt64) (.inl (none), (0, ch sa sb lt tt lg bc gi go sh bn sc rw dy pt (mh (0) ab be lgm ltm smm bs kd mo dr wa re lom him (upd scm s.toNatClampNeg (vp_nar .boolean 1)) (upd (upd (upd ou (3 * s).toNatClampNeg b0) (3 * s + 1).toNatClampNeg b1) (3 * s + 2).toNatClampNeg b2) (upd (upd (upd sr (3 * s).toNatClampNeg a0) (3 * s + 1).toNatClampNeg a1) (3 * s + 2).toNatClampNeg (60 - a0 - a1)) gim gom shm rwm dym ptm td tw R)), 0, 0) (.inl (none), (0, ch sa sb lt tt lg bc gi go sh bn sc rw dy pt (mh (2) ab be lgm ltm smm bs kd mo dr wa re lom him scm ou sr gim gom shm rwm dym ptm td tw R)), 0, 0)) (.inl (none), (0, ch sa sb lt tt lg bc gi go sh bn sc rw dy pt (mh (2) ab be lgm ltm smm bs kd mo dr wa re lom him scm ou sr gim gom shm rwm dym ptm td tw R)), 0, 0)) (.inl (none), (0, ch sa sb lt tt lg bc gi go sh bn sc rw dy pt (mh (2) ab be lgm ltm smm bs kd mo dr wa re lom him scm ou sr gim gom shm rwm dym ptm td tw R)), 0, 0)) (.inl (none), (0, ch sa sb lt tt lg bc gi go sh bn sc rw dy pt (mh (1) ab be lgm ltm smm bs kd mo dr wa re lom him scm ou sr gim gom shm rwm dym ptm td tw R)), 0, 0)) := by
  refine XM_of (by decide +kernel) (Nat.le_of_ble_eq_true rfl) (Or.inl rfl) ?_
  refine J_iload_n d_Mo_screen_0 rfl rfl ?_
  refine J_if_lt (tgt := 38) d_Mo_screen_1 (by decide) (fun c1 => ?_) (fun c1 => ?_)
  · skip
    refine J_iconst (v := 0) d_Mo_screen_38 (by decide) ?_
    refine J_istore d_Mo_screen_39 (by decide) ?_
    refine J_aload_n d_Mo_screen_41 rfl rfl ?_
    refine J_iload d_Mo_screen_42 rfl ?_
    refine J_if_eq (tgt := 51) d_Mo_screen_44 (by decide) (fun _ => ?_) (fun q => absurd (by decide) q)
    refine J_iconst (v := 1) d_Mo_screen_51 (by decide) ?_
    refine J_put d_Mo_screen_52 xf_Mo_62 xt_Mo (fun _ _ _ h => by cases h; rfl) rfl rfl rfl (Nat.le_of_ble_eq_true rfl) ?_
    refine J_heap (h2 := ch sa sb lt tt lg bc gi go sh bn sc rw dy pt (mh (1) ab be lgm ltm smm bs kd mo dr wa re lom him scm ou sr gim gom shm rwm dym ptm td tw R)) rfl ?_
    refine J_iload d_Mo_screen_55 rfl ?_
    refine J_if_eq (tgt := 177) d_Mo_screen_57 (by decide) (fun _ => ?_) (fun q => absurd (by decide) q)
    refine J_aload_n d_Mo_screen_177 rfl rfl ?_
    refine J_get d_Mo_screen_178 xf_Mo_62 rfl rfl ?_
    refine J_if_ne (tgt := 263) d_Mo_screen_181 (by decide) (fun _ => ?_) (fun q => absurd (by decide) q)
    exact J_return d_Mo_screen_263 rfl (by rw [xif_neg (fun q => by first | exact q.1 c1 | exact c1 q.1)] <;> try rfl)
  · skip
    refine J_iload_n d_Mo_screen_4 rfl rfl ?_
    refine J_iconst (v := 4) d_Mo_screen_5 (by decide) ?_
    refine J_icmp_ge (tgt := 38) d_Mo_screen_6 (by decide) (fun c6 => ?_) (fun c6 => ?_)
    · skip
      refine J_iconst (v := 0) d_Mo_screen_38 (by decide) ?_
      refine J_istore d_Mo_screen_39 (by decide) ?_
      refine J_aload_n d_Mo_screen_41 rfl rfl ?_
      refine J_iload d_Mo_screen_42 rfl ?_
      refine J_if_eq (tgt := 51) d_Mo_screen_44 (by decide) (fun _ => ?_) (fun q => absurd (by decide) q)
      refine J_iconst (v := 1) d_Mo_screen_51 (by decide) ?_
      refine J_put d_Mo_screen_52 xf_Mo_62 xt_Mo (fun _ _ _ h => by cases h; rfl) rfl rfl rfl (Nat.le_of_ble_eq_true rfl) ?_
      refine J_heap (h2 := ch sa sb lt tt lg bc gi go sh bn sc rw dy pt (mh (1) ab be lgm ltm smm bs kd mo dr wa re lom him scm ou sr gim gom shm rwm dym ptm td tw R)) rfl ?_
      refine J_iload d_Mo_screen_55 rfl ?_
      refine J_if_eq (tgt := 177) d_Mo_screen_57 (by decide) (fun _ => ?_) (fun q => absurd (by decide) q)
      refine J_aload_n d_Mo_screen_177 rfl rfl ?_
      refine J_get d_Mo_screen_178 xf_Mo_62 rfl rfl ?_
      refine J_if_ne (tgt := 263) d_Mo_screen_181 (by decide) (fun _ => ?_) (fun q => absurd (by decide) q)
      exact J_return d_Mo_screen_263 rfl (by rw [xif_neg (fun q => by first | exact q.2.1 c6 | exact c6 q.2.1)] <;> try rfl)
    · skip
      refine J_aload_n d_Mo_screen_9 rfl rfl ?_
      refine J_iload_n d_Mo_screen_10 rfl rfl ?_
      refine J_callP (xGo_v1 d_Mo_screen_11 xc_Mo_94 rfl rfl rfl) ⟨xq_Mo_noBin.1, xq_Mo_noBin.2.1⟩ ⟨Nat.le_of_ble_eq_true rfl, Nat.le_of_ble_eq_true rfl, Nat.le_of_ble_eq_true rfl, Nat.le_of_ble_eq_true rfl⟩ (Nat.le_of_ble_eq_true rfl) n_noBin ?_
      refine J_if_ne (tgt := 38) d_Mo_screen_14 (by decide) (fun c14 => ?_) (fun c14 => ?_)
      · skip
        refine J_iconst (v := 0) d_Mo_screen_38 (by decide) ?_
        refine J_istore d_Mo_screen_39 (by decide) ?_
        refine J_aload_n d_Mo_screen_41 rfl rfl ?_
        refine J_iload d_Mo_screen_42 rfl ?_
        refine J_if_eq (tgt := 51) d_Mo_screen_44 (by decide) (fun _ => ?_) (fun q => absurd (by decide) q)
        refine J_iconst (v := 1) d_Mo_screen_51 (by decide) ?_
        refine J_put d_Mo_screen_52 xf_Mo_62 xt_Mo (fun _ _ _ h => by cases h; rfl) rfl rfl rfl (Nat.le_of_ble_eq_true rfl) ?_
        refine J_heap (h2 := ch sa sb lt tt lg bc gi go sh bn sc rw dy pt (mh (1) ab be lgm ltm smm bs kd mo dr wa re lom him scm ou sr gim gom shm rwm dym ptm td tw R)) rfl ?_
        refine J_iload d_Mo_screen_55 rfl ?_
        refine J_if_eq (tgt := 177) d_Mo_screen_57 (by decide) (fun _ => ?_) (fun q => absurd (by decide) q)
        refine J_aload_n d_Mo_screen_177 rfl rfl ?_
        refine J_get d_Mo_screen_178 xf_Mo_62 rfl rfl ?_
        refine J_if_ne (tgt := 263) d_Mo_screen_181 (by decide) (fun _ => ?_) (fun q => absurd (by decide) q)
        exact J_return d_Mo_screen_263 rfl (by rw [xif_neg (fun q => by first | exact q.2.2.1 c14 | exact c14 q.2.2.1)] <;> try rfl)
      · skip
        have c14 := Classical.not_not.mp c14
        refine J_aload_n d_Mo_screen_17 rfl rfl ?_
        refine J_iload_n d_Mo_screen_18 rfl rfl ?_
        refine J_callP (xGo_v1 d_Mo_screen_19 xc_Mo_94 rfl rfl rfl) ⟨xq_Mo_noBin.1, xq_Mo_noBin.2.1⟩ ⟨Nat.le_of_ble_eq_true rfl, Nat.le_of_ble_eq_true rfl, Nat.le_of_ble_eq_true rfl, Nat.le_of_ble_eq_true rfl⟩ (Nat.le_of_ble_eq_true rfl) n_noBin ?_
        refine J_if_ne (tgt := 38) d_Mo_screen_22 (by decide) (fun c22 => ?_) (fun c22 => ?_)
        · skip
          refine J_iconst (v := 0) d_Mo_screen_38 (by decide) ?_
          refine J_istore d_Mo_screen_39 (by decide) ?_
          refine J_aload_n d_Mo_screen_41 rfl rfl ?_
          refine J_iload d_Mo_screen_42 rfl ?_
          refine J_if_eq (tgt := 51) d_Mo_screen_44 (by decide) (fun _ => ?_) (fun q => absurd (by decide) q)
          refine J_iconst (v := 1) d_Mo_screen_51 (by decide) ?_
          refine J_put d_Mo_screen_52 xf_Mo_62 xt_Mo (fun _ _ _ h => by cases h; rfl) rfl rfl rfl (Nat.le_of_ble_eq_true rfl) ?_
          refine J_heap (h2 := ch sa sb lt tt lg bc gi go sh bn sc rw dy pt (mh (1) ab be lgm ltm smm bs kd mo dr wa re lom him scm ou sr gim gom shm rwm dym ptm td tw R)) rfl ?_
          refine J_iload d_Mo_screen_55 rfl ?_
          refine J_if_eq (tgt := 177) d_Mo_screen_57 (by decide) (fun _ => ?_) (fun q => absurd (by decide) q)
          refine J_aload_n d_Mo_screen_177 rfl rfl ?_
          refine J_get d_Mo_screen_178 xf_Mo_62 rfl rfl ?_
          refine J_if_ne (tgt := 263) d_Mo_screen_181 (by decide) (fun _ => ?_) (fun q => absurd (by decide) q)
          exact J_return d_Mo_screen_263 rfl (by rw [xif_neg (fun q => by first | exact q.2.2.2.1 c22 | exact c22 q.2.2.2.1)] <;> try rfl)
        · skip
          have c22 := Classical.not_not.mp c22
          refine J_aload_n d_Mo_screen_25 rfl rfl ?_
          refine J_iload d_Mo_screen_26 rfl ?_
          refine J_callP (xGo_v1 d_Mo_screen_28 xc_Mo_94 rfl rfl rfl) ⟨xq_Mo_noBin.1, xq_Mo_noBin.2.1⟩ ⟨Nat.le_of_ble_eq_true rfl, Nat.le_of_ble_eq_true rfl, Nat.le_of_ble_eq_true rfl, Nat.le_of_ble_eq_true rfl⟩ (Nat.le_of_ble_eq_true rfl) n_noBin ?_
          refine J_if_ne (tgt := 38) d_Mo_screen_31 (by decide) (fun c31 => ?_) (fun c31 => ?_)
          · skip
            refine J_iconst (v := 0) d_Mo_screen_38 (by decide) ?_
            refine J_istore d_Mo_screen_39 (by decide) ?_
            refine J_aload_n d_Mo_screen_41 rfl rfl ?_
            refine J_iload d_Mo_screen_42 rfl ?_
            refine J_if_eq (tgt := 51) d_Mo_screen_44 (by decide) (fun _ => ?_) (fun q => absurd (by decide) q)
            refine J_iconst (v := 1) d_Mo_screen_51 (by decide) ?_
            refine J_put d_Mo_screen_52 xf_Mo_62 xt_Mo (fun _ _ _ h => by cases h; rfl) rfl rfl rfl (Nat.le_of_ble_eq_true rfl) ?_
            refine J_heap (h2 := ch sa sb lt tt lg bc gi go sh bn sc rw dy pt (mh (1) ab be lgm ltm smm bs kd mo dr wa re lom him scm ou sr gim gom shm rwm dym ptm td tw R)) rfl ?_
            refine J_iload d_Mo_screen_55 rfl ?_
            refine J_if_eq (tgt := 177) d_Mo_screen_57 (by decide) (fun _ => ?_) (fun q => absurd (by decide) q)
            refine J_aload_n d_Mo_screen_177 rfl rfl ?_
            refine J_get d_Mo_screen_178 xf_Mo_62 rfl rfl ?_
            refine J_if_ne (tgt := 263) d_Mo_screen_181 (by decide) (fun _ => ?_) (fun q => absurd (by decide) q)
            exact J_return d_Mo_screen_263 rfl (by rw [xif_neg (fun q => by first | exact q.2.2.2.2 c31 | exact c31 q.2.2.2.2)] <;> try rfl)
          · skip
            have c31 := Classical.not_not.mp c31
            refine J_iconst (v := 1) d_Mo_screen_34 (by decide) ?_
            refine J_goto (tgt := 39) d_Mo_screen_35 (by decide) ?_
            refine J_istore d_Mo_screen_39 (by decide) ?_
            refine J_aload_n d_Mo_screen_41 rfl rfl ?_
            refine J_iload d_Mo_screen_42 rfl ?_
            refine J_if_eq (tgt := 51) d_Mo_screen_44 (by decide) (fun q => absurd q (by decide)) (fun _ => ?_)
            refine J_iconst (v := 0) d_Mo_screen_47 (by decide) ?_
            refine J_goto (tgt := 52) d_Mo_screen_48 (by decide) ?_
            refine J_put d_Mo_screen_52 xf_Mo_62 xt_Mo (fun _ _ _ h => by cases h; rfl) rfl rfl rfl (Nat.le_of_ble_eq_true rfl) ?_
            refine J_heap (h2 := ch sa sb lt tt lg bc gi go sh bn sc rw dy pt (mh (0) ab be lgm ltm smm bs kd mo dr wa re lom him scm ou sr gim gom shm rwm dym ptm td tw R)) rfl ?_
            refine J_iload d_Mo_screen_55 rfl ?_
            refine J_if_eq (tgt := 177) d_Mo_screen_57 (by decide) (fun q => absurd q (by decide)) (fun _ => ?_)
            refine J_iload_n d_Mo_screen_60 rfl rfl ?_
            refine J_iload_n d_Mo_screen_61 rfl rfl ?_
            refine J_icmp_eq (tgt := 81) d_Mo_screen_62 (by decide) (fun c62 => ?_) (fun c62 => ?_)
            · skip
              refine J_iconst (v := 0) d_Mo_screen_81 (by decide) ?_
              refine J_istore d_Mo_screen_82 (by decide) ?_
              refine J_aload_n d_Mo_screen_84 rfl rfl ?_
              refine J_get d_Mo_screen_85 xf_Mo_23 rfl rfl ?_
              refine J_iload_n d_Mo_screen_88 rfl rfl ?_
              refine J_iald d_Mo_screen_89 (gt0 hG) rfl (nb_in hb hn c14) ?_
              refine J_aload_n d_Mo_screen_90 rfl rfl ?_
              refine J_get d_Mo_screen_91 xf_Mo_23 rfl rfl ?_
              refine J_iload_n d_Mo_screen_94 rfl rfl ?_
              refine J_iald d_Mo_screen_95 (gt0 hG) rfl (nb_in hb hn c22) ?_
              refine J_icmp_ne (tgt := 119) d_Mo_screen_96 (by decide) (fun c96 => ?_) (fun c96 => ?_)
              · skip
                refine J_iconst (v := 0) d_Mo_screen_119 (by decide) ?_
                refine J_istore d_Mo_screen_120 (by decide) ?_
                refine J_iload d_Mo_screen_122 rfl ?_
                refine J_if_lt (tgt := 150) d_Mo_screen_124 (by decide) (fun c124 => ?_) (fun c124 => ?_)
                · skip
                  refine J_iconst (v := 0) d_Mo_screen_150 (by decide) ?_
                  refine J_istore d_Mo_screen_151 (by decide) ?_
                  refine J_aload_n d_Mo_screen_153 rfl rfl ?_
                  refine J_iload d_Mo_screen_154 rfl ?_
                  refine J_if_eq (tgt := 173) d_Mo_screen_156 (by decide) (fun _ => ?_) (fun q => absurd (by decide) q)
                  refine J_iconst (v := 2) d_Mo_screen_173 (by decide) ?_
                  refine J_put d_Mo_screen_174 xf_Mo_62 xt_Mo (fun _ _ _ h => by cases h; rfl) rfl rfl rfl (Nat.le_of_ble_eq_true rfl) ?_
                  refine J_heap (h2 := ch sa sb lt tt lg bc gi go sh bn sc rw dy pt (mh (2) ab be lgm ltm smm bs kd mo dr wa re lom him scm ou sr gim gom shm rwm dym ptm td tw R)) rfl ?_
                  refine J_aload_n d_Mo_screen_177 rfl rfl ?_
                  refine J_get d_Mo_screen_178 xf_Mo_62 rfl rfl ?_
                  refine J_if_ne (tgt := 263) d_Mo_screen_181 (by decide) (fun _ => ?_) (fun q => absurd (by decide) q)
                  exact J_return d_Mo_screen_263 rfl (by rw [xif_pos ⟨c1, c6, c14, c22, c31⟩, xif_neg (fun q => by first | exact q.1 c62 | exact c62 q.1)] <;> try rfl)
                · skip
                  refine J_iload d_Mo_screen_127 rfl ?_
                  refine J_if_lt (tgt := 150) d_Mo_screen_129 (by decide) (fun c129 => ?_) (fun c129 => ?_)
                  · skip
                    refine J_iconst (v := 0) d_Mo_screen_150 (by decide) ?_
                    refine J_istore d_Mo_screen_151 (by decide) ?_
                    refine J_aload_n d_Mo_screen_153 rfl rfl ?_
                    refine J_iload d_Mo_screen_154 rfl ?_
                    refine J_if_eq (tgt := 173) d_Mo_screen_156 (by decide) (fun _ => ?_) (fun q => absurd (by decide) q)
                    refine J_iconst (v := 2) d_Mo_screen_173 (by decide) ?_
                    refine J_put d_Mo_screen_174 xf_Mo_62 xt_Mo (fun _ _ _ h => by cases h; rfl) rfl rfl rfl (Nat.le_of_ble_eq_true rfl) ?_
                    refine J_heap (h2 := ch sa sb lt tt lg bc gi go sh bn sc rw dy pt (mh (2) ab be lgm ltm smm bs kd mo dr wa re lom him scm ou sr gim gom shm rwm dym ptm td tw R)) rfl ?_
                    refine J_aload_n d_Mo_screen_177 rfl rfl ?_
                    refine J_get d_Mo_screen_178 xf_Mo_62 rfl rfl ?_
                    refine J_if_ne (tgt := 263) d_Mo_screen_181 (by decide) (fun _ => ?_) (fun q => absurd (by decide) q)
                    exact J_return d_Mo_screen_263 rfl (by rw [xif_pos ⟨c1, c6, c14, c22, c31⟩, xif_neg (fun q => by first | exact q.1 c62 | exact c62 q.1)] <;> try rfl)
                  · skip
                    refine J_iload d_Mo_screen_132 rfl ?_
                    refine J_i2l d_Mo_screen_134 ?_
                    refine J_iload d_Mo_screen_135 rfl ?_
                    refine J_i2l d_Mo_screen_137 ?_
                    refine J_ladd d_Mo_screen_138 ?_
                    refine J_ldc2_w d_Mo_screen_139 xj_Mo_110 ?_
                    refine J_lcmp d_Mo_screen_142 ?_
                    refine J_lif_gt (tgt := 150) d_Mo_screen_143 (by decide) (fun c143 => ?_) (fun c143 => ?_)
                    · skip
                      refine J_iconst (v := 0) d_Mo_screen_150 (by decide) ?_
                      refine J_istore d_Mo_screen_151 (by decide) ?_
                      refine J_aload_n d_Mo_screen_153 rfl rfl ?_
                      refine J_iload d_Mo_screen_154 rfl ?_
                      refine J_if_eq (tgt := 173) d_Mo_screen_156 (by decide) (fun _ => ?_) (fun q => absurd (by decide) q)
                      refine J_iconst (v := 2) d_Mo_screen_173 (by decide) ?_
                      refine J_put d_Mo_screen_174 xf_Mo_62 xt_Mo (fun _ _ _ h => by cases h; rfl) rfl rfl rfl (Nat.le_of_ble_eq_true rfl) ?_
                      refine J_heap (h2 := ch sa sb lt tt lg bc gi go sh bn sc rw dy pt (mh (2) ab be lgm ltm smm bs kd mo dr wa re lom him scm ou sr gim gom shm rwm dym ptm td tw R)) rfl ?_
                      refine J_aload_n d_Mo_screen_177 rfl rfl ?_
                      refine J_get d_Mo_screen_178 xf_Mo_62 rfl rfl ?_
                      refine J_if_ne (tgt := 263) d_Mo_screen_181 (by decide) (fun _ => ?_) (fun q => absurd (by decide) q)
                      exact J_return d_Mo_screen_263 rfl (by rw [xif_pos ⟨c1, c6, c14, c22, c31⟩, xif_neg (fun q => by first | exact q.1 c62 | exact c62 q.1)] <;> try rfl)
                    · skip
                      refine J_iconst (v := 1) d_Mo_screen_146 (by decide) ?_
                      refine J_goto (tgt := 151) d_Mo_screen_147 (by decide) ?_
                      refine J_istore d_Mo_screen_151 (by decide) ?_
                      refine J_aload_n d_Mo_screen_153 rfl rfl ?_
                      refine J_iload d_Mo_screen_154 rfl ?_
                      refine J_if_eq (tgt := 173) d_Mo_screen_156 (by decide) (fun _ => ?_) (fun q => absurd (by decide) q)
                      refine J_iconst (v := 2) d_Mo_screen_173 (by decide) ?_
                      refine J_put d_Mo_screen_174 xf_Mo_62 xt_Mo (fun _ _ _ h => by cases h; rfl) rfl rfl rfl (Nat.le_of_ble_eq_true rfl) ?_
                      refine J_heap (h2 := ch sa sb lt tt lg bc gi go sh bn sc rw dy pt (mh (2) ab be lgm ltm smm bs kd mo dr wa re lom him scm ou sr gim gom shm rwm dym ptm td tw R)) rfl ?_
                      refine J_aload_n d_Mo_screen_177 rfl rfl ?_
                      refine J_get d_Mo_screen_178 xf_Mo_62 rfl rfl ?_
                      refine J_if_ne (tgt := 263) d_Mo_screen_181 (by decide) (fun _ => ?_) (fun q => absurd (by decide) q)
                      exact J_return d_Mo_screen_263 rfl (by rw [xif_pos ⟨c1, c6, c14, c22, c31⟩, xif_neg (fun q => by first | exact q.1 c62 | exact c62 q.1)] <;> try rfl)
              · skip
                have c96 := Classical.not_not.mp c96
                refine J_aload_n d_Mo_screen_99 rfl rfl ?_
                refine J_get d_Mo_screen_100 xf_Mo_23 rfl rfl ?_
                refine J_iload_n d_Mo_screen_103 rfl rfl ?_
                refine J_iald d_Mo_screen_104 (gt0 hG) rfl (nb_in hb hn c22) ?_
                refine J_aload_n d_Mo_screen_105 rfl rfl ?_
                refine J_get d_Mo_screen_106 xf_Mo_23 rfl rfl ?_
                refine J_iload d_Mo_screen_109 rfl ?_
                refine J_iald d_Mo_screen_111 (gt0 hG) rfl (nb_in hb hn c31) ?_
                refine J_icmp_ne (tgt := 119) d_Mo_screen_112 (by decide) (fun c112 => ?_) (fun c112 => ?_)
                · skip
                  refine J_iconst (v := 0) d_Mo_screen_119 (by decide) ?_
                  refine J_istore d_Mo_screen_120 (by decide) ?_
                  refine J_iload d_Mo_screen_122 rfl ?_
                  refine J_if_lt (tgt := 150) d_Mo_screen_124 (by decide) (fun c124 => ?_) (fun c124 => ?_)
                  · skip
                    refine J_iconst (v := 0) d_Mo_screen_150 (by decide) ?_
                    refine J_istore d_Mo_screen_151 (by decide) ?_
                    refine J_aload_n d_Mo_screen_153 rfl rfl ?_
                    refine J_iload d_Mo_screen_154 rfl ?_
                    refine J_if_eq (tgt := 173) d_Mo_screen_156 (by decide) (fun _ => ?_) (fun q => absurd (by decide) q)
                    refine J_iconst (v := 2) d_Mo_screen_173 (by decide) ?_
                    refine J_put d_Mo_screen_174 xf_Mo_62 xt_Mo (fun _ _ _ h => by cases h; rfl) rfl rfl rfl (Nat.le_of_ble_eq_true rfl) ?_
                    refine J_heap (h2 := ch sa sb lt tt lg bc gi go sh bn sc rw dy pt (mh (2) ab be lgm ltm smm bs kd mo dr wa re lom him scm ou sr gim gom shm rwm dym ptm td tw R)) rfl ?_
                    refine J_aload_n d_Mo_screen_177 rfl rfl ?_
                    refine J_get d_Mo_screen_178 xf_Mo_62 rfl rfl ?_
                    refine J_if_ne (tgt := 263) d_Mo_screen_181 (by decide) (fun _ => ?_) (fun q => absurd (by decide) q)
                    exact J_return d_Mo_screen_263 rfl (by rw [xif_pos ⟨c1, c6, c14, c22, c31⟩, xif_neg (fun q => by first | exact q.1 c62 | exact c62 q.1)] <;> try rfl)
                  · skip
                    refine J_iload d_Mo_screen_127 rfl ?_
                    refine J_if_lt (tgt := 150) d_Mo_screen_129 (by decide) (fun c129 => ?_) (fun c129 => ?_)
                    · skip
                      refine J_iconst (v := 0) d_Mo_screen_150 (by decide) ?_
                      refine J_istore d_Mo_screen_151 (by decide) ?_
                      refine J_aload_n d_Mo_screen_153 rfl rfl ?_
                      refine J_iload d_Mo_screen_154 rfl ?_
                      refine J_if_eq (tgt := 173) d_Mo_screen_156 (by decide) (fun _ => ?_) (fun q => absurd (by decide) q)
                      refine J_iconst (v := 2) d_Mo_screen_173 (by decide) ?_
                      refine J_put d_Mo_screen_174 xf_Mo_62 xt_Mo (fun _ _ _ h => by cases h; rfl) rfl rfl rfl (Nat.le_of_ble_eq_true rfl) ?_
                      refine J_heap (h2 := ch sa sb lt tt lg bc gi go sh bn sc rw dy pt (mh (2) ab be lgm ltm smm bs kd mo dr wa re lom him scm ou sr gim gom shm rwm dym ptm td tw R)) rfl ?_
                      refine J_aload_n d_Mo_screen_177 rfl rfl ?_
                      refine J_get d_Mo_screen_178 xf_Mo_62 rfl rfl ?_
                      refine J_if_ne (tgt := 263) d_Mo_screen_181 (by decide) (fun _ => ?_) (fun q => absurd (by decide) q)
                      exact J_return d_Mo_screen_263 rfl (by rw [xif_pos ⟨c1, c6, c14, c22, c31⟩, xif_neg (fun q => by first | exact q.1 c62 | exact c62 q.1)] <;> try rfl)
                    · skip
                      refine J_iload d_Mo_screen_132 rfl ?_
                      refine J_i2l d_Mo_screen_134 ?_
                      refine J_iload d_Mo_screen_135 rfl ?_
                      refine J_i2l d_Mo_screen_137 ?_
                      refine J_ladd d_Mo_screen_138 ?_
                      refine J_ldc2_w d_Mo_screen_139 xj_Mo_110 ?_
                      refine J_lcmp d_Mo_screen_142 ?_
                      refine J_lif_gt (tgt := 150) d_Mo_screen_143 (by decide) (fun c143 => ?_) (fun c143 => ?_)
                      · skip
                        refine J_iconst (v := 0) d_Mo_screen_150 (by decide) ?_
                        refine J_istore d_Mo_screen_151 (by decide) ?_
                        refine J_aload_n d_Mo_screen_153 rfl rfl ?_
                        refine J_iload d_Mo_screen_154 rfl ?_
                        refine J_if_eq (tgt := 173) d_Mo_screen_156 (by decide) (fun _ => ?_) (fun q => absurd (by decide) q)
                        refine J_iconst (v := 2) d_Mo_screen_173 (by decide) ?_
                        refine J_put d_Mo_screen_174 xf_Mo_62 xt_Mo (fun _ _ _ h => by cases h; rfl) rfl rfl rfl (Nat.le_of_ble_eq_true rfl) ?_
                        refine J_heap (h2 := ch sa sb lt tt lg bc gi go sh bn sc rw dy pt (mh (2) ab be lgm ltm smm bs kd mo dr wa re lom him scm ou sr gim gom shm rwm dym ptm td tw R)) rfl ?_
                        refine J_aload_n d_Mo_screen_177 rfl rfl ?_
                        refine J_get d_Mo_screen_178 xf_Mo_62 rfl rfl ?_
                        refine J_if_ne (tgt := 263) d_Mo_screen_181 (by decide) (fun _ => ?_) (fun q => absurd (by decide) q)
                        exact J_return d_Mo_screen_263 rfl (by rw [xif_pos ⟨c1, c6, c14, c22, c31⟩, xif_neg (fun q => by first | exact q.1 c62 | exact c62 q.1)] <;> try rfl)
                      · skip
                        refine J_iconst (v := 1) d_Mo_screen_146 (by decide) ?_
                        refine J_goto (tgt := 151) d_Mo_screen_147 (by decide) ?_
                        refine J_istore d_Mo_screen_151 (by decide) ?_
                        refine J_aload_n d_Mo_screen_153 rfl rfl ?_
                        refine J_iload d_Mo_screen_154 rfl ?_
                        refine J_if_eq (tgt := 173) d_Mo_screen_156 (by decide) (fun _ => ?_) (fun q => absurd (by decide) q)
                        refine J_iconst (v := 2) d_Mo_screen_173 (by decide) ?_
                        refine J_put d_Mo_screen_174 xf_Mo_62 xt_Mo (fun _ _ _ h => by cases h; rfl) rfl rfl rfl (Nat.le_of_ble_eq_true rfl) ?_
                        refine J_heap (h2 := ch sa sb lt tt lg bc gi go sh bn sc rw dy pt (mh (2) ab be lgm ltm smm bs kd mo dr wa re lom him scm ou sr gim gom shm rwm dym ptm td tw R)) rfl ?_
                        refine J_aload_n d_Mo_screen_177 rfl rfl ?_
                        refine J_get d_Mo_screen_178 xf_Mo_62 rfl rfl ?_
                        refine J_if_ne (tgt := 263) d_Mo_screen_181 (by decide) (fun _ => ?_) (fun q => absurd (by decide) q)
                        exact J_return d_Mo_screen_263 rfl (by rw [xif_pos ⟨c1, c6, c14, c22, c31⟩, xif_neg (fun q => by first | exact q.1 c62 | exact c62 q.1)] <;> try rfl)
                · skip
                  have c112 := Classical.not_not.mp c112
                  refine J_iconst (v := 1) d_Mo_screen_115 (by decide) ?_
                  refine J_goto (tgt := 120) d_Mo_screen_116 (by decide) ?_
                  refine J_istore d_Mo_screen_120 (by decide) ?_
                  refine J_iload d_Mo_screen_122 rfl ?_
                  refine J_if_lt (tgt := 150) d_Mo_screen_124 (by decide) (fun c124 => ?_) (fun c124 => ?_)
                  · skip
                    refine J_iconst (v := 0) d_Mo_screen_150 (by decide) ?_
                    refine J_istore d_Mo_screen_151 (by decide) ?_
                    refine J_aload_n d_Mo_screen_153 rfl rfl ?_
                    refine J_iload d_Mo_screen_154 rfl ?_
                    refine J_if_eq (tgt := 173) d_Mo_screen_156 (by decide) (fun _ => ?_) (fun q => absurd (by decide) q)
                    refine J_iconst (v := 2) d_Mo_screen_173 (by decide) ?_
                    refine J_put d_Mo_screen_174 xf_Mo_62 xt_Mo (fun _ _ _ h => by cases h; rfl) rfl rfl rfl (Nat.le_of_ble_eq_true rfl) ?_
                    refine J_heap (h2 := ch sa sb lt tt lg bc gi go sh bn sc rw dy pt (mh (2) ab be lgm ltm smm bs kd mo dr wa re lom him scm ou sr gim gom shm rwm dym ptm td tw R)) rfl ?_
                    refine J_aload_n d_Mo_screen_177 rfl rfl ?_
                    refine J_get d_Mo_screen_178 xf_Mo_62 rfl rfl ?_
                    refine J_if_ne (tgt := 263) d_Mo_screen_181 (by decide) (fun _ => ?_) (fun q => absurd (by decide) q)
                    exact J_return d_Mo_screen_263 rfl (by rw [xif_pos ⟨c1, c6, c14, c22, c31⟩, xif_neg (fun q => by first | exact q.1 c62 | exact c62 q.1)] <;> try rfl)
                  · skip
                    refine J_iload d_Mo_screen_127 rfl ?_
                    refine J_if_lt (tgt := 150) d_Mo_screen_129 (by decide) (fun c129 => ?_) (fun c129 => ?_)
                    · skip
                      refine J_iconst (v := 0) d_Mo_screen_150 (by decide) ?_
                      refine J_istore d_Mo_screen_151 (by decide) ?_
                      refine J_aload_n d_Mo_screen_153 rfl rfl ?_
                      refine J_iload d_Mo_screen_154 rfl ?_
                      refine J_if_eq (tgt := 173) d_Mo_screen_156 (by decide) (fun _ => ?_) (fun q => absurd (by decide) q)
                      refine J_iconst (v := 2) d_Mo_screen_173 (by decide) ?_
                      refine J_put d_Mo_screen_174 xf_Mo_62 xt_Mo (fun _ _ _ h => by cases h; rfl) rfl rfl rfl (Nat.le_of_ble_eq_true rfl) ?_
                      refine J_heap (h2 := ch sa sb lt tt lg bc gi go sh bn sc rw dy pt (mh (2) ab be lgm ltm smm bs kd mo dr wa re lom him scm ou sr gim gom shm rwm dym ptm td tw R)) rfl ?_
                      refine J_aload_n d_Mo_screen_177 rfl rfl ?_
                      refine J_get d_Mo_screen_178 xf_Mo_62 rfl rfl ?_
                      refine J_if_ne (tgt := 263) d_Mo_screen_181 (by decide) (fun _ => ?_) (fun q => absurd (by decide) q)
                      exact J_return d_Mo_screen_263 rfl (by rw [xif_pos ⟨c1, c6, c14, c22, c31⟩, xif_neg (fun q => by first | exact q.1 c62 | exact c62 q.1)] <;> try rfl)
                    · skip
                      refine J_iload d_Mo_screen_132 rfl ?_
                      refine J_i2l d_Mo_screen_134 ?_
                      refine J_iload d_Mo_screen_135 rfl ?_
                      refine J_i2l d_Mo_screen_137 ?_
                      refine J_ladd d_Mo_screen_138 ?_
                      refine J_ldc2_w d_Mo_screen_139 xj_Mo_110 ?_
                      refine J_lcmp d_Mo_screen_142 ?_
                      refine J_lif_gt (tgt := 150) d_Mo_screen_143 (by decide) (fun c143 => ?_) (fun c143 => ?_)
                      · skip
                        refine J_iconst (v := 0) d_Mo_screen_150 (by decide) ?_
                        refine J_istore d_Mo_screen_151 (by decide) ?_
                        refine J_aload_n d_Mo_screen_153 rfl rfl ?_
                        refine J_iload d_Mo_screen_154 rfl ?_
                        refine J_if_eq (tgt := 173) d_Mo_screen_156 (by decide) (fun _ => ?_) (fun q => absurd (by decide) q)
                        refine J_iconst (v := 2) d_Mo_screen_173 (by decide) ?_
                        refine J_put d_Mo_screen_174 xf_Mo_62 xt_Mo (fun _ _ _ h => by cases h; rfl) rfl rfl rfl (Nat.le_of_ble_eq_true rfl) ?_
                        refine J_heap (h2 := ch sa sb lt tt lg bc gi go sh bn sc rw dy pt (mh (2) ab be lgm ltm smm bs kd mo dr wa re lom him scm ou sr gim gom shm rwm dym ptm td tw R)) rfl ?_
                        refine J_aload_n d_Mo_screen_177 rfl rfl ?_
                        refine J_get d_Mo_screen_178 xf_Mo_62 rfl rfl ?_
                        refine J_if_ne (tgt := 263) d_Mo_screen_181 (by decide) (fun _ => ?_) (fun q => absurd (by decide) q)
                        exact J_return d_Mo_screen_263 rfl (by rw [xif_pos ⟨c1, c6, c14, c22, c31⟩, xif_neg (fun q => by first | exact q.1 c62 | exact c62 q.1)] <;> try rfl)
                      · skip
                        refine J_iconst (v := 1) d_Mo_screen_146 (by decide) ?_
                        refine J_goto (tgt := 151) d_Mo_screen_147 (by decide) ?_
                        refine J_istore d_Mo_screen_151 (by decide) ?_
                        refine J_aload_n d_Mo_screen_153 rfl rfl ?_
                        refine J_iload d_Mo_screen_154 rfl ?_
                        refine J_if_eq (tgt := 173) d_Mo_screen_156 (by decide) (fun _ => ?_) (fun q => absurd (by decide) q)
                        refine J_iconst (v := 2) d_Mo_screen_173 (by decide) ?_
                        refine J_put d_Mo_screen_174 xf_Mo_62 xt_Mo (fun _ _ _ h => by cases h; rfl) rfl rfl rfl (Nat.le_of_ble_eq_true rfl) ?_
                        refine J_heap (h2 := ch sa sb lt tt lg bc gi go sh bn sc rw dy pt (mh (2) ab be lgm ltm smm bs kd mo dr wa re lom him scm ou sr gim gom shm rwm dym ptm td tw R)) rfl ?_
                        refine J_aload_n d_Mo_screen_177 rfl rfl ?_
                        refine J_get d_Mo_screen_178 xf_Mo_62 rfl rfl ?_
                        refine J_if_ne (tgt := 263) d_Mo_screen_181 (by decide) (fun _ => ?_) (fun q => absurd (by decide) q)
                        exact J_return d_Mo_screen_263 rfl (by rw [xif_pos ⟨c1, c6, c14, c22, c31⟩, xif_neg (fun q => by first | exact q.1 c62 | exact c62 q.1)] <;> try rfl)
            · skip
              refine J_iload_n d_Mo_screen_65 rfl rfl ?_
              refine J_iload d_Mo_screen_66 rfl ?_
              refine J_icmp_eq (tgt := 81) d_Mo_screen_68 (by decide) (fun c68 => ?_) (fun c68 => ?_)
              · skip
                refine J_iconst (v := 0) d_Mo_screen_81 (by decide) ?_
                refine J_istore d_Mo_screen_82 (by decide) ?_
                refine J_aload_n d_Mo_screen_84 rfl rfl ?_
                refine J_get d_Mo_screen_85 xf_Mo_23 rfl rfl ?_
                refine J_iload_n d_Mo_screen_88 rfl rfl ?_
                refine J_iald d_Mo_screen_89 (gt0 hG) rfl (nb_in hb hn c14) ?_
                refine J_aload_n d_Mo_screen_90 rfl rfl ?_
                refine J_get d_Mo_screen_91 xf_Mo_23 rfl rfl ?_
                refine J_iload_n d_Mo_screen_94 rfl rfl ?_
                refine J_iald d_Mo_screen_95 (gt0 hG) rfl (nb_in hb hn c22) ?_
                refine J_icmp_ne (tgt := 119) d_Mo_screen_96 (by decide) (fun c96 => ?_) (fun c96 => ?_)
                · skip
                  refine J_iconst (v := 0) d_Mo_screen_119 (by decide) ?_
                  refine J_istore d_Mo_screen_120 (by decide) ?_
                  refine J_iload d_Mo_screen_122 rfl ?_
                  refine J_if_lt (tgt := 150) d_Mo_screen_124 (by decide) (fun c124 => ?_) (fun c124 => ?_)
                  · skip
                    refine J_iconst (v := 0) d_Mo_screen_150 (by decide) ?_
                    refine J_istore d_Mo_screen_151 (by decide) ?_
                    refine J_aload_n d_Mo_screen_153 rfl rfl ?_
                    refine J_iload d_Mo_screen_154 rfl ?_
                    refine J_if_eq (tgt := 173) d_Mo_screen_156 (by decide) (fun _ => ?_) (fun q => absurd (by decide) q)
                    refine J_iconst (v := 2) d_Mo_screen_173 (by decide) ?_
                    refine J_put d_Mo_screen_174 xf_Mo_62 xt_Mo (fun _ _ _ h => by cases h; rfl) rfl rfl rfl (Nat.le_of_ble_eq_true rfl) ?_
                    refine J_heap (h2 := ch sa sb lt tt lg bc gi go sh bn sc rw dy pt (mh (2) ab be lgm ltm smm bs kd mo dr wa re lom him scm ou sr gim gom shm rwm dym ptm td tw R)) rfl ?_
                    refine J_aload_n d_Mo_screen_177 rfl rfl ?_
                    refine J_get d_Mo_screen_178 xf_Mo_62 rfl rfl ?_
                    refine J_if_ne (tgt := 263) d_Mo_screen_181 (by decide) (fun _ => ?_) (fun q => absurd (by decide) q)
                    exact J_return d_Mo_screen_263 rfl (by rw [xif_pos ⟨c1, c6, c14, c22, c31⟩, xif_neg (fun q => by first | exact q.2.1 c68 | exact c68 q.2.1)] <;> try rfl)
                  · skip
                    refine J_iload d_Mo_screen_127 rfl ?_
                    refine J_if_lt (tgt := 150) d_Mo_screen_129 (by decide) (fun c129 => ?_) (fun c129 => ?_)
                    · skip
                      refine J_iconst (v := 0) d_Mo_screen_150 (by decide) ?_
                      refine J_istore d_Mo_screen_151 (by decide) ?_
                      refine J_aload_n d_Mo_screen_153 rfl rfl ?_
                      refine J_iload d_Mo_screen_154 rfl ?_
                      refine J_if_eq (tgt := 173) d_Mo_screen_156 (by decide) (fun _ => ?_) (fun q => absurd (by decide) q)
                      refine J_iconst (v := 2) d_Mo_screen_173 (by decide) ?_
                      refine J_put d_Mo_screen_174 xf_Mo_62 xt_Mo (fun _ _ _ h => by cases h; rfl) rfl rfl rfl (Nat.le_of_ble_eq_true rfl) ?_
                      refine J_heap (h2 := ch sa sb lt tt lg bc gi go sh bn sc rw dy pt (mh (2) ab be lgm ltm smm bs kd mo dr wa re lom him scm ou sr gim gom shm rwm dym ptm td tw R)) rfl ?_
                      refine J_aload_n d_Mo_screen_177 rfl rfl ?_
                      refine J_get d_Mo_screen_178 xf_Mo_62 rfl rfl ?_
                      refine J_if_ne (tgt := 263) d_Mo_screen_181 (by decide) (fun _ => ?_) (fun q => absurd (by decide) q)
                      exact J_return d_Mo_screen_263 rfl (by rw [xif_pos ⟨c1, c6, c14, c22, c31⟩, xif_neg (fun q => by first | exact q.2.1 c68 | exact c68 q.2.1)] <;> try rfl)
                    · skip
                      refine J_iload d_Mo_screen_132 rfl ?_
                      refine J_i2l d_Mo_screen_134 ?_
                      refine J_iload d_Mo_screen_135 rfl ?_
                      refine J_i2l d_Mo_screen_137 ?_
                      refine J_ladd d_Mo_screen_138 ?_
                      refine J_ldc2_w d_Mo_screen_139 xj_Mo_110 ?_
                      refine J_lcmp d_Mo_screen_142 ?_
                      refine J_lif_gt (tgt := 150) d_Mo_screen_143 (by decide) (fun c143 => ?_) (fun c143 => ?_)
                      · skip
                        refine J_iconst (v := 0) d_Mo_screen_150 (by decide) ?_
                        refine J_istore d_Mo_screen_151 (by decide) ?_
                        refine J_aload_n d_Mo_screen_153 rfl rfl ?_
                        refine J_iload d_Mo_screen_154 rfl ?_
                        refine J_if_eq (tgt := 173) d_Mo_screen_156 (by decide) (fun _ => ?_) (fun q => absurd (by decide) q)
                        refine J_iconst (v := 2) d_Mo_screen_173 (by decide) ?_
                        refine J_put d_Mo_screen_174 xf_Mo_62 xt_Mo (fun _ _ _ h => by cases h; rfl) rfl rfl rfl (Nat.le_of_ble_eq_true rfl) ?_
                        refine J_heap (h2 := ch sa sb lt tt lg bc gi go sh bn sc rw dy pt (mh (2) ab be lgm ltm smm bs kd mo dr wa re lom him scm ou sr gim gom shm rwm dym ptm td tw R)) rfl ?_
                        refine J_aload_n d_Mo_screen_177 rfl rfl ?_
                        refine J_get d_Mo_screen_178 xf_Mo_62 rfl rfl ?_
                        refine J_if_ne (tgt := 263) d_Mo_screen_181 (by decide) (fun _ => ?_) (fun q => absurd (by decide) q)
                        exact J_return d_Mo_screen_263 rfl (by rw [xif_pos ⟨c1, c6, c14, c22, c31⟩, xif_neg (fun q => by first | exact q.2.1 c68 | exact c68 q.2.1)] <;> try rfl)
                      · skip
                        refine J_iconst (v := 1) d_Mo_screen_146 (by decide) ?_
                        refine J_goto (tgt := 151) d_Mo_screen_147 (by decide) ?_
                        refine J_istore d_Mo_screen_151 (by decide) ?_
                        refine J_aload_n d_Mo_screen_153 rfl rfl ?_
                        refine J_iload d_Mo_screen_154 rfl ?_
                        refine J_if_eq (tgt := 173) d_Mo_screen_156 (by decide) (fun _ => ?_) (fun q => absurd (by decide) q)
                        refine J_iconst (v := 2) d_Mo_screen_173 (by decide) ?_
                        refine J_put d_Mo_screen_174 xf_Mo_62 xt_Mo (fun _ _ _ h => by cases h; rfl) rfl rfl rfl (Nat.le_of_ble_eq_true rfl) ?_
                        refine J_heap (h2 := ch sa sb lt tt lg bc gi go sh bn sc rw dy pt (mh (2) ab be lgm ltm smm bs kd mo dr wa re lom him scm ou sr gim gom shm rwm dym ptm td tw R)) rfl ?_
                        refine J_aload_n d_Mo_screen_177 rfl rfl ?_
                        refine J_get d_Mo_screen_178 xf_Mo_62 rfl rfl ?_
                        refine J_if_ne (tgt := 263) d_Mo_screen_181 (by decide) (fun _ => ?_) (fun q => absurd (by decide) q)
                        exact J_return d_Mo_screen_263 rfl (by rw [xif_pos ⟨c1, c6, c14, c22, c31⟩, xif_neg (fun q => by first | exact q.2.1 c68 | exact c68 q.2.1)] <;> try rfl)
                · skip
                  have c96 := Classical.not_not.mp c96
                  refine J_aload_n d_Mo_screen_99 rfl rfl ?_
                  refine J_get d_Mo_screen_100 xf_Mo_23 rfl rfl ?_
                  refine J_iload_n d_Mo_screen_103 rfl rfl ?_
                  refine J_iald d_Mo_screen_104 (gt0 hG) rfl (nb_in hb hn c22) ?_
                  refine J_aload_n d_Mo_screen_105 rfl rfl ?_
                  refine J_get d_Mo_screen_106 xf_Mo_23 rfl rfl ?_
                  refine J_iload d_Mo_screen_109 rfl ?_
                  refine J_iald d_Mo_screen_111 (gt0 hG) rfl (nb_in hb hn c31) ?_
                  refine J_icmp_ne (tgt := 119) d_Mo_screen_112 (by decide) (fun c112 => ?_) (fun c112 => ?_)
                  · skip
                    refine J_iconst (v := 0) d_Mo_screen_119 (by decide) ?_
                    refine J_istore d_Mo_screen_120 (by decide) ?_
                    refine J_iload d_Mo_screen_122 rfl ?_
                    refine J_if_lt (tgt := 150) d_Mo_screen_124 (by decide) (fun c124 => ?_) (fun c124 => ?_)
                    · skip
                      refine J_iconst (v := 0) d_Mo_screen_150 (by decide) ?_
                      refine J_istore d_Mo_screen_151 (by decide) ?_
                      refine J_aload_n d_Mo_screen_153 rfl rfl ?_
                      refine J_iload d_Mo_screen_154 rfl ?_
                      refine J_if_eq (tgt := 173) d_Mo_screen_156 (by decide) (fun _ => ?_) (fun q => absurd (by decide) q)
                      refine J_iconst (v := 2) d_Mo_screen_173 (by decide) ?_
                      refine J_put d_Mo_screen_174 xf_Mo_62 xt_Mo (fun _ _ _ h => by cases h; rfl) rfl rfl rfl (Nat.le_of_ble_eq_true rfl) ?_
                      refine J_heap (h2 := ch sa sb lt tt lg bc gi go sh bn sc rw dy pt (mh (2) ab be lgm ltm smm bs kd mo dr wa re lom him scm ou sr gim gom shm rwm dym ptm td tw R)) rfl ?_
                      refine J_aload_n d_Mo_screen_177 rfl rfl ?_
                      refine J_get d_Mo_screen_178 xf_Mo_62 rfl rfl ?_
                      refine J_if_ne (tgt := 263) d_Mo_screen_181 (by decide) (fun _ => ?_) (fun q => absurd (by decide) q)
                      exact J_return d_Mo_screen_263 rfl (by rw [xif_pos ⟨c1, c6, c14, c22, c31⟩, xif_neg (fun q => by first | exact q.2.1 c68 | exact c68 q.2.1)] <;> try rfl)
                    · skip
                      refine J_iload d_Mo_screen_127 rfl ?_
                      refine J_if_lt (tgt := 150) d_Mo_screen_129 (by decide) (fun c129 => ?_) (fun c129 => ?_)
                      · skip
                        refine J_iconst (v := 0) d_Mo_screen_150 (by decide) ?_
                        refine J_istore d_Mo_screen_151 (by decide) ?_
                        refine J_aload_n d_Mo_screen_153 rfl rfl ?_
                        refine J_iload d_Mo_screen_154 rfl ?_
                        refine J_if_eq (tgt := 173) d_Mo_screen_156 (by decide) (fun _ => ?_) (fun q => absurd (by decide) q)
                        refine J_iconst (v := 2) d_Mo_screen_173 (by decide) ?_
                        refine J_put d_Mo_screen_174 xf_Mo_62 xt_Mo (fun _ _ _ h => by cases h; rfl) rfl rfl rfl (Nat.le_of_ble_eq_true rfl) ?_
                        refine J_heap (h2 := ch sa sb lt tt lg bc gi go sh bn sc rw dy pt (mh (2) ab be lgm ltm smm bs kd mo dr wa re lom him scm ou sr gim gom shm rwm dym ptm td tw R)) rfl ?_
                        refine J_aload_n d_Mo_screen_177 rfl rfl ?_
                        refine J_get d_Mo_screen_178 xf_Mo_62 rfl rfl ?_
                        refine J_if_ne (tgt := 263) d_Mo_screen_181 (by decide) (fun _ => ?_) (fun q => absurd (by decide) q)
                        exact J_return d_Mo_screen_263 rfl (by rw [xif_pos ⟨c1, c6, c14, c22, c31⟩, xif_neg (fun q => by first | exact q.2.1 c68 | exact c68 q.2.1)] <;> try rfl)
                      · skip
                        refine J_iload d_Mo_screen_132 rfl ?_
                        refine J_i2l d_Mo_screen_134 ?_
                        refine J_iload d_Mo_screen_135 rfl ?_
                        refine J_i2l d_Mo_screen_137 ?_
                        refine J_ladd d_Mo_screen_138 ?_
                        refine J_ldc2_w d_Mo_screen_139 xj_Mo_110 ?_
                        refine J_lcmp d_Mo_screen_142 ?_
                        refine J_lif_gt (tgt := 150) d_Mo_screen_143 (by decide) (fun c143 => ?_) (fun c143 => ?_)
                        · skip
                          refine J_iconst (v := 0) d_Mo_screen_150 (by decide) ?_
                          refine J_istore d_Mo_screen_151 (by decide) ?_
                          refine J_aload_n d_Mo_screen_153 rfl rfl ?_
                          refine J_iload d_Mo_screen_154 rfl ?_
                          refine J_if_eq (tgt := 173) d_Mo_screen_156 (by decide) (fun _ => ?_) (fun q => absurd (by decide) q)
                          refine J_iconst (v := 2) d_Mo_screen_173 (by decide) ?_
                          refine J_put d_Mo_screen_174 xf_Mo_62 xt_Mo (fun _ _ _ h => by cases h; rfl) rfl rfl rfl (Nat.le_of_ble_eq_true rfl) ?_
                          refine J_heap (h2 := ch sa sb lt tt lg bc gi go sh bn sc rw dy pt (mh (2) ab be lgm ltm smm bs kd mo dr wa re lom him scm ou sr gim gom shm rwm dym ptm td tw R)) rfl ?_
                          refine J_aload_n d_Mo_screen_177 rfl rfl ?_
                          refine J_get d_Mo_screen_178 xf_Mo_62 rfl rfl ?_
                          refine J_if_ne (tgt := 263) d_Mo_screen_181 (by decide) (fun _ => ?_) (fun q => absurd (by decide) q)
                          exact J_return d_Mo_screen_263 rfl (by rw [xif_pos ⟨c1, c6, c14, c22, c31⟩, xif_neg (fun q => by first | exact q.2.1 c68 | exact c68 q.2.1)] <;> try rfl)
                        · skip
                          refine J_iconst (v := 1) d_Mo_screen_146 (by decide) ?_
                          refine J_goto (tgt := 151) d_Mo_screen_147 (by decide) ?_
                          refine J_istore d_Mo_screen_151 (by decide) ?_
                          refine J_aload_n d_Mo_screen_153 rfl rfl ?_
                          refine J_iload d_Mo_screen_154 rfl ?_
                          refine J_if_eq (tgt := 173) d_Mo_screen_156 (by decide) (fun _ => ?_) (fun q => absurd (by decide) q)
                          refine J_iconst (v := 2) d_Mo_screen_173 (by decide) ?_
                          refine J_put d_Mo_screen_174 xf_Mo_62 xt_Mo (fun _ _ _ h => by cases h; rfl) rfl rfl rfl (Nat.le_of_ble_eq_true rfl) ?_
                          refine J_heap (h2 := ch sa sb lt tt lg bc gi go sh bn sc rw dy pt (mh (2) ab be lgm ltm smm bs kd mo dr wa re lom him scm ou sr gim gom shm rwm dym ptm td tw R)) rfl ?_
                          refine J_aload_n d_Mo_screen_177 rfl rfl ?_
                          refine J_get d_Mo_screen_178 xf_Mo_62 rfl rfl ?_
                          refine J_if_ne (tgt := 263) d_Mo_screen_181 (by decide) (fun _ => ?_) (fun q => absurd (by decide) q)
                          exact J_return d_Mo_screen_263 rfl (by rw [xif_pos ⟨c1, c6, c14, c22, c31⟩, xif_neg (fun q => by first | exact q.2.1 c68 | exact c68 q.2.1)] <;> try rfl)
                  · skip
                    have c112 := Classical.not_not.mp c112
                    refine J_iconst (v := 1) d_Mo_screen_115 (by decide) ?_
                    refine J_goto (tgt := 120) d_Mo_screen_116 (by decide) ?_
                    refine J_istore d_Mo_screen_120 (by decide) ?_
                    refine J_iload d_Mo_screen_122 rfl ?_
                    refine J_if_lt (tgt := 150) d_Mo_screen_124 (by decide) (fun c124 => ?_) (fun c124 => ?_)
                    · skip
                      refine J_iconst (v := 0) d_Mo_screen_150 (by decide) ?_
                      refine J_istore d_Mo_screen_151 (by decide) ?_
                      refine J_aload_n d_Mo_screen_153 rfl rfl ?_
                      refine J_iload d_Mo_screen_154 rfl ?_
                      refine J_if_eq (tgt := 173) d_Mo_screen_156 (by decide) (fun _ => ?_) (fun q => absurd (by decide) q)
                      refine J_iconst (v := 2) d_Mo_screen_173 (by decide) ?_
                      refine J_put d_Mo_screen_174 xf_Mo_62 xt_Mo (fun _ _ _ h => by cases h; rfl) rfl rfl rfl (Nat.le_of_ble_eq_true rfl) ?_
                      refine J_heap (h2 := ch sa sb lt tt lg bc gi go sh bn sc rw dy pt (mh (2) ab be lgm ltm smm bs kd mo dr wa re lom him scm ou sr gim gom shm rwm dym ptm td tw R)) rfl ?_
                      refine J_aload_n d_Mo_screen_177 rfl rfl ?_
                      refine J_get d_Mo_screen_178 xf_Mo_62 rfl rfl ?_
                      refine J_if_ne (tgt := 263) d_Mo_screen_181 (by decide) (fun _ => ?_) (fun q => absurd (by decide) q)
                      exact J_return d_Mo_screen_263 rfl (by rw [xif_pos ⟨c1, c6, c14, c22, c31⟩, xif_neg (fun q => by first | exact q.2.1 c68 | exact c68 q.2.1)] <;> try rfl)
                    · skip
                      refine J_iload d_Mo_screen_127 rfl ?_
                      refine J_if_lt (tgt := 150) d_Mo_screen_129 (by decide) (fun c129 => ?_) (fun c129 => ?_)
                      · skip
                        refine J_iconst (v := 0) d_Mo_screen_150 (by decide) ?_
                        refine J_istore d_Mo_screen_151 (by decide) ?_
                        refine J_aload_n d_Mo_screen_153 rfl rfl ?_
                        refine J_iload d_Mo_screen_154 rfl ?_
                        refine J_if_eq (tgt := 173) d_Mo_screen_156 (by decide) (fun _ => ?_) (fun q => absurd (by decide) q)
                        refine J_iconst (v := 2) d_Mo_screen_173 (by decide) ?_
                        refine J_put d_Mo_screen_174 xf_Mo_62 xt_Mo (fun _ _ _ h => by cases h; rfl) rfl rfl rfl (Nat.le_of_ble_eq_true rfl) ?_
                        refine J_heap (h2 := ch sa sb lt tt lg bc gi go sh bn sc rw dy pt (mh (2) ab be lgm ltm smm bs kd mo dr wa re lom him scm ou sr gim gom shm rwm dym ptm td tw R)) rfl ?_
                        refine J_aload_n d_Mo_screen_177 rfl rfl ?_
                        refine J_get d_Mo_screen_178 xf_Mo_62 rfl rfl ?_
                        refine J_if_ne (tgt := 263) d_Mo_screen_181 (by decide) (fun _ => ?_) (fun q => absurd (by decide) q)
                        exact J_return d_Mo_screen_263 rfl (by rw [xif_pos ⟨c1, c6, c14, c22, c31⟩, xif_neg (fun q => by first | exact q.2.1 c68 | exact c68 q.2.1)] <;> try rfl)
                      · skip
                        refine J_iload d_Mo_screen_132 rfl ?_
                        refine J_i2l d_Mo_screen_134 ?_
                        refine J_iload d_Mo_screen_135 rfl ?_
                        refine J_i2l d_Mo_screen_137 ?_
                        refine J_ladd d_Mo_screen_138 ?_
                        refine J_ldc2_w d_Mo_screen_139 xj_Mo_110 ?_
                        refine J_lcmp d_Mo_screen_142 ?_
                        refine J_lif_gt (tgt := 150) d_Mo_screen_143 (by decide) (fun c143 => ?_) (fun c143 => ?_)
                        · skip
                          refine J_iconst (v := 0) d_Mo_screen_150 (by decide) ?_
                          refine J_istore d_Mo_screen_151 (by decide) ?_
                          refine J_aload_n d_Mo_screen_153 rfl rfl ?_
                          refine J_iload d_Mo_screen_154 rfl ?_
                          refine J_if_eq (tgt := 173) d_Mo_screen_156 (by decide) (fun _ => ?_) (fun q => absurd (by decide) q)
                          refine J_iconst (v := 2) d_Mo_screen_173 (by decide) ?_
                          refine J_put d_Mo_screen_174 xf_Mo_62 xt_Mo (fun _ _ _ h => by cases h; rfl) rfl rfl rfl (Nat.le_of_ble_eq_true rfl) ?_
                          refine J_heap (h2 := ch sa sb lt tt lg bc gi go sh bn sc rw dy pt (mh (2) ab be lgm ltm smm bs kd mo dr wa re lom him scm ou sr gim gom shm rwm dym ptm td tw R)) rfl ?_
                          refine J_aload_n d_Mo_screen_177 rfl rfl ?_
                          refine J_get d_Mo_screen_178 xf_Mo_62 rfl rfl ?_
                          refine J_if_ne (tgt := 263) d_Mo_screen_181 (by decide) (fun _ => ?_) (fun q => absurd (by decide) q)
                          exact J_return d_Mo_screen_263 rfl (by rw [xif_pos ⟨c1, c6, c14, c22, c31⟩, xif_neg (fun q => by first | exact q.2.1 c68 | exact c68 q.2.1)] <;> try rfl)
                        · skip
                          refine J_iconst (v := 1) d_Mo_screen_146 (by decide) ?_
                          refine J_goto (tgt := 151) d_Mo_screen_147 (by decide) ?_
                          refine J_istore d_Mo_screen_151 (by decide) ?_
                          refine J_aload_n d_Mo_screen_153 rfl rfl ?_
                          refine J_iload d_Mo_screen_154 rfl ?_
                          refine J_if_eq (tgt := 173) d_Mo_screen_156 (by decide) (fun _ => ?_) (fun q => absurd (by decide) q)
                          refine J_iconst (v := 2) d_Mo_screen_173 (by decide) ?_
                          refine J_put d_Mo_screen_174 xf_Mo_62 xt_Mo (fun _ _ _ h => by cases h; rfl) rfl rfl rfl (Nat.le_of_ble_eq_true rfl) ?_
                          refine J_heap (h2 := ch sa sb lt tt lg bc gi go sh bn sc rw dy pt (mh (2) ab be lgm ltm smm bs kd mo dr wa re lom him scm ou sr gim gom shm rwm dym ptm td tw R)) rfl ?_
                          refine J_aload_n d_Mo_screen_177 rfl rfl ?_
                          refine J_get d_Mo_screen_178 xf_Mo_62 rfl rfl ?_
                          refine J_if_ne (tgt := 263) d_Mo_screen_181 (by decide) (fun _ => ?_) (fun q => absurd (by decide) q)
                          exact J_return d_Mo_screen_263 rfl (by rw [xif_pos ⟨c1, c6, c14, c22, c31⟩, xif_neg (fun q => by first | exact q.2.1 c68 | exact c68 q.2.1)] <;> try rfl)
              · skip
                refine J_iload_n d_Mo_screen_71 rfl rfl ?_
                refine J_iload d_Mo_screen_72 rfl ?_
                refine J_icmp_eq (tgt := 81) d_Mo_screen_74 (by decide) (fun c74 => ?_) (fun c74 => ?_)
                · skip
                  refine J_iconst (v := 0) d_Mo_screen_81 (by decide) ?_
                  refine J_istore d_Mo_screen_82 (by decide) ?_
                  refine J_aload_n d_Mo_screen_84 rfl rfl ?_
                  refine J_get d_Mo_screen_85 xf_Mo_23 rfl rfl ?_
                  refine J_iload_n d_Mo_screen_88 rfl rfl ?_
                  refine J_iald d_Mo_screen_89 (gt0 hG) rfl (nb_in hb hn c14) ?_
                  refine J_aload_n d_Mo_screen_90 rfl rfl ?_
                  refine J_get d_Mo_screen_91 xf_Mo_23 rfl rfl ?_
                  refine J_iload_n d_Mo_screen_94 rfl rfl ?_
                  refine J_iald d_Mo_screen_95 (gt0 hG) rfl (nb_in hb hn c22) ?_
                  refine J_icmp_ne (tgt := 119) d_Mo_screen_96 (by decide) (fun c96 => ?_) (fun c96 => ?_)
                  · skip
                    refine J_iconst (v := 0) d_Mo_screen_119 (by decide) ?_
                    refine J_istore d_Mo_screen_120 (by decide) ?_
                    refine J_iload d_Mo_screen_122 rfl ?_
                    refine J_if_lt (tgt := 150) d_Mo_screen_124 (by decide) (fun c124 => ?_) (fun c124 => ?_)
                    · skip
                      refine J_iconst (v := 0) d_Mo_screen_150 (by decide) ?_
                      refine J_istore d_Mo_screen_151 (by decide) ?_
                      refine J_aload_n d_Mo_screen_153 rfl rfl ?_
                      refine J_iload d_Mo_screen_154 rfl ?_
                      refine J_if_eq (tgt := 173) d_Mo_screen_156 (by decide) (fun _ => ?_) (fun q => absurd (by decide) q)
                      refine J_iconst (v := 2) d_Mo_screen_173 (by decide) ?_
                      refine J_put d_Mo_screen_174 xf_Mo_62 xt_Mo (fun _ _ _ h => by cases h; rfl) rfl rfl rfl (Nat.le_of_ble_eq_true rfl) ?_
                      refine J_heap (h2 := ch sa sb lt tt lg bc gi go sh bn sc rw dy pt (mh (2) ab be lgm ltm smm bs kd mo dr wa re lom him scm ou sr gim gom shm rwm dym ptm td tw R)) rfl ?_
                      refine J_aload_n d_Mo_screen_177 rfl rfl ?_
                      refine J_get d_Mo_screen_178 xf_Mo_62 rfl rfl ?_
                      refine J_if_ne (tgt := 263) d_Mo_screen_181 (by decide) (fun _ => ?_) (fun q => absurd (by decide) q)
                      exact J_return d_Mo_screen_263 rfl (by rw [xif_pos ⟨c1, c6, c14, c22, c31⟩, xif_neg (fun q => by first | exact q.2.2 c74 | exact c74 q.2.2)] <;> try rfl)
                    · skip
                      refine J_iload d_Mo_screen_127 rfl ?_
                      refine J_if_lt (tgt := 150) d_Mo_screen_129 (by decide) (fun c129 => ?_) (fun c129 => ?_)
                      · skip
                        refine J_iconst (v := 0) d_Mo_screen_150 (by decide) ?_
                        refine J_istore d_Mo_screen_151 (by decide) ?_
                        refine J_aload_n d_Mo_screen_153 rfl rfl ?_
                        refine J_iload d_Mo_screen_154 rfl ?_
                        refine J_if_eq (tgt := 173) d_Mo_screen_156 (by decide) (fun _ => ?_) (fun q => absurd (by decide) q)
                        refine J_iconst (v := 2) d_Mo_screen_173 (by decide) ?_
                        refine J_put d_Mo_screen_174 xf_Mo_62 xt_Mo (fun _ _ _ h => by cases h; rfl) rfl rfl rfl (Nat.le_of_ble_eq_true rfl) ?_
                        refine J_heap (h2 := ch sa sb lt tt lg bc gi go sh bn sc rw dy pt (mh (2) ab be lgm ltm smm bs kd mo dr wa re lom him scm ou sr gim gom shm rwm dym ptm td tw R)) rfl ?_
                        refine J_aload_n d_Mo_screen_177 rfl rfl ?_
                        refine J_get d_Mo_screen_178 xf_Mo_62 rfl rfl ?_
                        refine J_if_ne (tgt := 263) d_Mo_screen_181 (by decide) (fun _ => ?_) (fun q => absurd (by decide) q)
                        exact J_return d_Mo_screen_263 rfl (by rw [xif_pos ⟨c1, c6, c14, c22, c31⟩, xif_neg (fun q => by first | exact q.2.2 c74 | exact c74 q.2.2)] <;> try rfl)
                      · skip
                        refine J_iload d_Mo_screen_132 rfl ?_
                        refine J_i2l d_Mo_screen_134 ?_
                        refine J_iload d_Mo_screen_135 rfl ?_
                        refine J_i2l d_Mo_screen_137 ?_
                        refine J_ladd d_Mo_screen_138 ?_
                        refine J_ldc2_w d_Mo_screen_139 xj_Mo_110 ?_
                        refine J_lcmp d_Mo_screen_142 ?_
                        refine J_lif_gt (tgt := 150) d_Mo_screen_143 (by decide) (fun c143 => ?_) (fun c143 => ?_)
                        · skip
                          refine J_iconst (v := 0) d_Mo_screen_150 (by decide) ?_
                          refine J_istore d_Mo_screen_151 (by decide) ?_
                          refine J_aload_n d_Mo_screen_153 rfl rfl ?_
                          refine J_iload d_Mo_screen_154 rfl ?_
                          refine J_if_eq (tgt := 173) d_Mo_screen_156 (by decide) (fun _ => ?_) (fun q => absurd (by decide) q)
                          refine J_iconst (v := 2) d_Mo_screen_173 (by decide) ?_
                          refine J_put d_Mo_screen_174 xf_Mo_62 xt_Mo (fun _ _ _ h => by cases h; rfl) rfl rfl rfl (Nat.le_of_ble_eq_true rfl) ?_
                          refine J_heap (h2 := ch sa sb lt tt lg bc gi go sh bn sc rw dy pt (mh (2) ab be lgm ltm smm bs kd mo dr wa re lom him scm ou sr gim gom shm rwm dym ptm td tw R)) rfl ?_
                          refine J_aload_n d_Mo_screen_177 rfl rfl ?_
                          refine J_get d_Mo_screen_178 xf_Mo_62 rfl rfl ?_
                          refine J_if_ne (tgt := 263) d_Mo_screen_181 (by decide) (fun _ => ?_) (fun q => absurd (by decide) q)
                          exact J_return d_Mo_screen_263 rfl (by rw [xif_pos ⟨c1, c6, c14, c22, c31⟩, xif_neg (fun q => by first | exact q.2.2 c74 | exact c74 q.2.2)] <;> try rfl)
                        · skip
                          refine J_iconst (v := 1) d_Mo_screen_146 (by decide) ?_
                          refine J_goto (tgt := 151) d_Mo_screen_147 (by decide) ?_
                          refine J_istore d_Mo_screen_151 (by decide) ?_
                          refine J_aload_n d_Mo_screen_153 rfl rfl ?_
                          refine J_iload d_Mo_screen_154 rfl ?_
                          refine J_if_eq (tgt := 173) d_Mo_screen_156 (by decide) (fun _ => ?_) (fun q => absurd (by decide) q)
                          refine J_iconst (v := 2) d_Mo_screen_173 (by decide) ?_
                          refine J_put d_Mo_screen_174 xf_Mo_62 xt_Mo (fun _ _ _ h => by cases h; rfl) rfl rfl rfl (Nat.le_of_ble_eq_true rfl) ?_
                          refine J_heap (h2 := ch sa sb lt tt lg bc gi go sh bn sc rw dy pt (mh (2) ab be lgm ltm smm bs kd mo dr wa re lom him scm ou sr gim gom shm rwm dym ptm td tw R)) rfl ?_
                          refine J_aload_n d_Mo_screen_177 rfl rfl ?_
                          refine J_get d_Mo_screen_178 xf_Mo_62 rfl rfl ?_
                          refine J_if_ne (tgt := 263) d_Mo_screen_181 (by decide) (fun _ => ?_) (fun q => absurd (by decide) q)
                          exact J_return d_Mo_screen_263 rfl (by rw [xif_pos ⟨c1, c6, c14, c22, c31⟩, xif_neg (fun q => by first | exact q.2.2 c74 | exact c74 q.2.2)] <;> try rfl)
                  · skip
                    have c96 := Classical.not_not.mp c96
                    refine J_aload_n d_Mo_screen_99 rfl rfl ?_
                    refine J_get d_Mo_screen_100 xf_Mo_23 rfl rfl ?_
                    refine J_iload_n d_Mo_screen_103 rfl rfl ?_
                    refine J_iald d_Mo_screen_104 (gt0 hG) rfl (nb_in hb hn c22) ?_
                    refine J_aload_n d_Mo_screen_105 rfl rfl ?_
                    refine J_get d_Mo_screen_106 xf_Mo_23 rfl rfl ?_
                    refine J_iload d_Mo_screen_109 rfl ?_
                    refine J_iald d_Mo_screen_111 (gt0 hG) rfl (nb_in hb hn c31) ?_
                    refine J_icmp_ne (tgt := 119) d_Mo_screen_112 (by decide) (fun c112 => ?_) (fun c112 => ?_)
                    · skip
                      refine J_iconst (v := 0) d_Mo_screen_119 (by decide) ?_
                      refine J_istore d_Mo_screen_120 (by decide) ?_
                      refine J_iload d_Mo_screen_122 rfl ?_
                      refine J_if_lt (tgt := 150) d_Mo_screen_124 (by decide) (fun c124 => ?_) (fun c124 => ?_)
                      · skip
                        refine J_iconst (v := 0) d_Mo_screen_150 (by decide) ?_
                        refine J_istore d_Mo_screen_151 (by decide) ?_
                        refine J_aload_n d_Mo_screen_153 rfl rfl ?_
                        refine J_iload d_Mo_screen_154 rfl ?_
                        refine J_if_eq (tgt := 173) d_Mo_screen_156 (by decide) (fun _ => ?_) (fun q => absurd (by decide) q)
                        refine J_iconst (v := 2) d_Mo_screen_173 (by decide) ?_
                        refine J_put d_Mo_screen_174 xf_Mo_62 xt_Mo (fun _ _ _ h => by cases h; rfl) rfl rfl rfl (Nat.le_of_ble_eq_true rfl) ?_
                        refine J_heap (h2 := ch sa sb lt tt lg bc gi go sh bn sc rw dy pt (mh (2) ab be lgm ltm smm bs kd mo dr wa re lom him scm ou sr gim gom shm rwm dym ptm td tw R)) rfl ?_
                        refine J_aload_n d_Mo_screen_177 rfl rfl ?_
                        refine J_get d_Mo_screen_178 xf_Mo_62 rfl rfl ?_
                        refine J_if_ne (tgt := 263) d_Mo_screen_181 (by decide) (fun _ => ?_) (fun q => absurd (by decide) q)
                        exact J_return d_Mo_screen_263 rfl (by rw [xif_pos ⟨c1, c6, c14, c22, c31⟩, xif_neg (fun q => by first | exact q.2.2 c74 | exact c74 q.2.2)] <;> try rfl)
                      · skip
                        refine J_iload d_Mo_screen_127 rfl ?_
                        refine J_if_lt (tgt := 150) d_Mo_screen_129 (by decide) (fun c129 => ?_) (fun c129 => ?_)
                        · skip
                          refine J_iconst (v := 0) d_Mo_screen_150 (by decide) ?_
                          refine J_istore d_Mo_screen_151 (by decide) ?_
                          refine J_aload_n d_Mo_screen_153 rfl rfl ?_
                          refine J_iload d_Mo_screen_154 rfl ?_
                          refine J_if_eq (tgt := 173) d_Mo_screen_156 (by decide) (fun _ => ?_) (fun q => absurd (by decide) q)
                          refine J_iconst (v := 2) d_Mo_screen_173 (by decide) ?_
                          refine J_put d_Mo_screen_174 xf_Mo_62 xt_Mo (fun _ _ _ h => by cases h; rfl) rfl rfl rfl (Nat.le_of_ble_eq_true rfl) ?_
                          refine J_heap (h2 := ch sa sb lt tt lg bc gi go sh bn sc rw dy pt (mh (2) ab be lgm ltm smm bs kd mo dr wa re lom him scm ou sr gim gom shm rwm dym ptm td tw R)) rfl ?_
                          refine J_aload_n d_Mo_screen_177 rfl rfl ?_
                          refine J_get d_Mo_screen_178 xf_Mo_62 rfl rfl ?_
                          refine J_if_ne (tgt := 263) d_Mo_screen_181 (by decide) (fun _ => ?_) (fun q => absurd (by decide) q)
                          exact J_return d_Mo_screen_263 rfl (by rw [xif_pos ⟨c1, c6, c14, c22, c31⟩, xif_neg (fun q => by first | exact q.2.2 c74 | exact c74 q.2.2)] <;> try rfl)
                        · skip
                          refine J_iload d_Mo_screen_132 rfl ?_
                          refine J_i2l d_Mo_screen_134 ?_
                          refine J_iload d_Mo_screen_135 rfl ?_
                          refine J_i2l d_Mo_screen_137 ?_
                          refine J_ladd d_Mo_screen_138 ?_
                          refine J_ldc2_w d_Mo_screen_139 xj_Mo_110 ?_
                          refine J_lcmp d_Mo_screen_142 ?_
                          refine J_lif_gt (tgt := 150) d_Mo_screen_143 (by decide) (fun c143 => ?_) (fun c143 => ?_)
                          · skip
                            refine J_iconst (v := 0) d_Mo_screen_150 (by decide) ?_
                            refine J_istore d_Mo_screen_151 (by decide) ?_
                            refine J_aload_n d_Mo_screen_153 rfl rfl ?_
                            refine J_iload d_Mo_screen_154 rfl ?_
                            refine J_if_eq (tgt := 173) d_Mo_screen_156 (by decide) (fun _ => ?_) (fun q => absurd (by decide) q)
                            refine J_iconst (v := 2) d_Mo_screen_173 (by decide) ?_
                            refine J_put d_Mo_screen_174 xf_Mo_62 xt_Mo (fun _ _ _ h => by cases h; rfl) rfl rfl rfl (Nat.le_of_ble_eq_true rfl) ?_
                            refine J_heap (h2 := ch sa sb lt tt lg bc gi go sh bn sc rw dy pt (mh (2) ab be lgm ltm smm bs kd mo dr wa re lom him scm ou sr gim gom shm rwm dym ptm td tw R)) rfl ?_
                            refine J_aload_n d_Mo_screen_177 rfl rfl ?_
                            refine J_get d_Mo_screen_178 xf_Mo_62 rfl rfl ?_
                            refine J_if_ne (tgt := 263) d_Mo_screen_181 (by decide) (fun _ => ?_) (fun q => absurd (by decide) q)
                            exact J_return d_Mo_screen_263 rfl (by rw [xif_pos ⟨c1, c6, c14, c22, c31⟩, xif_neg (fun q => by first | exact q.2.2 c74 | exact c74 q.2.2)] <;> try rfl)
                          · skip
                            refine J_iconst (v := 1) d_Mo_screen_146 (by decide) ?_
                            refine J_goto (tgt := 151) d_Mo_screen_147 (by decide) ?_
                            refine J_istore d_Mo_screen_151 (by decide) ?_
                            refine J_aload_n d_Mo_screen_153 rfl rfl ?_
                            refine J_iload d_Mo_screen_154 rfl ?_
                            refine J_if_eq (tgt := 173) d_Mo_screen_156 (by decide) (fun _ => ?_) (fun q => absurd (by decide) q)
                            refine J_iconst (v := 2) d_Mo_screen_173 (by decide) ?_
                            refine J_put d_Mo_screen_174 xf_Mo_62 xt_Mo (fun _ _ _ h => by cases h; rfl) rfl rfl rfl (Nat.le_of_ble_eq_true rfl) ?_
                            refine J_heap (h2 := ch sa sb lt tt lg bc gi go sh bn sc rw dy pt (mh (2) ab be lgm ltm smm bs kd mo dr wa re lom him scm ou sr gim gom shm rwm dym ptm td tw R)) rfl ?_
                            refine J_aload_n d_Mo_screen_177 rfl rfl ?_
                            refine J_get d_Mo_screen_178 xf_Mo_62 rfl rfl ?_
                            refine J_if_ne (tgt := 263) d_Mo_screen_181 (by decide) (fun _ => ?_) (fun q => absurd (by decide) q)
                            exact J_return d_Mo_screen_263 rfl (by rw [xif_pos ⟨c1, c6, c14, c22, c31⟩, xif_neg (fun q => by first | exact q.2.2 c74 | exact c74 q.2.2)] <;> try rfl)
                    · skip
                      have c112 := Classical.not_not.mp c112
                      refine J_iconst (v := 1) d_Mo_screen_115 (by decide) ?_
                      refine J_goto (tgt := 120) d_Mo_screen_116 (by decide) ?_
                      refine J_istore d_Mo_screen_120 (by decide) ?_
                      refine J_iload d_Mo_screen_122 rfl ?_
                      refine J_if_lt (tgt := 150) d_Mo_screen_124 (by decide) (fun c124 => ?_) (fun c124 => ?_)
                      · skip
                        refine J_iconst (v := 0) d_Mo_screen_150 (by decide) ?_
                        refine J_istore d_Mo_screen_151 (by decide) ?_
                        refine J_aload_n d_Mo_screen_153 rfl rfl ?_
                        refine J_iload d_Mo_screen_154 rfl ?_
                        refine J_if_eq (tgt := 173) d_Mo_screen_156 (by decide) (fun _ => ?_) (fun q => absurd (by decide) q)
                        refine J_iconst (v := 2) d_Mo_screen_173 (by decide) ?_
                        refine J_put d_Mo_screen_174 xf_Mo_62 xt_Mo (fun _ _ _ h => by cases h; rfl) rfl rfl rfl (Nat.le_of_ble_eq_true rfl) ?_
                        refine J_heap (h2 := ch sa sb lt tt lg bc gi go sh bn sc rw dy pt (mh (2) ab be lgm ltm smm bs kd mo dr wa re lom him scm ou sr gim gom shm rwm dym ptm td tw R)) rfl ?_
                        refine J_aload_n d_Mo_screen_177 rfl rfl ?_
                        refine J_get d_Mo_screen_178 xf_Mo_62 rfl rfl ?_
                        refine J_if_ne (tgt := 263) d_Mo_screen_181 (by decide) (fun _ => ?_) (fun q => absurd (by decide) q)
                        exact J_return d_Mo_screen_263 rfl (by rw [xif_pos ⟨c1, c6, c14, c22, c31⟩, xif_neg (fun q => by first | exact q.2.2 c74 | exact c74 q.2.2)] <;> try rfl)
                      · skip
                        refine J_iload d_Mo_screen_127 rfl ?_
                        refine J_if_lt (tgt := 150) d_Mo_screen_129 (by decide) (fun c129 => ?_) (fun c129 => ?_)
                        · skip
                          refine J_iconst (v := 0) d_Mo_screen_150 (by decide) ?_
                          refine J_istore d_Mo_screen_151 (by decide) ?_
                          refine J_aload_n d_Mo_screen_153 rfl rfl ?_
                          refine J_iload d_Mo_screen_154 rfl ?_
                          refine J_if_eq (tgt := 173) d_Mo_screen_156 (by decide) (fun _ => ?_) (fun q => absurd (by decide) q)
                          refine J_iconst (v := 2) d_Mo_screen_173 (by decide) ?_
                          refine J_put d_Mo_screen_174 xf_Mo_62 xt_Mo (fun _ _ _ h => by cases h; rfl) rfl rfl rfl (Nat.le_of_ble_eq_true rfl) ?_
                          refine J_heap (h2 := ch sa sb lt tt lg bc gi go sh bn sc rw dy pt (mh (2) ab be lgm ltm smm bs kd mo dr wa re lom him scm ou sr gim gom shm rwm dym ptm td tw R)) rfl ?_
                          refine J_aload_n d_Mo_screen_177 rfl rfl ?_
                          refine J_get d_Mo_screen_178 xf_Mo_62 rfl rfl ?_
                          refine J_if_ne (tgt := 263) d_Mo_screen_181 (by decide) (fun _ => ?_) (fun q => absurd (by decide) q)
                          exact J_return d_Mo_screen_263 rfl (by rw [xif_pos ⟨c1, c6, c14, c22, c31⟩, xif_neg (fun q => by first | exact q.2.2 c74 | exact c74 q.2.2)] <;> try rfl)
                        · skip
                          refine J_iload d_Mo_screen_132 rfl ?_
                          refine J_i2l d_Mo_screen_134 ?_
                          refine J_iload d_Mo_screen_135 rfl ?_
                          refine J_i2l d_Mo_screen_137 ?_
                          refine J_ladd d_Mo_screen_138 ?_
                          refine J_ldc2_w d_Mo_screen_139 xj_Mo_110 ?_
                          refine J_lcmp d_Mo_screen_142 ?_
                          refine J_lif_gt (tgt := 150) d_Mo_screen_143 (by decide) (fun c143 => ?_) (fun c143 => ?_)
                          · skip
                            refine J_iconst (v := 0) d_Mo_screen_150 (by decide) ?_
                            refine J_istore d_Mo_screen_151 (by decide) ?_
                            refine J_aload_n d_Mo_screen_153 rfl rfl ?_
                            refine J_iload d_Mo_screen_154 rfl ?_
                            refine J_if_eq (tgt := 173) d_Mo_screen_156 (by decide) (fun _ => ?_) (fun q => absurd (by decide) q)
                            refine J_iconst (v := 2) d_Mo_screen_173 (by decide) ?_
                            refine J_put d_Mo_screen_174 xf_Mo_62 xt_Mo (fun _ _ _ h => by cases h; rfl) rfl rfl rfl (Nat.le_of_ble_eq_true rfl) ?_
                            refine J_heap (h2 := ch sa sb lt tt lg bc gi go sh bn sc rw dy pt (mh (2) ab be lgm ltm smm bs kd mo dr wa re lom him scm ou sr gim gom shm rwm dym ptm td tw R)) rfl ?_
                            refine J_aload_n d_Mo_screen_177 rfl rfl ?_
                            refine J_get d_Mo_screen_178 xf_Mo_62 rfl rfl ?_
                            refine J_if_ne (tgt := 263) d_Mo_screen_181 (by decide) (fun _ => ?_) (fun q => absurd (by decide) q)
                            exact J_return d_Mo_screen_263 rfl (by rw [xif_pos ⟨c1, c6, c14, c22, c31⟩, xif_neg (fun q => by first | exact q.2.2 c74 | exact c74 q.2.2)] <;> try rfl)
                          · skip
                            refine J_iconst (v := 1) d_Mo_screen_146 (by decide) ?_
                            refine J_goto (tgt := 151) d_Mo_screen_147 (by decide) ?_
                            refine J_istore d_Mo_screen_151 (by decide) ?_
                            refine J_aload_n d_Mo_screen_153 rfl rfl ?_
                            refine J_iload d_Mo_screen_154 rfl ?_
                            refine J_if_eq (tgt := 173) d_Mo_screen_156 (by decide) (fun _ => ?_) (fun q => absurd (by decide) q)
                            refine J_iconst (v := 2) d_Mo_screen_173 (by decide) ?_
                            refine J_put d_Mo_screen_174 xf_Mo_62 xt_Mo (fun _ _ _ h => by cases h; rfl) rfl rfl rfl (Nat.le_of_ble_eq_true rfl) ?_
                            refine J_heap (h2 := ch sa sb lt tt lg bc gi go sh bn sc rw dy pt (mh (2) ab be lgm ltm smm bs kd mo dr wa re lom him scm ou sr gim gom shm rwm dym ptm td tw R)) rfl ?_
                            refine J_aload_n d_Mo_screen_177 rfl rfl ?_
                            refine J_get d_Mo_screen_178 xf_Mo_62 rfl rfl ?_
                            refine J_if_ne (tgt := 263) d_Mo_screen_181 (by decide) (fun _ => ?_) (fun q => absurd (by decide) q)
                            exact J_return d_Mo_screen_263 rfl (by rw [xif_pos ⟨c1, c6, c14, c22, c31⟩, xif_neg (fun q => by first | exact q.2.2 c74 | exact c74 q.2.2)] <;> try rfl)
                · skip
                  refine J_iconst (v := 1) d_Mo_screen_77 (by decide) ?_
                  refine J_goto (tgt := 82) d_Mo_screen_78 (by decide) ?_
                  refine J_istore d_Mo_screen_82 (by decide) ?_
                  refine J_aload_n d_Mo_screen_84 rfl rfl ?_
                  refine J_get d_Mo_screen_85 xf_Mo_23 rfl rfl ?_
                  refine J_iload_n d_Mo_screen_88 rfl rfl ?_
                  refine J_iald d_Mo_screen_89 (gt0 hG) rfl (nb_in hb hn c14) ?_
                  refine J_aload_n d_Mo_screen_90 rfl rfl ?_
                  refine J_get d_Mo_screen_91 xf_Mo_23 rfl rfl ?_
                  refine J_iload_n d_Mo_screen_94 rfl rfl ?_
                  refine J_iald d_Mo_screen_95 (gt0 hG) rfl (nb_in hb hn c22) ?_
                  refine J_icmp_ne (tgt := 119) d_Mo_screen_96 (by decide) (fun c96 => ?_) (fun c96 => ?_)
                  · skip
                    refine J_iconst (v := 0) d_Mo_screen_119 (by decide) ?_
                    refine J_istore d_Mo_screen_120 (by decide) ?_
                    refine J_iload d_Mo_screen_122 rfl ?_
                    refine J_if_lt (tgt := 150) d_Mo_screen_124 (by decide) (fun c124 => ?_) (fun c124 => ?_)
                    · skip
                      refine J_iconst (v := 0) d_Mo_screen_150 (by decide) ?_
                      refine J_istore d_Mo_screen_151 (by decide) ?_
                      refine J_aload_n d_Mo_screen_153 rfl rfl ?_
                      refine J_iload d_Mo_screen_154 rfl ?_
                      refine J_if_eq (tgt := 173) d_Mo_screen_156 (by decide) (fun q => absurd q (by decide)) (fun _ => ?_)
                      refine J_iload d_Mo_screen_159 rfl ?_
                      refine J_if_eq (tgt := 173) d_Mo_screen_161 (by decide) (fun _ => ?_) (fun q => absurd (by decide) q)
                      refine J_iconst (v := 2) d_Mo_screen_173 (by decide) ?_
                      refine J_put d_Mo_screen_174 xf_Mo_62 xt_Mo (fun _ _ _ h => by cases h; rfl) rfl rfl rfl (Nat.le_of_ble_eq_true rfl) ?_
                      refine J_heap (h2 := ch sa sb lt tt lg bc gi go sh bn sc rw dy pt (mh (2) ab be lgm ltm smm bs kd mo dr wa re lom him scm ou sr gim gom shm rwm dym ptm td tw R)) rfl ?_
                      refine J_aload_n d_Mo_screen_177 rfl rfl ?_
                      refine J_get d_Mo_screen_178 xf_Mo_62 rfl rfl ?_
                      refine J_if_ne (tgt := 263) d_Mo_screen_181 (by decide) (fun _ => ?_) (fun q => absurd (by decide) q)
                      exact J_return d_Mo_screen_263 rfl (by rw [xif_pos ⟨c1, c6, c14, c22, c31⟩, xif_pos ⟨c62, c68, c74⟩, xif_neg (fun q => by first | exact q.1 c96 | exact c96 q.1)] <;> try rfl)
                    · skip
                      refine J_iload d_Mo_screen_127 rfl ?_
                      refine J_if_lt (tgt := 150) d_Mo_screen_129 (by decide) (fun c129 => ?_) (fun c129 => ?_)
                      · skip
                        refine J_iconst (v := 0) d_Mo_screen_150 (by decide) ?_
                        refine J_istore d_Mo_screen_151 (by decide) ?_
                        refine J_aload_n d_Mo_screen_153 rfl rfl ?_
                        refine J_iload d_Mo_screen_154 rfl ?_
                        refine J_if_eq (tgt := 173) d_Mo_screen_156 (by decide) (fun q => absurd q (by decide)) (fun _ => ?_)
                        refine J_iload d_Mo_screen_159 rfl ?_
                        refine J_if_eq (tgt := 173) d_Mo_screen_161 (by decide) (fun _ => ?_) (fun q => absurd (by decide) q)
                        refine J_iconst (v := 2) d_Mo_screen_173 (by decide) ?_
                        refine J_put d_Mo_screen_174 xf_Mo_62 xt_Mo (fun _ _ _ h => by cases h; rfl) rfl rfl rfl (Nat.le_of_ble_eq_true rfl) ?_
                        refine J_heap (h2 := ch sa sb lt tt lg bc gi go sh bn sc rw dy pt (mh (2) ab be lgm ltm smm bs kd mo dr wa re lom him scm ou sr gim gom shm rwm dym ptm td tw R)) rfl ?_
                        refine J_aload_n d_Mo_screen_177 rfl rfl ?_
                        refine J_get d_Mo_screen_178 xf_Mo_62 rfl rfl ?_
                        refine J_if_ne (tgt := 263) d_Mo_screen_181 (by decide) (fun _ => ?_) (fun q => absurd (by decide) q)
                        exact J_return d_Mo_screen_263 rfl (by rw [xif_pos ⟨c1, c6, c14, c22, c31⟩, xif_pos ⟨c62, c68, c74⟩, xif_neg (fun q => by first | exact q.1 c96 | exact c96 q.1)] <;> try rfl)
                      · skip
                        refine J_iload d_Mo_screen_132 rfl ?_
                        refine J_i2l d_Mo_screen_134 ?_
                        refine J_iload d_Mo_screen_135 rfl ?_
                        refine J_i2l d_Mo_screen_137 ?_
                        refine J_ladd d_Mo_screen_138 ?_
                        refine J_ldc2_w d_Mo_screen_139 xj_Mo_110 ?_
                        refine J_lcmp d_Mo_screen_142 ?_
                        refine J_lif_gt (tgt := 150) d_Mo_screen_143 (by decide) (fun c143 => ?_) (fun c143 => ?_)
                        · skip
                          refine J_iconst (v := 0) d_Mo_screen_150 (by decide) ?_
                          refine J_istore d_Mo_screen_151 (by decide) ?_
                          refine J_aload_n d_Mo_screen_153 rfl rfl ?_
                          refine J_iload d_Mo_screen_154 rfl ?_
                          refine J_if_eq (tgt := 173) d_Mo_screen_156 (by decide) (fun q => absurd q (by decide)) (fun _ => ?_)
                          refine J_iload d_Mo_screen_159 rfl ?_
                          refine J_if_eq (tgt := 173) d_Mo_screen_161 (by decide) (fun _ => ?_) (fun q => absurd (by decide) q)
                          refine J_iconst (v := 2) d_Mo_screen_173 (by decide) ?_
                          refine J_put d_Mo_screen_174 xf_Mo_62 xt_Mo (fun _ _ _ h => by cases h; rfl) rfl rfl rfl (Nat.le_of_ble_eq_true rfl) ?_
                          refine J_heap (h2 := ch sa sb lt tt lg bc gi go sh bn sc rw dy pt (mh (2) ab be lgm ltm smm bs kd mo dr wa re lom him scm ou sr gim gom shm rwm dym ptm td tw R)) rfl ?_
                          refine J_aload_n d_Mo_screen_177 rfl rfl ?_
                          refine J_get d_Mo_screen_178 xf_Mo_62 rfl rfl ?_
                          refine J_if_ne (tgt := 263) d_Mo_screen_181 (by decide) (fun _ => ?_) (fun q => absurd (by decide) q)
                          exact J_return d_Mo_screen_263 rfl (by rw [xif_pos ⟨c1, c6, c14, c22, c31⟩, xif_pos ⟨c62, c68, c74⟩, xif_neg (fun q => by first | exact q.1 c96 | exact c96 q.1)] <;> try rfl)
                        · skip
                          refine J_iconst (v := 1) d_Mo_screen_146 (by decide) ?_
                          refine J_goto (tgt := 151) d_Mo_screen_147 (by decide) ?_
                          refine J_istore d_Mo_screen_151 (by decide) ?_
                          refine J_aload_n d_Mo_screen_153 rfl rfl ?_
                          refine J_iload d_Mo_screen_154 rfl ?_
                          refine J_if_eq (tgt := 173) d_Mo_screen_156 (by decide) (fun q => absurd q (by decide)) (fun _ => ?_)
                          refine J_iload d_Mo_screen_159 rfl ?_
                          refine J_if_eq (tgt := 173) d_Mo_screen_161 (by decide) (fun _ => ?_) (fun q => absurd (by decide) q)
                          refine J_iconst (v := 2) d_Mo_screen_173 (by decide) ?_
                          refine J_put d_Mo_screen_174 xf_Mo_62 xt_Mo (fun _ _ _ h => by cases h; rfl) rfl rfl rfl (Nat.le_of_ble_eq_true rfl) ?_
                          refine J_heap (h2 := ch sa sb lt tt lg bc gi go sh bn sc rw dy pt (mh (2) ab be lgm ltm smm bs kd mo dr wa re lom him scm ou sr gim gom shm rwm dym ptm td tw R)) rfl ?_
                          refine J_aload_n d_Mo_screen_177 rfl rfl ?_
                          refine J_get d_Mo_screen_178 xf_Mo_62 rfl rfl ?_
                          refine J_if_ne (tgt := 263) d_Mo_screen_181 (by decide) (fun _ => ?_) (fun q => absurd (by decide) q)
                          exact J_return d_Mo_screen_263 rfl (by rw [xif_pos ⟨c1, c6, c14, c22, c31⟩, xif_pos ⟨c62, c68, c74⟩, xif_neg (fun q => by first | exact q.1 c96 | exact c96 q.1)] <;> try rfl)
                  · skip
                    have c96 := Classical.not_not.mp c96
                    refine J_aload_n d_Mo_screen_99 rfl rfl ?_
                    refine J_get d_Mo_screen_100 xf_Mo_23 rfl rfl ?_
                    refine J_iload_n d_Mo_screen_103 rfl rfl ?_
                    refine J_iald d_Mo_screen_104 (gt0 hG) rfl (nb_in hb hn c22) ?_
                    refine J_aload_n d_Mo_screen_105 rfl rfl ?_
                    refine J_get d_Mo_screen_106 xf_Mo_23 rfl rfl ?_
                    refine J_iload d_Mo_screen_109 rfl ?_
                    refine J_iald d_Mo_screen_111 (gt0 hG) rfl (nb_in hb hn c31) ?_
                    refine J_icmp_ne (tgt := 119) d_Mo_screen_112 (by decide) (fun c112 => ?_) (fun c112 => ?_)
                    · skip
                      refine J_iconst (v := 0) d_Mo_screen_119 (by decide) ?_
                      refine J_istore d_Mo_screen_120 (by decide) ?_
                      refine J_iload d_Mo_screen_122 rfl ?_
                      refine J_if_lt (tgt := 150) d_Mo_screen_124 (by decide) (fun c124 => ?_) (fun c124 => ?_)
                      · skip
                        refine J_iconst (v := 0) d_Mo_screen_150 (by decide) ?_
                        refine J_istore d_Mo_screen_151 (by decide) ?_
                        refine J_aload_n d_Mo_screen_153 rfl rfl ?_
                        refine J_iload d_Mo_screen_154 rfl ?_
                        refine J_if_eq (tgt := 173) d_Mo_screen_156 (by decide) (fun q => absurd q (by decide)) (fun _ => ?_)
                        refine J_iload d_Mo_screen_159 rfl ?_
                        refine J_if_eq (tgt := 173) d_Mo_screen_161 (by decide) (fun _ => ?_) (fun q => absurd (by decide) q)
                        refine J_iconst (v := 2) d_Mo_screen_173 (by decide) ?_
                        refine J_put d_Mo_screen_174 xf_Mo_62 xt_Mo (fun _ _ _ h => by cases h; rfl) rfl rfl rfl (Nat.le_of_ble_eq_true rfl) ?_
                        refine J_heap (h2 := ch sa sb lt tt lg bc gi go sh bn sc rw dy pt (mh (2) ab be lgm ltm smm bs kd mo dr wa re lom him scm ou sr gim gom shm rwm dym ptm td tw R)) rfl ?_
                        refine J_aload_n d_Mo_screen_177 rfl rfl ?_
                        refine J_get d_Mo_screen_178 xf_Mo_62 rfl rfl ?_
                        refine J_if_ne (tgt := 263) d_Mo_screen_181 (by decide) (fun _ => ?_) (fun q => absurd (by decide) q)
                        exact J_return d_Mo_screen_263 rfl (by rw [xif_pos ⟨c1, c6, c14, c22, c31⟩, xif_pos ⟨c62, c68, c74⟩, xif_neg (fun q => by first | exact q.2 c112 | exact c112 q.2)] <;> try rfl)
                      · skip
                        refine J_iload d_Mo_screen_127 rfl ?_
                        refine J_if_lt (tgt := 150) d_Mo_screen_129 (by decide) (fun c129 => ?_) (fun c129 => ?_)
                        · skip
                          refine J_iconst (v := 0) d_Mo_screen_150 (by decide) ?_
                          refine J_istore d_Mo_screen_151 (by decide) ?_
                          refine J_aload_n d_Mo_screen_153 rfl rfl ?_
                          refine J_iload d_Mo_screen_154 rfl ?_
                          refine J_if_eq (tgt := 173) d_Mo_screen_156 (by decide) (fun q => absurd q (by decide)) (fun _ => ?_)
                          refine J_iload d_Mo_screen_159 rfl ?_
                          refine J_if_eq (tgt := 173) d_Mo_screen_161 (by decide) (fun _ => ?_) (fun q => absurd (by decide) q)
                          refine J_iconst (v := 2) d_Mo_screen_173 (by decide) ?_
                          refine J_put d_Mo_screen_174 xf_Mo_62 xt_Mo (fun _ _ _ h => by cases h; rfl) rfl rfl rfl (Nat.le_of_ble_eq_true rfl) ?_
                          refine J_heap (h2 := ch sa sb lt tt lg bc gi go sh bn sc rw dy pt (mh (2) ab be lgm ltm smm bs kd mo dr wa re lom him scm ou sr gim gom shm rwm dym ptm td tw R)) rfl ?_
                          refine J_aload_n d_Mo_screen_177 rfl rfl ?_
                          refine J_get d_Mo_screen_178 xf_Mo_62 rfl rfl ?_
                          refine J_if_ne (tgt := 263) d_Mo_screen_181 (by decide) (fun _ => ?_) (fun q => absurd (by decide) q)
                          exact J_return d_Mo_screen_263 rfl (by rw [xif_pos ⟨c1, c6, c14, c22, c31⟩, xif_pos ⟨c62, c68, c74⟩, xif_neg (fun q => by first | exact q.2 c112 | exact c112 q.2)] <;> try rfl)
                        · skip
                          refine J_iload d_Mo_screen_132 rfl ?_
                          refine J_i2l d_Mo_screen_134 ?_
                          refine J_iload d_Mo_screen_135 rfl ?_
                          refine J_i2l d_Mo_screen_137 ?_
                          refine J_ladd d_Mo_screen_138 ?_
                          refine J_ldc2_w d_Mo_screen_139 xj_Mo_110 ?_
                          refine J_lcmp d_Mo_screen_142 ?_
                          refine J_lif_gt (tgt := 150) d_Mo_screen_143 (by decide) (fun c143 => ?_) (fun c143 => ?_)
                          · skip
                            refine J_iconst (v := 0) d_Mo_screen_150 (by decide) ?_
                            refine J_istore d_Mo_screen_151 (by decide) ?_
                            refine J_aload_n d_Mo_screen_153 rfl rfl ?_
                            refine J_iload d_Mo_screen_154 rfl ?_
                            refine J_if_eq (tgt := 173) d_Mo_screen_156 (by decide) (fun q => absurd q (by decide)) (fun _ => ?_)
                            refine J_iload d_Mo_screen_159 rfl ?_
                            refine J_if_eq (tgt := 173) d_Mo_screen_161 (by decide) (fun _ => ?_) (fun q => absurd (by decide) q)
                            refine J_iconst (v := 2) d_Mo_screen_173 (by decide) ?_
                            refine J_put d_Mo_screen_174 xf_Mo_62 xt_Mo (fun _ _ _ h => by cases h; rfl) rfl rfl rfl (Nat.le_of_ble_eq_true rfl) ?_
                            refine J_heap (h2 := ch sa sb lt tt lg bc gi go sh bn sc rw dy pt (mh (2) ab be lgm ltm smm bs kd mo dr wa re lom him scm ou sr gim gom shm rwm dym ptm td tw R)) rfl ?_
                            refine J_aload_n d_Mo_screen_177 rfl rfl ?_
                            refine J_get d_Mo_screen_178 xf_Mo_62 rfl rfl ?_
                            refine J_if_ne (tgt := 263) d_Mo_screen_181 (by decide) (fun _ => ?_) (fun q => absurd (by decide) q)
                            exact J_return d_Mo_screen_263 rfl (by rw [xif_pos ⟨c1, c6, c14, c22, c31⟩, xif_pos ⟨c62, c68, c74⟩, xif_neg (fun q => by first | exact q.2 c112 | exact c112 q.2)] <;> try rfl)
                          · skip
                            refine J_iconst (v := 1) d_Mo_screen_146 (by decide) ?_
                            refine J_goto (tgt := 151) d_Mo_screen_147 (by decide) ?_
                            refine J_istore d_Mo_screen_151 (by decide) ?_
                            refine J_aload_n d_Mo_screen_153 rfl rfl ?_
                            refine J_iload d_Mo_screen_154 rfl ?_
                            refine J_if_eq (tgt := 173) d_Mo_screen_156 (by decide) (fun q => absurd q (by decide)) (fun _ => ?_)
                            refine J_iload d_Mo_screen_159 rfl ?_
                            refine J_if_eq (tgt := 173) d_Mo_screen_161 (by decide) (fun _ => ?_) (fun q => absurd (by decide) q)
                            refine J_iconst (v := 2) d_Mo_screen_173 (by decide) ?_
                            refine J_put d_Mo_screen_174 xf_Mo_62 xt_Mo (fun _ _ _ h => by cases h; rfl) rfl rfl rfl (Nat.le_of_ble_eq_true rfl) ?_
                            refine J_heap (h2 := ch sa sb lt tt lg bc gi go sh bn sc rw dy pt (mh (2) ab be lgm ltm smm bs kd mo dr wa re lom him scm ou sr gim gom shm rwm dym ptm td tw R)) rfl ?_
                            refine J_aload_n d_Mo_screen_177 rfl rfl ?_
                            refine J_get d_Mo_screen_178 xf_Mo_62 rfl rfl ?_
                            refine J_if_ne (tgt := 263) d_Mo_screen_181 (by decide) (fun _ => ?_) (fun q => absurd (by decide) q)
                            exact J_return d_Mo_screen_263 rfl (by rw [xif_pos ⟨c1, c6, c14, c22, c31⟩, xif_pos ⟨c62, c68, c74⟩, xif_neg (fun q => by first | exact q.2 c112 | exact c112 q.2)] <;> try rfl)
                    · skip
                      have c112 := Classical.not_not.mp c112
                      refine J_iconst (v := 1) d_Mo_screen_115 (by decide) ?_
                      refine J_goto (tgt := 120) d_Mo_screen_116 (by decide) ?_
                      refine J_istore d_Mo_screen_120 (by decide) ?_
                      refine J_iload d_Mo_screen_122 rfl ?_
                      refine J_if_lt (tgt := 150) d_Mo_screen_124 (by decide) (fun c124 => ?_) (fun c124 => ?_)
                      · skip
                        refine J_iconst (v := 0) d_Mo_screen_150 (by decide) ?_
                        refine J_istore d_Mo_screen_151 (by decide) ?_
                        refine J_aload_n d_Mo_screen_153 rfl rfl ?_
                        refine J_iload d_Mo_screen_154 rfl ?_
                        refine J_if_eq (tgt := 173) d_Mo_screen_156 (by decide) (fun q => absurd q (by decide)) (fun _ => ?_)
                        refine J_iload d_Mo_screen_159 rfl ?_
                        refine J_if_eq (tgt := 173) d_Mo_screen_161 (by decide) (fun q => absurd q (by decide)) (fun _ => ?_)
                        refine J_iload d_Mo_screen_164 rfl ?_
                        refine J_if_eq (tgt := 173) d_Mo_screen_166 (by decide) (fun _ => ?_) (fun q => absurd (by decide) q)
                        refine J_iconst (v := 2) d_Mo_screen_173 (by decide) ?_
                        refine J_put d_Mo_screen_174 xf_Mo_62 xt_Mo (fun _ _ _ h => by cases h; rfl) rfl rfl rfl (Nat.le_of_ble_eq_true rfl) ?_
                        refine J_heap (h2 := ch sa sb lt tt lg bc gi go sh bn sc rw dy pt (mh (2) ab be lgm ltm smm bs kd mo dr wa re lom him scm ou sr gim gom shm rwm dym ptm td tw R)) rfl ?_
                        refine J_aload_n d_Mo_screen_177 rfl rfl ?_
                        refine J_get d_Mo_screen_178 xf_Mo_62 rfl rfl ?_
                        refine J_if_ne (tgt := 263) d_Mo_screen_181 (by decide) (fun _ => ?_) (fun q => absurd (by decide) q)
                        exact J_return d_Mo_screen_263 rfl (by rw [xif_pos ⟨c1, c6, c14, c22, c31⟩, xif_pos ⟨c62, c68, c74⟩, xif_pos ⟨c96, c112⟩, xif_neg (fun q => by first | exact q.1 c124 | exact c124 q.1)] <;> try rfl)
                      · skip
                        refine J_iload d_Mo_screen_127 rfl ?_
                        refine J_if_lt (tgt := 150) d_Mo_screen_129 (by decide) (fun c129 => ?_) (fun c129 => ?_)
                        · skip
                          refine J_iconst (v := 0) d_Mo_screen_150 (by decide) ?_
                          refine J_istore d_Mo_screen_151 (by decide) ?_
                          refine J_aload_n d_Mo_screen_153 rfl rfl ?_
                          refine J_iload d_Mo_screen_154 rfl ?_
                          refine J_if_eq (tgt := 173) d_Mo_screen_156 (by decide) (fun q => absurd q (by decide)) (fun _ => ?_)
                          refine J_iload d_Mo_screen_159 rfl ?_
                          refine J_if_eq (tgt := 173) d_Mo_screen_161 (by decide) (fun q => absurd q (by decide)) (fun _ => ?_)
                          refine J_iload d_Mo_screen_164 rfl ?_
                          refine J_if_eq (tgt := 173) d_Mo_screen_166 (by decide) (fun _ => ?_) (fun q => absurd (by decide) q)
                          refine J_iconst (v := 2) d_Mo_screen_173 (by decide) ?_
                          refine J_put d_Mo_screen_174 xf_Mo_62 xt_Mo (fun _ _ _ h => by cases h; rfl) rfl rfl rfl (Nat.le_of_ble_eq_true rfl) ?_
                          refine J_heap (h2 := ch sa sb lt tt lg bc gi go sh bn sc rw dy pt (mh (2) ab be lgm ltm smm bs kd mo dr wa re lom him scm ou sr gim gom shm rwm dym ptm td tw R)) rfl ?_
                          refine J_aload_n d_Mo_screen_177 rfl rfl ?_
                          refine J_get d_Mo_screen_178 xf_Mo_62 rfl rfl ?_
                          refine J_if_ne (tgt := 263) d_Mo_screen_181 (by decide) (fun _ => ?_) (fun q => absurd (by decide) q)
                          exact J_return d_Mo_screen_263 rfl (by rw [xif_pos ⟨c1, c6, c14, c22, c31⟩, xif_pos ⟨c62, c68, c74⟩, xif_pos ⟨c96, c112⟩, xif_neg (fun q => by first | exact q.2.1 c129 | exact c129 q.2.1)] <;> try rfl)
                        · skip
                          refine J_iload d_Mo_screen_132 rfl ?_
                          refine J_i2l d_Mo_screen_134 ?_
                          refine J_iload d_Mo_screen_135 rfl ?_
                          refine J_i2l d_Mo_screen_137 ?_
                          refine J_ladd d_Mo_screen_138 ?_
                          refine J_ldc2_w d_Mo_screen_139 xj_Mo_110 ?_
                          refine J_lcmp d_Mo_screen_142 ?_
                          refine J_lif_gt (tgt := 150) d_Mo_screen_143 (by decide) (fun c143 => ?_) (fun c143 => ?_)
                          · skip
                            refine J_iconst (v := 0) d_Mo_screen_150 (by decide) ?_
                            refine J_istore d_Mo_screen_151 (by decide) ?_
                            refine J_aload_n d_Mo_screen_153 rfl rfl ?_
                            refine J_iload d_Mo_screen_154 rfl ?_
                            refine J_if_eq (tgt := 173) d_Mo_screen_156 (by decide) (fun q => absurd q (by decide)) (fun _ => ?_)
                            refine J_iload d_Mo_screen_159 rfl ?_
                            refine J_if_eq (tgt := 173) d_Mo_screen_161 (by decide) (fun q => absurd q (by decide)) (fun _ => ?_)
                            refine J_iload d_Mo_screen_164 rfl ?_
                            refine J_if_eq (tgt := 173) d_Mo_screen_166 (by decide) (fun _ => ?_) (fun q => absurd (by decide) q)
                            refine J_iconst (v := 2) d_Mo_screen_173 (by decide) ?_
                            refine J_put d_Mo_screen_174 xf_Mo_62 xt_Mo (fun _ _ _ h => by cases h; rfl) rfl rfl rfl (Nat.le_of_ble_eq_true rfl) ?_
                            refine J_heap (h2 := ch sa sb lt tt lg bc gi go sh bn sc rw dy pt (mh (2) ab be lgm ltm smm bs kd mo dr wa re lom him scm ou sr gim gom shm rwm dym ptm td tw R)) rfl ?_
                            refine J_aload_n d_Mo_screen_177 rfl rfl ?_
                            refine J_get d_Mo_screen_178 xf_Mo_62 rfl rfl ?_
                            refine J_if_ne (tgt := 263) d_Mo_screen_181 (by decide) (fun _ => ?_) (fun q => absurd (by decide) q)
                            exact J_return d_Mo_screen_263 rfl (by rw [xif_pos ⟨c1, c6, c14, c22, c31⟩, xif_pos ⟨c62, c68, c74⟩, xif_pos ⟨c96, c112⟩, xif_neg (fun q => by first | exact q.2.2 c143 | exact c143 q.2.2)] <;> try rfl)
                          · skip
                            refine J_iconst (v := 1) d_Mo_screen_146 (by decide) ?_
                            refine J_goto (tgt := 151) d_Mo_screen_147 (by decide) ?_
                            refine J_istore d_Mo_screen_151 (by decide) ?_
                            refine J_aload_n d_Mo_screen_153 rfl rfl ?_
                            refine J_iload d_Mo_screen_154 rfl ?_
                            refine J_if_eq (tgt := 173) d_Mo_screen_156 (by decide) (fun q => absurd q (by decide)) (fun _ => ?_)
                            refine J_iload d_Mo_screen_159 rfl ?_
                            refine J_if_eq (tgt := 173) d_Mo_screen_161 (by decide) (fun q => absurd q (by decide)) (fun _ => ?_)
                            refine J_iload d_Mo_screen_164 rfl ?_
                            refine J_if_eq (tgt := 173) d_Mo_screen_166 (by decide) (fun q => absurd q (by decide)) (fun _ => ?_)
                            refine J_iconst (v := 0) d_Mo_screen_169 (by decide) ?_
                            refine J_goto (tgt := 174) d_Mo_screen_170 (by decide) ?_
                            refine J_put d_Mo_screen_174 xf_Mo_62 xt_Mo (fun _ _ _ h => by cases h; rfl) rfl rfl rfl (Nat.le_of_ble_eq_true rfl) ?_
                            refine J_heap (h2 := ch sa sb lt tt lg bc gi go sh bn sc rw dy pt (mh (0) ab be lgm ltm smm bs kd mo dr wa re lom him scm ou sr gim gom shm rwm dym ptm td tw R)) rfl ?_
                            refine J_aload_n d_Mo_screen_177 rfl rfl ?_
                            refine J_get d_Mo_screen_178 xf_Mo_62 rfl rfl ?_
                            refine J_if_ne (tgt := 263) d_Mo_screen_181 (by decide) (fun q => absurd q (by decide)) (fun _ => ?_)
                            refine J_aload_n d_Mo_screen_184 rfl rfl ?_
                            refine J_get d_Mo_screen_185 xf_Mo_46 rfl rfl ?_
                            refine J_iload_n d_Mo_screen_188 rfl rfl ?_
                            refine J_iconst (v := 1) d_Mo_screen_189 (by decide) ?_
                            refine J_zast d_Mo_screen_190 (gt2 hG) rfl (okS_lt ⟨c1, (Int32.not_le.mp c6)⟩).2.2 ?_
                            refine J_aload_n d_Mo_screen_191 rfl rfl ?_
                            refine J_get d_Mo_screen_192 xf_Mo_50 rfl rfl ?_
                            refine J_iconst (v := 3) d_Mo_screen_195 (by decide) ?_
                            refine J_iload_n d_Mo_screen_196 rfl rfl ?_
                            refine J_imul d_Mo_screen_197 ?_
                            refine J_iload_n d_Mo_screen_198 rfl rfl ?_
                            refine J_iast d_Mo_screen_199 (gt0 hG) rfl (ib12z c1 (Int32.not_le.mp c6)) ?_
                            refine J_aload_n d_Mo_screen_200 rfl rfl ?_
                            refine J_get d_Mo_screen_201 xf_Mo_50 rfl rfl ?_
                            refine J_iconst (v := 3) d_Mo_screen_204 (by decide) ?_
                            refine J_iload_n d_Mo_screen_205 rfl rfl ?_
                            refine J_imul d_Mo_screen_206 ?_
                            refine J_iconst (v := 1) d_Mo_screen_207 (by decide) ?_
                            refine J_iadd d_Mo_screen_208 ?_
                            refine J_iload_n d_Mo_screen_209 rfl rfl ?_
                            refine J_iast d_Mo_screen_210 (gt0 hG) rfl (ib12 c1 (Int32.not_le.mp c6) 1 (by decide)) ?_
                            refine J_aload_n d_Mo_screen_211 rfl rfl ?_
                            refine J_get d_Mo_screen_212 xf_Mo_50 rfl rfl ?_
                            refine J_iconst (v := 3) d_Mo_screen_215 (by decide) ?_
                            refine J_iload_n d_Mo_screen_216 rfl rfl ?_
                            refine J_imul d_Mo_screen_217 ?_
                            refine J_iconst (v := 2) d_Mo_screen_218 (by decide) ?_
                            refine J_iadd d_Mo_screen_219 ?_
                            refine J_iload d_Mo_screen_220 rfl ?_
                            refine J_iast d_Mo_screen_222 (gt0 hG) rfl (ib12 c1 (Int32.not_le.mp c6) 2 (by decide)) ?_
                            refine J_aload_n d_Mo_screen_223 rfl rfl ?_
                            refine J_get d_Mo_screen_224 xf_Mo_53 rfl rfl ?_
                            refine J_iconst (v := 3) d_Mo_screen_227 (by decide) ?_
                            refine J_iload_n d_Mo_screen_228 rfl rfl ?_
                            refine J_imul d_Mo_screen_229 ?_
                            refine J_iload d_Mo_screen_230 rfl ?_
                            refine J_iast d_Mo_screen_232 (gt0 hG) rfl (ib12z c1 (Int32.not_le.mp c6)) ?_
                            refine J_aload_n d_Mo_screen_233 rfl rfl ?_
                            refine J_get d_Mo_screen_234 xf_Mo_53 rfl rfl ?_
                            refine J_iconst (v := 3) d_Mo_screen_237 (by decide) ?_
                            refine J_iload_n d_Mo_screen_238 rfl rfl ?_
                            refine J_imul d_Mo_screen_239 ?_
                            refine J_iconst (v := 1) d_Mo_screen_240 (by decide) ?_
                            refine J_iadd d_Mo_screen_241 ?_
                            refine J_iload d_Mo_screen_242 rfl ?_
                            refine J_iast d_Mo_screen_244 (gt0 hG) rfl (ib12 c1 (Int32.not_le.mp c6) 1 (by decide)) ?_
                            refine J_aload_n d_Mo_screen_245 rfl rfl ?_
                            refine J_get d_Mo_screen_246 xf_Mo_53 rfl rfl ?_
                            refine J_iconst (v := 3) d_Mo_screen_249 (by decide) ?_
                            refine J_iload_n d_Mo_screen_250 rfl rfl ?_
                            refine J_imul d_Mo_screen_251 ?_
                            refine J_iconst (v := 2) d_Mo_screen_252 (by decide) ?_
                            refine J_iadd d_Mo_screen_253 ?_
                            refine J_bipush (v := 60) d_Mo_screen_254 (by decide) ?_
                            refine J_iload d_Mo_screen_256 rfl ?_
                            refine J_isub d_Mo_screen_258 ?_
                            refine J_iload d_Mo_screen_259 rfl ?_
                            refine J_isub d_Mo_screen_261 ?_
                            refine J_iast d_Mo_screen_262 (gt0 hG) rfl (ib12 c1 (Int32.not_le.mp c6) 2 (by decide)) ?_
                            exact J_return d_Mo_screen_263 rfl (by rw [xif_pos ⟨c1, c6, c14, c22, c31⟩, xif_pos ⟨c62, c68, c74⟩, xif_pos ⟨c96, c112⟩, xif_pos ⟨c124, c129, c143⟩] <;> try rfl)
set_option maxHeartbeats 4000000 in
set_option maxRecDepth 100000 in
theorem n_send {s k w : Int32} (hG : gTok G) (ho : ¬ s < 0 ∧ s ≤ 3 → ¬ scm s.toNatClampNeg = 0 → ∀ c : Nat, c < 3 → vp_in (ou (3 * s + nI c).toNatClampNeg) 8) : XM G Y_Mo_send [.ref 22, .int s, .int k, .int w] (1, ch sa sb lt tt lg bc gi go sh bn sc rw dy pt (mh th ab be lgm ltm smm bs kd mo dr wa re lom him scm ou sr gim gom shm rwm dym ptm td tw R)) (xif (¬ s < 0 ∧ s ≤ 3) (xif (¬ s_ip k w = 0) (xif (¬ scm s.toNatClampNeg = 0) (xif (s_mr mo dr wa (ou (3 * s + 0).toNatClampNeg) (s_pt sr s 0 k.toInt64) = 0) (.inl (some (.int (s_mr mo dr wa (ou (3 * s + 0).toNatClampNeg) (s_pt sr s 0 k.toInt64)))), (0, ch sa sb lt tt lg bc gi go sh bn sc rw dy pt (mh (0) ab be lgm ltm smm bs kd mo dr wa re lom him scm ou sr gim gom shm rwm dym ptm td tw R)), 0, 0) (xif (s_mr mo dr wa (ou (3 * s + 1).toNatClampNeg) (s_pt sr s 1 k.toInt64) = 0) (.inl (some (.int (s_mr mo dr wa (ou (3 * s + 1).toNatClampNeg) (s_pt sr s 1 k.toInt64)))), (0, ch sa sb lt tt lg bc gi go sh bn sc rw dy pt (mh (0) ab be lgm ltm smm bs kd mo dr wa re lom him scm ou sr gim gom shm rwm dym ptm td tw R)), 0, 0) (xif (s_mr mo dr wa (ou (3 * s + 2).toNatClampNeg) (s_pt sr s 2 k.toInt64) = 0) (.inl (some (.int (s_mr mo dr wa (ou (3 * s + 2).toNatClampNeg) (s_pt sr s 2 k.toInt64)))), (0, ch sa sb lt tt lg bc gi go sh bn sc rw dy pt (mh (0) ab be lgm ltm smm bs kd mo dr wa re lom him scm ou sr gim gom shm rwm dym ptm td tw R)), 0, 0) (.inl (some (.int (s_mr mo dr wa (ou (3 * s + 2).toNatClampNeg) (s_pt sr s 2 k.toInt64)))), (0, ch sa sb lt tt lg bc gi go sh bn sc rw dy pt (mh (0) ab be lgm ltm smm bs kd mo (vp_updL (vp_updL (vp_updL (dr) (ou (3 * s + 0).toNatClampNeg).toNatClampNeg ((dr) (ou (3 * s + 0).toNatClampNeg).toNatClampNeg + (s_pt sr s 0 k.toInt64) * (1000 - w).toInt64)) (ou (3 * s + 1).toNatClampNeg).toNatClampNeg ((vp_updL (dr) (ou (3 * s + 0).toNatClampNeg).toNatClampNeg ((dr) (ou (3 * s + 0).toNatClampNeg).toNatClampNeg + (s_pt sr s 0 k.toInt64) * (1000 - w).toInt64)) (ou (3 * s + 1).toNatClampNeg).toNatClampNeg + (s_pt sr s 1 k.toInt64) * (1000 - w).toInt64)) (ou (3 * s + 2).toNatClampNeg).toNatClampNeg ((vp_updL (vp_updL (dr) (ou (3 * s + 0).toNatClampNeg).toNatClampNeg ((dr) (ou (3 * s + 0).toNatClampNeg).toNatClampNeg + (s_pt sr s 0 k.toInt64) * (1000 - w).toInt64)) (ou (3 * s + 1).toNatClampNeg).toNatClampNeg ((vp_updL (dr) (ou (3 * s + 0).toNatClampNeg).toNatClampNeg ((dr) (ou (3 * s + 0).toNatClampNeg).toNatClampNeg + (s_pt sr s 0 k.toInt64) * (1000 - w).toInt64)) (ou (3 * s + 1).toNatClampNeg).toNatClampNeg + (s_pt sr s 1 k.toInt64) * (1000 - w).toInt64)) (ou (3 * s + 2).toNatClampNeg).toNatClampNeg + (s_pt sr s 2 k.toInt64) * (1000 - w).toInt64)) (vp_updL (vp_updL (vp_updL (wa) (ou (3 * s + 0).toNatClampNeg).toNatClampNeg ((wa) (ou (3 * s + 0).toNatClampNeg).toNatClampNeg + (s_pt sr s 0 k.toInt64) * w.toInt64)) (ou (3 * s + 1).toNatClampNeg).toNatClampNeg ((vp_updL (wa) (ou (3 * s + 0).toNatClampNeg).toNatClampNeg ((wa) (ou (3 * s + 0).toNatClampNeg).toNatClampNeg + (s_pt sr s 0 k.toInt64) * w.toInt64)) (ou (3 * s + 1).toNatClampNeg).toNatClampNeg + (s_pt sr s 1 k.toInt64) * w.toInt64)) (ou (3 * s + 2).toNatClampNeg).toNatClampNeg ((vp_updL (vp_updL (wa) (ou (3 * s + 0).toNatClampNeg).toNatClampNeg ((wa) (ou (3 * s + 0).toNatClampNeg).toNatClampNeg + (s_pt sr s 0 k.toInt64) * w.toInt64)) (ou (3 * s + 1).toNatClampNeg).toNatClampNeg ((vp_updL (wa) (ou (3 * s + 0).toNatClampNeg).toNatClampNeg ((wa) (ou (3 * s + 0).toNatClampNeg).toNatClampNeg + (s_pt sr s 0 k.toInt64) * w.toInt64)) (ou (3 * s + 1).toNatClampNeg).toNatClampNeg + (s_pt sr s 1 k.toInt64) * w.toInt64)) (ou (3 * s + 2).toNatClampNeg).toNatClampNeg + (s_pt sr s 2 k.toInt64) * w.toInt64)) re lom him scm ou sr (gim + 1000 * (s_pt sr s 0 k.toInt64) + 1000 * (s_pt sr s 1 k.toInt64) + 1000 * (s_pt sr s 2 k.toInt64)) gom shm rwm dym ptm td tw R)), 0, 0)))) (.inl (some (.int 0)), (0, ch sa sb lt tt lg bc gi go sh bn sc rw dy pt (mh (3) ab be lgm ltm smm bs kd mo dr wa re lom him scm ou sr gim gom shm rwm dym ptm td tw R)), 0, 0)) (.inl (some (.int 0)), (0, ch sa sb lt tt lg bc gi go sh bn sc rw dy pt (mh (2) ab be lgm ltm smm bs kd mo dr wa re lom him scm ou sr gim gom shm rwm dym ptm td tw R)), 0, 0)) (.inl (some (.int 0)), (0, ch sa sb lt tt lg bc gi go sh bn sc rw dy pt (mh (1) ab be lgm ltm smm bs kd mo dr wa re lom him scm ou sr gim gom shm rwm dym ptm td tw R)), 0, 0)) := by
  refine XM_of (by decide +kernel) (Nat.le_of_ble_eq_true rfl) (Or.inl rfl) ?_
  refine J_aload_n d_Mo_send_0 rfl rfl ?_
  refine J_iload_n d_Mo_send_1 rfl rfl ?_
  refine J_if_lt (tgt := 10) d_Mo_send_2 (by decide) (fun c2 => ?_) (fun c2 => ?_)
  · skip
    refine J_iconst (v := 1) d_Mo_send_10 (by decide) ?_
    refine J_goto (tgt := 40) d_Mo_send_11 (by decide) ?_
    refine J_put d_Mo_send_40 xf_Mo_62 xt_Mo (fun _ _ _ h => by cases h; rfl) rfl rfl rfl (Nat.le_of_ble_eq_true rfl) ?_
    refine J_heap (h2 := ch sa sb lt tt lg bc gi go sh bn sc rw dy pt (mh (1) ab be lgm ltm smm bs kd mo dr wa re lom him scm ou sr gim gom shm rwm dym ptm td tw R)) rfl ?_
    refine J_aload_n d_Mo_send_43 rfl rfl ?_
    refine J_get d_Mo_send_44 xf_Mo_62 rfl rfl ?_
    refine J_if_ne (tgt := 54) d_Mo_send_47 (by decide) (fun _ => ?_) (fun q => absurd (by decide) q)
    refine J_iconst (v := 0) d_Mo_send_54 (by decide) ?_
    refine J_istore d_Mo_send_55 (by decide) ?_
    refine J_iconst (v := 0) d_Mo_send_57 (by decide) ?_
    refine J_istore d_Mo_send_58 (by decide) ?_
    refine J_iload d_Mo_send_60 rfl ?_
    refine J_iconst (v := 3) d_Mo_send_62 (by decide) ?_
    refine J_icmp_ge (tgt := 103) d_Mo_send_63 (by decide) (fun q => absurd q (by decide)) (fun _ => ?_)
    refine J_iload d_Mo_send_66 rfl ?_
    refine J_if_eq (tgt := 103) d_Mo_send_68 (by decide) (fun _ => ?_) (fun q => absurd (by decide) q)
    refine J_iconst (v := 0) d_Mo_send_103 (by decide) ?_
    refine J_istore d_Mo_send_104 (by decide) ?_
    refine J_iload d_Mo_send_106 rfl ?_
    refine J_iconst (v := 3) d_Mo_send_108 (by decide) ?_
    refine J_icmp_ge (tgt := 148) d_Mo_send_109 (by decide) (fun q => absurd q (by decide)) (fun _ => ?_)
    refine J_iload d_Mo_send_112 rfl ?_
    refine J_if_eq (tgt := 148) d_Mo_send_114 (by decide) (fun _ => ?_) (fun q => absurd (by decide) q)
    refine J_iload d_Mo_send_148 rfl ?_
    exact J_zreturn d_Mo_send_150 rfl rfl (by rw [xif_neg (fun q => absurd c2 q.1)] <;> try rfl)
  · skip
    refine J_iload_n d_Mo_send_5 rfl rfl ?_
    refine J_iconst (v := 3) d_Mo_send_6 (by decide) ?_
    refine J_icmp_le (tgt := 14) d_Mo_send_7 (by decide) (fun c7 => ?_) (fun c7 => ?_)
    · skip
      refine J_iload_n d_Mo_send_14 rfl rfl ?_
      refine J_iload_n d_Mo_send_15 rfl rfl ?_
      refine J_callP (xGo_s2 d_Mo_send_16 xc_Mo_98) ⟨xq_Mo_isPoured.1, xq_Mo_isPoured.2.1⟩ ⟨Nat.le_of_ble_eq_true rfl, Nat.le_of_ble_eq_true rfl, Nat.le_of_ble_eq_true rfl, Nat.le_of_ble_eq_true rfl⟩ (Nat.le_of_ble_eq_true rfl) n_isPoured ?_
      refine J_if_ne (tgt := 26) d_Mo_send_19 (by decide) (fun c19 => ?_) (fun c19 => ?_)
      · skip
        refine J_aload_n d_Mo_send_26 rfl rfl ?_
        refine J_get d_Mo_send_27 xf_Mo_46 rfl rfl ?_
        refine J_iload_n d_Mo_send_30 rfl rfl ?_
        refine J_zald d_Mo_send_31 (gt2 hG) rfl (ib4 c2 c7) ?_
        refine J_if_eq (tgt := 39) d_Mo_send_32 (by decide) (fun c32 => ?_) (fun c32 => ?_)
        · skip
          refine J_iconst (v := 3) d_Mo_send_39 (by decide) ?_
          refine J_put d_Mo_send_40 xf_Mo_62 xt_Mo (fun _ _ _ h => by cases h; rfl) rfl rfl rfl (Nat.le_of_ble_eq_true rfl) ?_
          refine J_heap (h2 := ch sa sb lt tt lg bc gi go sh bn sc rw dy pt (mh (3) ab be lgm ltm smm bs kd mo dr wa re lom him scm ou sr gim gom shm rwm dym ptm td tw R)) rfl ?_
          refine J_aload_n d_Mo_send_43 rfl rfl ?_
          refine J_get d_Mo_send_44 xf_Mo_62 rfl rfl ?_
          refine J_if_ne (tgt := 54) d_Mo_send_47 (by decide) (fun _ => ?_) (fun q => absurd (by decide) q)
          refine J_iconst (v := 0) d_Mo_send_54 (by decide) ?_
          refine J_istore d_Mo_send_55 (by decide) ?_
          refine J_iconst (v := 0) d_Mo_send_57 (by decide) ?_
          refine J_istore d_Mo_send_58 (by decide) ?_
          refine J_iload d_Mo_send_60 rfl ?_
          refine J_iconst (v := 3) d_Mo_send_62 (by decide) ?_
          refine J_icmp_ge (tgt := 103) d_Mo_send_63 (by decide) (fun q => absurd q (by decide)) (fun _ => ?_)
          refine J_iload d_Mo_send_66 rfl ?_
          refine J_if_eq (tgt := 103) d_Mo_send_68 (by decide) (fun _ => ?_) (fun q => absurd (by decide) q)
          refine J_iconst (v := 0) d_Mo_send_103 (by decide) ?_
          refine J_istore d_Mo_send_104 (by decide) ?_
          refine J_iload d_Mo_send_106 rfl ?_
          refine J_iconst (v := 3) d_Mo_send_108 (by decide) ?_
          refine J_icmp_ge (tgt := 148) d_Mo_send_109 (by decide) (fun q => absurd q (by decide)) (fun _ => ?_)
          refine J_iload d_Mo_send_112 rfl ?_
          refine J_if_eq (tgt := 148) d_Mo_send_114 (by decide) (fun _ => ?_) (fun q => absurd (by decide) q)
          refine J_iload d_Mo_send_148 rfl ?_
          exact J_zreturn d_Mo_send_150 rfl rfl (by rw [xif_pos ⟨c2, c7⟩, xif_pos c19, xif_neg (not_not_intro c32)] <;> try rfl)
        · skip
          refine J_iconst (v := 0) d_Mo_send_35 (by decide) ?_
          refine J_goto (tgt := 40) d_Mo_send_36 (by decide) ?_
          refine J_put d_Mo_send_40 xf_Mo_62 xt_Mo (fun _ _ _ h => by cases h; rfl) rfl rfl rfl (Nat.le_of_ble_eq_true rfl) ?_
          refine J_heap (h2 := ch sa sb lt tt lg bc gi go sh bn sc rw dy pt (mh (0) ab be lgm ltm smm bs kd mo dr wa re lom him scm ou sr gim gom shm rwm dym ptm td tw R)) rfl ?_
          refine J_aload_n d_Mo_send_43 rfl rfl ?_
          refine J_get d_Mo_send_44 xf_Mo_62 rfl rfl ?_
          refine J_if_ne (tgt := 54) d_Mo_send_47 (by decide) (fun q => absurd q (by decide)) (fun _ => ?_)
          refine J_iconst (v := 1) d_Mo_send_50 (by decide) ?_
          refine J_goto (tgt := 55) d_Mo_send_51 (by decide) ?_
          refine J_istore d_Mo_send_55 (by decide) ?_
          refine J_iconst (v := 0) d_Mo_send_57 (by decide) ?_
          refine J_istore d_Mo_send_58 (by decide) ?_
          refine J_iload d_Mo_send_60 rfl ?_
          refine J_iconst (v := 3) d_Mo_send_62 (by decide) ?_
          refine J_icmp_ge (tgt := 103) d_Mo_send_63 (by decide) (fun q => absurd q (by decide)) (fun _ => ?_)
          refine J_iload d_Mo_send_66 rfl ?_
          refine J_if_eq (tgt := 103) d_Mo_send_68 (by decide) (fun q => absurd q (by decide)) (fun _ => ?_)
          refine J_aload_n d_Mo_send_71 rfl rfl ?_
          refine J_aload_n d_Mo_send_72 rfl rfl ?_
          refine J_get d_Mo_send_73 xf_Mo_50 rfl rfl ?_
          refine J_iconst (v := 3) d_Mo_send_76 (by decide) ?_
          refine J_iload_n d_Mo_send_77 rfl rfl ?_
          refine J_imul d_Mo_send_78 ?_
          refine J_iload d_Mo_send_79 rfl ?_
          refine J_iadd d_Mo_send_81 ?_
          refine J_iald d_Mo_send_82 (gt0 hG) rfl (ib12 c2 (le3 c7) 0 (by decide)) ?_
          refine J_aload_n d_Mo_send_83 rfl rfl ?_
          refine J_iload_n d_Mo_send_84 rfl rfl ?_
          refine J_iload d_Mo_send_85 rfl ?_
          refine J_iload_n d_Mo_send_87 rfl rfl ?_
          refine J_i2l d_Mo_send_88 ?_
          refine J_callP (xGo_v3 d_Mo_send_89 xc_Mo_116 rfl rfl rfl) ⟨xq_Mo_part.1, xq_Mo_part.2.1⟩ ⟨Nat.le_of_ble_eq_true rfl, Nat.le_of_ble_eq_true rfl, Nat.le_of_ble_eq_true rfl, Nat.le_of_ble_eq_true rfl⟩ (Nat.le_of_ble_eq_true rfl) (n_part hG c2 (le3 c7) (ib12 c2 (le3 c7) 0 (by decide))) ?_
          refine J_callP (xGo_v2 d_Mo_send_92 xc_Mo_102 rfl rfl rfl) ⟨xq_Mo_hasRoom.1, xq_Mo_hasRoom.2.1⟩ ⟨Nat.le_of_ble_eq_true rfl, Nat.le_of_ble_eq_true rfl, Nat.le_of_ble_eq_true rfl, Nat.le_of_ble_eq_true rfl⟩ (Nat.le_of_ble_eq_true rfl) (n_hasRoom hG (ho ⟨c2, c7⟩ c32 0 (by decide))) ?_
          refine J_istore d_Mo_send_95 (by decide) ?_
          refine J_iinc (v := 1) d_Mo_send_97 rfl (by decide) (by decide) ?_
          refine J_goto (tgt := 60) d_Mo_send_100 (by decide) ?_
          refine J_iload d_Mo_send_60 rfl ?_
          refine J_iconst (v := 3) d_Mo_send_62 (by decide) ?_
          refine J_icmp_ge (tgt := 103) d_Mo_send_63 (by decide) (fun q => absurd q (by decide)) (fun _ => ?_)
          refine J_iload d_Mo_send_66 rfl ?_
          refine J_if_eq (tgt := 103) d_Mo_send_68 (by decide) (fun c68 => ?_) (fun c68 => ?_)
          · skip
            refine J_iconst (v := 0) d_Mo_send_103 (by decide) ?_
            refine J_istore d_Mo_send_104 (by decide) ?_
            refine J_iload d_Mo_send_106 rfl ?_
            refine J_iconst (v := 3) d_Mo_send_108 (by decide) ?_
            refine J_icmp_ge (tgt := 148) d_Mo_send_109 (by decide) (fun q => absurd q (by decide)) (fun _ => ?_)
            refine J_iload d_Mo_send_112 rfl ?_
            refine J_if_eq (tgt := 148) d_Mo_send_114 (by decide) (fun c114 => ?_) (fun c114 => ?_)
            · skip
              refine J_iload d_Mo_send_148 rfl ?_
              exact J_zreturn d_Mo_send_150 rfl mr_b (by rw [xif_pos ⟨c2, c7⟩, xif_pos c19, xif_pos c32, xif_pos (P := s_mr mo dr wa (ou (3 * s + 0).toNatClampNeg) (s_pt sr s 0 k.toInt64) = 0) c68] <;> try rfl)
            · skip
              exact absurd c68 c114
          · skip
            refine J_aload_n d_Mo_send_71 rfl rfl ?_
            refine J_aload_n d_Mo_send_72 rfl rfl ?_
            refine J_get d_Mo_send_73 xf_Mo_50 rfl rfl ?_
            refine J_iconst (v := 3) d_Mo_send_76 (by decide) ?_
            refine J_iload_n d_Mo_send_77 rfl rfl ?_
            refine J_imul d_Mo_send_78 ?_
            refine J_iload d_Mo_send_79 rfl ?_
            refine J_iadd d_Mo_send_81 ?_
            refine J_iald d_Mo_send_82 (gt0 hG) rfl (ib12 c2 (le3 c7) 1 (by decide)) ?_
            refine J_aload_n d_Mo_send_83 rfl rfl ?_
            refine J_iload_n d_Mo_send_84 rfl rfl ?_
            refine J_iload d_Mo_send_85 rfl ?_
            refine J_iload_n d_Mo_send_87 rfl rfl ?_
            refine J_i2l d_Mo_send_88 ?_
            refine J_callP (xGo_v3 d_Mo_send_89 xc_Mo_116 rfl rfl rfl) ⟨xq_Mo_part.1, xq_Mo_part.2.1⟩ ⟨Nat.le_of_ble_eq_true rfl, Nat.le_of_ble_eq_true rfl, Nat.le_of_ble_eq_true rfl, Nat.le_of_ble_eq_true rfl⟩ (Nat.le_of_ble_eq_true rfl) (n_part hG c2 (le3 c7) (ib12 c2 (le3 c7) 1 (by decide))) ?_
            refine J_callP (xGo_v2 d_Mo_send_92 xc_Mo_102 rfl rfl rfl) ⟨xq_Mo_hasRoom.1, xq_Mo_hasRoom.2.1⟩ ⟨Nat.le_of_ble_eq_true rfl, Nat.le_of_ble_eq_true rfl, Nat.le_of_ble_eq_true rfl, Nat.le_of_ble_eq_true rfl⟩ (Nat.le_of_ble_eq_true rfl) (n_hasRoom hG (ho ⟨c2, c7⟩ c32 1 (by decide))) ?_
            refine J_istore d_Mo_send_95 (by decide) ?_
            refine J_iinc (v := 2) d_Mo_send_97 rfl (by decide) (by decide) ?_
            refine J_goto (tgt := 60) d_Mo_send_100 (by decide) ?_
            refine J_iload d_Mo_send_60 rfl ?_
            refine J_iconst (v := 3) d_Mo_send_62 (by decide) ?_
            refine J_icmp_ge (tgt := 103) d_Mo_send_63 (by decide) (fun q => absurd q (by decide)) (fun _ => ?_)
            refine J_iload d_Mo_send_66 rfl ?_
            refine J_if_eq (tgt := 103) d_Mo_send_68 (by decide) (fun c68_2 => ?_) (fun c68_2 => ?_)
            · skip
              refine J_iconst (v := 0) d_Mo_send_103 (by decide) ?_
              refine J_istore d_Mo_send_104 (by decide) ?_
              refine J_iload d_Mo_send_106 rfl ?_
              refine J_iconst (v := 3) d_Mo_send_108 (by decide) ?_
              refine J_icmp_ge (tgt := 148) d_Mo_send_109 (by decide) (fun q => absurd q (by decide)) (fun _ => ?_)
              refine J_iload d_Mo_send_112 rfl ?_
              refine J_if_eq (tgt := 148) d_Mo_send_114 (by decide) (fun c114 => ?_) (fun c114 => ?_)
              · skip
                refine J_iload d_Mo_send_148 rfl ?_
                exact J_zreturn d_Mo_send_150 rfl mr_b (by rw [xif_pos ⟨c2, c7⟩, xif_pos c19, xif_pos c32, xif_neg (P := s_mr mo dr wa (ou (3 * s + 0).toNatClampNeg) (s_pt sr s 0 k.toInt64) = 0) c68, xif_pos (P := s_mr mo dr wa (ou (3 * s + 1).toNatClampNeg) (s_pt sr s 1 k.toInt64) = 0) c68_2] <;> try rfl)
              · skip
                exact absurd c68_2 c114
            · skip
              refine J_aload_n d_Mo_send_71 rfl rfl ?_
              refine J_aload_n d_Mo_send_72 rfl rfl ?_
              refine J_get d_Mo_send_73 xf_Mo_50 rfl rfl ?_
              refine J_iconst (v := 3) d_Mo_send_76 (by decide) ?_
              refine J_iload_n d_Mo_send_77 rfl rfl ?_
              refine J_imul d_Mo_send_78 ?_
              refine J_iload d_Mo_send_79 rfl ?_
              refine J_iadd d_Mo_send_81 ?_
              refine J_iald d_Mo_send_82 (gt0 hG) rfl (ib12 c2 (le3 c7) 2 (by decide)) ?_
              refine J_aload_n d_Mo_send_83 rfl rfl ?_
              refine J_iload_n d_Mo_send_84 rfl rfl ?_
              refine J_iload d_Mo_send_85 rfl ?_
              refine J_iload_n d_Mo_send_87 rfl rfl ?_
              refine J_i2l d_Mo_send_88 ?_
              refine J_callP (xGo_v3 d_Mo_send_89 xc_Mo_116 rfl rfl rfl) ⟨xq_Mo_part.1, xq_Mo_part.2.1⟩ ⟨Nat.le_of_ble_eq_true rfl, Nat.le_of_ble_eq_true rfl, Nat.le_of_ble_eq_true rfl, Nat.le_of_ble_eq_true rfl⟩ (Nat.le_of_ble_eq_true rfl) (n_part hG c2 (le3 c7) (ib12 c2 (le3 c7) 2 (by decide))) ?_
              refine J_callP (xGo_v2 d_Mo_send_92 xc_Mo_102 rfl rfl rfl) ⟨xq_Mo_hasRoom.1, xq_Mo_hasRoom.2.1⟩ ⟨Nat.le_of_ble_eq_true rfl, Nat.le_of_ble_eq_true rfl, Nat.le_of_ble_eq_true rfl, Nat.le_of_ble_eq_true rfl⟩ (Nat.le_of_ble_eq_true rfl) (n_hasRoom hG (ho ⟨c2, c7⟩ c32 2 (by decide))) ?_
              refine J_istore d_Mo_send_95 (by decide) ?_
              refine J_iinc (v := 3) d_Mo_send_97 rfl (by decide) (by decide) ?_
              refine J_goto (tgt := 60) d_Mo_send_100 (by decide) ?_
              refine J_iload d_Mo_send_60 rfl ?_
              refine J_iconst (v := 3) d_Mo_send_62 (by decide) ?_
              refine J_icmp_ge (tgt := 103) d_Mo_send_63 (by decide) (fun _ => ?_) (fun q => absurd (by decide) q)
              refine J_iconst (v := 0) d_Mo_send_103 (by decide) ?_
              refine J_istore d_Mo_send_104 (by decide) ?_
              refine J_iload d_Mo_send_106 rfl ?_
              refine J_iconst (v := 3) d_Mo_send_108 (by decide) ?_
              refine J_icmp_ge (tgt := 148) d_Mo_send_109 (by decide) (fun q => absurd q (by decide)) (fun _ => ?_)
              refine J_iload d_Mo_send_112 rfl ?_
              refine J_if_eq (tgt := 148) d_Mo_send_114 (by decide) (fun c114 => ?_) (fun c114 => ?_)
              · skip
                refine J_iload d_Mo_send_148 rfl ?_
                exact J_zreturn d_Mo_send_150 rfl mr_b (by rw [xif_pos ⟨c2, c7⟩, xif_pos c19, xif_pos c32, xif_neg (P := s_mr mo dr wa (ou (3 * s + 0).toNatClampNeg) (s_pt sr s 0 k.toInt64) = 0) c68, xif_neg (P := s_mr mo dr wa (ou (3 * s + 1).toNatClampNeg) (s_pt sr s 1 k.toInt64) = 0) c68_2, xif_pos (P := s_mr mo dr wa (ou (3 * s + 2).toNatClampNeg) (s_pt sr s 2 k.toInt64) = 0) c114] <;> try rfl)
              · skip
                refine J_aload_n d_Mo_send_117 rfl rfl ?_
                refine J_aload_n d_Mo_send_118 rfl rfl ?_
                refine J_get d_Mo_send_119 xf_Mo_50 rfl rfl ?_
                refine J_iconst (v := 3) d_Mo_send_122 (by decide) ?_
                refine J_iload_n d_Mo_send_123 rfl rfl ?_
                refine J_imul d_Mo_send_124 ?_
                refine J_iload d_Mo_send_125 rfl ?_
                refine J_iadd d_Mo_send_127 ?_
                refine J_iald d_Mo_send_128 (gt0 hG) rfl (ib12 c2 (le3 c7) 0 (by decide)) ?_
                refine J_aload_n d_Mo_send_129 rfl rfl ?_
                refine J_iload_n d_Mo_send_130 rfl rfl ?_
                refine J_iload d_Mo_send_131 rfl ?_
                refine J_iload_n d_Mo_send_133 rfl rfl ?_
                refine J_i2l d_Mo_send_134 ?_
                refine J_callP (xGo_v3 d_Mo_send_135 xc_Mo_116 rfl rfl rfl) ⟨xq_Mo_part.1, xq_Mo_part.2.1⟩ ⟨Nat.le_of_ble_eq_true rfl, Nat.le_of_ble_eq_true rfl, Nat.le_of_ble_eq_true rfl, Nat.le_of_ble_eq_true rfl⟩ (Nat.le_of_ble_eq_true rfl) (n_part hG c2 (le3 c7) (ib12 c2 (le3 c7) 0 (by decide))) ?_
                refine J_iload_n d_Mo_send_138 rfl rfl ?_
                refine J_callW (xGo_v3 d_Mo_send_139 xc_Mo_106 rfl rfl rfl) ⟨xq_Mo_add.1, xq_Mo_add.2.1⟩ ⟨Nat.le_of_ble_eq_true rfl, Nat.le_of_ble_eq_true rfl, Nat.le_of_ble_eq_true rfl, Nat.le_of_ble_eq_true rfl⟩ (Nat.le_of_ble_eq_true rfl) (n_add hG (ho ⟨c2, c7⟩ c32 0 (by decide))) ?_
                refine J_iinc (v := 1) d_Mo_send_142 rfl (by decide) (by decide) ?_
                refine J_goto (tgt := 106) d_Mo_send_145 (by decide) ?_
                refine J_iload d_Mo_send_106 rfl ?_
                refine J_iconst (v := 3) d_Mo_send_108 (by decide) ?_
                refine J_icmp_ge (tgt := 148) d_Mo_send_109 (by decide) (fun q => absurd q (by decide)) (fun _ => ?_)
                refine J_iload d_Mo_send_112 rfl ?_
                refine J_if_eq (tgt := 148) d_Mo_send_114 (by decide) (fun c114_2 => ?_) (fun c114_2 => ?_)
                · skip
                  exact absurd c114_2 c114
                · skip
                  refine J_aload_n d_Mo_send_117 rfl rfl ?_
                  refine J_aload_n d_Mo_send_118 rfl rfl ?_
                  refine J_get d_Mo_send_119 xf_Mo_50 rfl rfl ?_
                  refine J_iconst (v := 3) d_Mo_send_122 (by decide) ?_
                  refine J_iload_n d_Mo_send_123 rfl rfl ?_
                  refine J_imul d_Mo_send_124 ?_
                  refine J_iload d_Mo_send_125 rfl ?_
                  refine J_iadd d_Mo_send_127 ?_
                  refine J_iald d_Mo_send_128 (gt0 hG) rfl (ib12 c2 (le3 c7) 1 (by decide)) ?_
                  refine J_aload_n d_Mo_send_129 rfl rfl ?_
                  refine J_iload_n d_Mo_send_130 rfl rfl ?_
                  refine J_iload d_Mo_send_131 rfl ?_
                  refine J_iload_n d_Mo_send_133 rfl rfl ?_
                  refine J_i2l d_Mo_send_134 ?_
                  refine J_callP (xGo_v3 d_Mo_send_135 xc_Mo_116 rfl rfl rfl) ⟨xq_Mo_part.1, xq_Mo_part.2.1⟩ ⟨Nat.le_of_ble_eq_true rfl, Nat.le_of_ble_eq_true rfl, Nat.le_of_ble_eq_true rfl, Nat.le_of_ble_eq_true rfl⟩ (Nat.le_of_ble_eq_true rfl) (n_part hG c2 (le3 c7) (ib12 c2 (le3 c7) 1 (by decide))) ?_
                  refine J_iload_n d_Mo_send_138 rfl rfl ?_
                  refine J_callW (xGo_v3 d_Mo_send_139 xc_Mo_106 rfl rfl rfl) ⟨xq_Mo_add.1, xq_Mo_add.2.1⟩ ⟨Nat.le_of_ble_eq_true rfl, Nat.le_of_ble_eq_true rfl, Nat.le_of_ble_eq_true rfl, Nat.le_of_ble_eq_true rfl⟩ (Nat.le_of_ble_eq_true rfl) (n_add hG (ho ⟨c2, c7⟩ c32 1 (by decide))) ?_
                  refine J_iinc (v := 2) d_Mo_send_142 rfl (by decide) (by decide) ?_
                  refine J_goto (tgt := 106) d_Mo_send_145 (by decide) ?_
                  refine J_iload d_Mo_send_106 rfl ?_
                  refine J_iconst (v := 3) d_Mo_send_108 (by decide) ?_
                  refine J_icmp_ge (tgt := 148) d_Mo_send_109 (by decide) (fun q => absurd q (by decide)) (fun _ => ?_)
                  refine J_iload d_Mo_send_112 rfl ?_
                  refine J_if_eq (tgt := 148) d_Mo_send_114 (by decide) (fun c114_3 => ?_) (fun c114_3 => ?_)
                  · skip
                    exact absurd c114_3 c114
                  · skip
                    refine J_aload_n d_Mo_send_117 rfl rfl ?_
                    refine J_aload_n d_Mo_send_118 rfl rfl ?_
                    refine J_get d_Mo_send_119 xf_Mo_50 rfl rfl ?_
                    refine J_iconst (v := 3) d_Mo_send_122 (by decide) ?_
                    refine J_iload_n d_Mo_send_123 rfl rfl ?_
                    refine J_imul d_Mo_send_124 ?_
                    refine J_iload d_Mo_send_125 rfl ?_
                    refine J_iadd d_Mo_send_127 ?_
                    refine J_iald d_Mo_send_128 (gt0 hG) rfl (ib12 c2 (le3 c7) 2 (by decide)) ?_
                    refine J_aload_n d_Mo_send_129 rfl rfl ?_
                    refine J_iload_n d_Mo_send_130 rfl rfl ?_
                    refine J_iload d_Mo_send_131 rfl ?_
                    refine J_iload_n d_Mo_send_133 rfl rfl ?_
                    refine J_i2l d_Mo_send_134 ?_
                    refine J_callP (xGo_v3 d_Mo_send_135 xc_Mo_116 rfl rfl rfl) ⟨xq_Mo_part.1, xq_Mo_part.2.1⟩ ⟨Nat.le_of_ble_eq_true rfl, Nat.le_of_ble_eq_true rfl, Nat.le_of_ble_eq_true rfl, Nat.le_of_ble_eq_true rfl⟩ (Nat.le_of_ble_eq_true rfl) (n_part hG c2 (le3 c7) (ib12 c2 (le3 c7) 2 (by decide))) ?_
                    refine J_iload_n d_Mo_send_138 rfl rfl ?_
                    refine J_callW (xGo_v3 d_Mo_send_139 xc_Mo_106 rfl rfl rfl) ⟨xq_Mo_add.1, xq_Mo_add.2.1⟩ ⟨Nat.le_of_ble_eq_true rfl, Nat.le_of_ble_eq_true rfl, Nat.le_of_ble_eq_true rfl, Nat.le_of_ble_eq_true rfl⟩ (Nat.le_of_ble_eq_true rfl) (n_add hG (ho ⟨c2, c7⟩ c32 2 (by decide))) ?_
                    refine J_iinc (v := 3) d_Mo_send_142 rfl (by decide) (by decide) ?_
                    refine J_goto (tgt := 106) d_Mo_send_145 (by decide) ?_
                    refine J_iload d_Mo_send_106 rfl ?_
                    refine J_iconst (v := 3) d_Mo_send_108 (by decide) ?_
                    refine J_icmp_ge (tgt := 148) d_Mo_send_109 (by decide) (fun _ => ?_) (fun q => absurd (by decide) q)
                    refine J_iload d_Mo_send_148 rfl ?_
                    exact J_zreturn d_Mo_send_150 rfl mr_b (by rw [xif_pos ⟨c2, c7⟩, xif_pos c19, xif_pos c32, xif_neg (P := s_mr mo dr wa (ou (3 * s + 0).toNatClampNeg) (s_pt sr s 0 k.toInt64) = 0) c68, xif_neg (P := s_mr mo dr wa (ou (3 * s + 1).toNatClampNeg) (s_pt sr s 1 k.toInt64) = 0) c68_2, xif_neg (P := s_mr mo dr wa (ou (3 * s + 2).toNatClampNeg) (s_pt sr s 2 k.toInt64) = 0) c114] <;> try rfl)
      · skip
        have c19 := Classical.not_not.mp c19
        refine J_iconst (v := 2) d_Mo_send_22 (by decide) ?_
        refine J_goto (tgt := 40) d_Mo_send_23 (by decide) ?_
        refine J_put d_Mo_send_40 xf_Mo_62 xt_Mo (fun _ _ _ h => by cases h; rfl) rfl rfl rfl (Nat.le_of_ble_eq_true rfl) ?_
        refine J_heap (h2 := ch sa sb lt tt lg bc gi go sh bn sc rw dy pt (mh (2) ab be lgm ltm smm bs kd mo dr wa re lom him scm ou sr gim gom shm rwm dym ptm td tw R)) rfl ?_
        refine J_aload_n d_Mo_send_43 rfl rfl ?_
        refine J_get d_Mo_send_44 xf_Mo_62 rfl rfl ?_
        refine J_if_ne (tgt := 54) d_Mo_send_47 (by decide) (fun _ => ?_) (fun q => absurd (by decide) q)
        refine J_iconst (v := 0) d_Mo_send_54 (by decide) ?_
        refine J_istore d_Mo_send_55 (by decide) ?_
        refine J_iconst (v := 0) d_Mo_send_57 (by decide) ?_
        refine J_istore d_Mo_send_58 (by decide) ?_
        refine J_iload d_Mo_send_60 rfl ?_
        refine J_iconst (v := 3) d_Mo_send_62 (by decide) ?_
        refine J_icmp_ge (tgt := 103) d_Mo_send_63 (by decide) (fun q => absurd q (by decide)) (fun _ => ?_)
        refine J_iload d_Mo_send_66 rfl ?_
        refine J_if_eq (tgt := 103) d_Mo_send_68 (by decide) (fun _ => ?_) (fun q => absurd (by decide) q)
        refine J_iconst (v := 0) d_Mo_send_103 (by decide) ?_
        refine J_istore d_Mo_send_104 (by decide) ?_
        refine J_iload d_Mo_send_106 rfl ?_
        refine J_iconst (v := 3) d_Mo_send_108 (by decide) ?_
        refine J_icmp_ge (tgt := 148) d_Mo_send_109 (by decide) (fun q => absurd q (by decide)) (fun _ => ?_)
        refine J_iload d_Mo_send_112 rfl ?_
        refine J_if_eq (tgt := 148) d_Mo_send_114 (by decide) (fun _ => ?_) (fun q => absurd (by decide) q)
        refine J_iload d_Mo_send_148 rfl ?_
        exact J_zreturn d_Mo_send_150 rfl rfl (by rw [xif_pos ⟨c2, c7⟩, xif_neg (not_not_intro c19)] <;> try rfl)
    · skip
      refine J_iconst (v := 1) d_Mo_send_10 (by decide) ?_
      refine J_goto (tgt := 40) d_Mo_send_11 (by decide) ?_
      refine J_put d_Mo_send_40 xf_Mo_62 xt_Mo (fun _ _ _ h => by cases h; rfl) rfl rfl rfl (Nat.le_of_ble_eq_true rfl) ?_
      refine J_heap (h2 := ch sa sb lt tt lg bc gi go sh bn sc rw dy pt (mh (1) ab be lgm ltm smm bs kd mo dr wa re lom him scm ou sr gim gom shm rwm dym ptm td tw R)) rfl ?_
      refine J_aload_n d_Mo_send_43 rfl rfl ?_
      refine J_get d_Mo_send_44 xf_Mo_62 rfl rfl ?_
      refine J_if_ne (tgt := 54) d_Mo_send_47 (by decide) (fun _ => ?_) (fun q => absurd (by decide) q)
      refine J_iconst (v := 0) d_Mo_send_54 (by decide) ?_
      refine J_istore d_Mo_send_55 (by decide) ?_
      refine J_iconst (v := 0) d_Mo_send_57 (by decide) ?_
      refine J_istore d_Mo_send_58 (by decide) ?_
      refine J_iload d_Mo_send_60 rfl ?_
      refine J_iconst (v := 3) d_Mo_send_62 (by decide) ?_
      refine J_icmp_ge (tgt := 103) d_Mo_send_63 (by decide) (fun q => absurd q (by decide)) (fun _ => ?_)
      refine J_iload d_Mo_send_66 rfl ?_
      refine J_if_eq (tgt := 103) d_Mo_send_68 (by decide) (fun _ => ?_) (fun q => absurd (by decide) q)
      refine J_iconst (v := 0) d_Mo_send_103 (by decide) ?_
      refine J_istore d_Mo_send_104 (by decide) ?_
      refine J_iload d_Mo_send_106 rfl ?_
      refine J_iconst (v := 3) d_Mo_send_108 (by decide) ?_
      refine J_icmp_ge (tgt := 148) d_Mo_send_109 (by decide) (fun q => absurd q (by decide)) (fun _ => ?_)
      refine J_iload d_Mo_send_112 rfl ?_
      refine J_if_eq (tgt := 148) d_Mo_send_114 (by decide) (fun _ => ?_) (fun q => absurd (by decide) q)
      refine J_iload d_Mo_send_148 rfl ?_
      exact J_zreturn d_Mo_send_150 rfl rfl (by rw [xif_neg (fun q => absurd q.2 c7)] <;> try rfl)
set_option maxHeartbeats 4000000 in
set_option maxRecDepth 100000 in
theorem n_mix {n t k : Int32} (hG : gTok G) {nb : Nat} (hb : bs = nI nb) (hn : nb ≤ 8) (hz2 : s_nb bs t = 0 → ¬ s_in k.toInt64 1 1000000 = 0 → ¬ s_al dr wa t + 1000 * k.toInt64 = 0) : XM G Y_Mo_mix [.ref 22, .int n, .int t, .int k] (1, ch sa sb lt tt lg bc gi go sh bn sc rw dy pt (mh th ab be lgm ltm smm bs kd mo dr wa re lom him scm ou sr gim gom shm rwm dym ptm td tw R)) (xif (s_nb bs n = 0 ∧ s_nb bs t = 0) (xif (¬ n = t ∧ ¬ s_in k.toInt64 1 1000000 = 0) (xif (¬ s_ha dr wa n k = 0) (xif ((wa t.toNatClampNeg + wa n.toNatClampNeg * (1000 * k.toInt64) / s_al dr wa n) * 1000 / (s_al dr wa t + 1000 * k.toInt64) < (lom t.toNatClampNeg).toInt64) (.inl (some (.int 0)), (0, ch sa sb lt tt lg bc gi go sh bn sc rw dy pt (mh (0) ab be lgm ltm smm bs kd mo dr wa re lom him scm ou sr gim gom shm rwm dym ptm (1000 * k.toInt64 - wa n.toNatClampNeg * (1000 * k.toInt64) / s_al dr wa n) (wa n.toNatClampNeg * (1000 * k.toInt64) / s_al dr wa n) R)), 0, 0) (xif ((him t.toNatClampNeg).toInt64 < (wa t.toNatClampNeg + wa n.toNatClampNeg * (1000 * k.toInt64) / s_al dr wa n) * 1000 / (s_al dr wa t + 1000 * k.toInt64)) (.inl (some (.int 0)), (0, ch sa sb lt tt lg bc gi go sh bn sc rw dy pt (mh (0) ab be lgm ltm smm bs kd mo dr wa re lom him scm ou sr gim gom shm rwm dym ptm (1000 * k.toInt64 - wa n.toNatClampNeg * (1000 * k.toInt64) / s_al dr wa n) (wa n.toNatClampNeg * (1000 * k.toInt64) / s_al dr wa n) R)), 0, 0) (xif (s_mr mo dr wa t k.toInt64 = 0) (.inl (some (.int 0)), (0, ch sa sb lt tt lg bc gi go sh bn sc rw dy pt (mh (0) ab be lgm ltm smm bs kd mo dr wa re lom him scm ou sr gim gom shm rwm dym ptm (1000 * k.toInt64 - wa n.toNatClampNeg * (1000 * k.toInt64) / s_al dr wa n) (wa n.toNatClampNeg * (1000 * k.toInt64) / s_al dr wa n) R)), 0, 0) (.inl (some (.int 1)), (0, ch sa sb lt tt lg bc gi go sh bn sc rw dy pt (mh (0) ab be lgm ltm smm bs kd mo (vp_updL (vp_updL dr n.toNatClampNeg (dr n.toNatClampNeg - (1000 * k.toInt64 - wa n.toNatClampNeg * (1000 * k.toInt64) / s_al dr wa n))) t.toNatClampNeg ((vp_updL dr n.toNatClampNeg (dr n.toNatClampNeg - (1000 * k.toInt64 - wa n.toNatClampNeg * (1000 * k.toInt64) / s_al dr wa n))) t.toNatClampNeg + (1000 * k.toInt64 - wa n.toNatClampNeg * (1000 * k.toInt64) / s_al dr wa n))) (vp_updL (vp_updL wa n.toNatClampNeg (wa n.toNatClampNeg - wa n.toNatClampNeg * (1000 * k.toInt64) / s_al dr wa n)) t.toNatClampNeg (wa t.toNatClampNeg + wa n.toNatClampNeg * (1000 * k.toInt64) / s_al dr wa n)) re lom him scm ou sr gim (gom + (1000 * k.toInt64 - wa n.toNatClampNeg * (1000 * k.toInt64) / s_al dr wa n) + wa n.toNatClampNeg * (1000 * k.toInt64) / s_al dr wa n) shm rwm dym ptm (1000 * k.toInt64 - wa n.toNatClampNeg * (1000 * k.toInt64) / s_al dr wa n) (wa n.toNatClampNeg * (1000 * k.toInt64) / s_al dr wa n) R)), 0, 0)))) (.inl (some (.int 0)), (0, ch sa sb lt tt lg bc gi go sh bn sc rw dy pt (mh (3) ab be lgm ltm smm bs kd mo dr wa re lom him scm ou sr gim gom shm rwm dym ptm td tw R)), 0, 0)) (.inl (some (.int 0)), (0, ch sa sb lt tt lg bc gi go sh bn sc rw dy pt (mh (2) ab be lgm ltm smm bs kd mo dr wa re lom him scm ou sr gim gom shm rwm dym ptm td tw R)), 0, 0)) (.inl (some (.int 0)), (0, ch sa sb lt tt lg bc gi go sh bn sc rw dy pt (mh (1) ab be lgm ltm smm bs kd mo dr wa re lom him scm ou sr gim gom shm rwm dym ptm td tw R)), 0, 0)) := by
  refine XM_of (by decide +kernel) (Nat.le_of_ble_eq_true rfl) (Or.inl rfl) ?_
  refine J_aload_n d_Mo_mix_0 rfl rfl ?_
  refine J_aload_n d_Mo_mix_1 rfl rfl ?_
  refine J_iload_n d_Mo_mix_2 rfl rfl ?_
  refine J_callP (xGo_v1 d_Mo_mix_3 xc_Mo_94 rfl rfl rfl) ⟨xq_Mo_noBin.1, xq_Mo_noBin.2.1⟩ ⟨Nat.le_of_ble_eq_true rfl, Nat.le_of_ble_eq_true rfl, Nat.le_of_ble_eq_true rfl, Nat.le_of_ble_eq_true rfl⟩ (Nat.le_of_ble_eq_true rfl) n_noBin ?_
  refine J_if_ne (tgt := 17) d_Mo_mix_6 (by decide) (fun c6 => ?_) (fun c6 => ?_)
  · skip
    refine J_iconst (v := 1) d_Mo_mix_17 (by decide) ?_
    refine J_goto (tgt := 56) d_Mo_mix_18 (by decide) ?_
    refine J_put d_Mo_mix_56 xf_Mo_62 xt_Mo (fun _ _ _ h => by cases h; rfl) rfl rfl rfl (Nat.le_of_ble_eq_true rfl) ?_
    refine J_heap (h2 := ch sa sb lt tt lg bc gi go sh bn sc rw dy pt (mh (1) ab be lgm ltm smm bs kd mo dr wa re lom him scm ou sr gim gom shm rwm dym ptm td tw R)) rfl ?_
    refine J_aload_n d_Mo_mix_59 rfl rfl ?_
    refine J_get d_Mo_mix_60 xf_Mo_62 rfl rfl ?_
    refine J_if_le (tgt := 68) d_Mo_mix_63 (by decide) (fun q => absurd q (by decide)) (fun _ => ?_)
    refine J_iconst (v := 0) d_Mo_mix_66 (by decide) ?_
    exact J_zreturn d_Mo_mix_67 rfl rfl (by rw [xif_neg (fun q => absurd q.1 c6)] <;> try rfl)
  · skip
    have c6 := Classical.not_not.mp c6
    refine J_aload_n d_Mo_mix_9 rfl rfl ?_
    refine J_iload_n d_Mo_mix_10 rfl rfl ?_
    refine J_callP (xGo_v1 d_Mo_mix_11 xc_Mo_94 rfl rfl rfl) ⟨xq_Mo_noBin.1, xq_Mo_noBin.2.1⟩ ⟨Nat.le_of_ble_eq_true rfl, Nat.le_of_ble_eq_true rfl, Nat.le_of_ble_eq_true rfl, Nat.le_of_ble_eq_true rfl⟩ (Nat.le_of_ble_eq_true rfl) n_noBin ?_
    refine J_if_eq (tgt := 21) d_Mo_mix_14 (by decide) (fun c14 => ?_) (fun c14 => ?_)
    · skip
      refine J_iload_n d_Mo_mix_21 rfl rfl ?_
      refine J_iload_n d_Mo_mix_22 rfl rfl ?_
      refine J_icmp_eq (tgt := 38) d_Mo_mix_23 (by decide) (fun c23 => ?_) (fun c23 => ?_)
      · skip
        refine J_iconst (v := 2) d_Mo_mix_38 (by decide) ?_
        refine J_goto (tgt := 56) d_Mo_mix_39 (by decide) ?_
        refine J_put d_Mo_mix_56 xf_Mo_62 xt_Mo (fun _ _ _ h => by cases h; rfl) rfl rfl rfl (Nat.le_of_ble_eq_true rfl) ?_
        refine J_heap (h2 := ch sa sb lt tt lg bc gi go sh bn sc rw dy pt (mh (2) ab be lgm ltm smm bs kd mo dr wa re lom him scm ou sr gim gom shm rwm dym ptm td tw R)) rfl ?_
        refine J_aload_n d_Mo_mix_59 rfl rfl ?_
        refine J_get d_Mo_mix_60 xf_Mo_62 rfl rfl ?_
        refine J_if_le (tgt := 68) d_Mo_mix_63 (by decide) (fun q => absurd q (by decide)) (fun _ => ?_)
        refine J_iconst (v := 0) d_Mo_mix_66 (by decide) ?_
        exact J_zreturn d_Mo_mix_67 rfl rfl (by rw [xif_pos ⟨c6, c14⟩, xif_neg (fun q => absurd c23 q.1)] <;> try rfl)
      · skip
        refine J_iload_n d_Mo_mix_26 rfl rfl ?_
        refine J_i2l d_Mo_mix_27 ?_
        refine J_lconst (v := 1) d_Mo_mix_28 (by decide) ?_
        refine J_ldc2_w d_Mo_mix_29 xj_Mo_84 ?_
        refine J_callP (xGo_s3 d_Mo_mix_32 xc_Mo_71) ⟨xq_Mo_isIn.1, xq_Mo_isIn.2.1⟩ ⟨Nat.le_of_ble_eq_true rfl, Nat.le_of_ble_eq_true rfl, Nat.le_of_ble_eq_true rfl, Nat.le_of_ble_eq_true rfl⟩ (Nat.le_of_ble_eq_true rfl) n_isIn ?_
        refine J_if_ne (tgt := 42) d_Mo_mix_35 (by decide) (fun c35 => ?_) (fun c35 => ?_)
        · skip
          refine J_aload_n d_Mo_mix_42 rfl rfl ?_
          refine J_iload_n d_Mo_mix_43 rfl rfl ?_
          refine J_iload_n d_Mo_mix_44 rfl rfl ?_
          refine J_callP (xGo_v2 d_Mo_mix_45 xc_Mo_141 rfl rfl rfl) ⟨xq_Mo_has.1, xq_Mo_has.2.1⟩ ⟨Nat.le_of_ble_eq_true rfl, Nat.le_of_ble_eq_true rfl, Nat.le_of_ble_eq_true rfl, Nat.le_of_ble_eq_true rfl⟩ (Nat.le_of_ble_eq_true rfl) (n_has hG (nb_in hb hn c6)) ?_
          refine J_if_eq (tgt := 55) d_Mo_mix_48 (by decide) (fun c48 => ?_) (fun c48 => ?_)
          · skip
            refine J_iconst (v := 3) d_Mo_mix_55 (by decide) ?_
            refine J_put d_Mo_mix_56 xf_Mo_62 xt_Mo (fun _ _ _ h => by cases h; rfl) rfl rfl rfl (Nat.le_of_ble_eq_true rfl) ?_
            refine J_heap (h2 := ch sa sb lt tt lg bc gi go sh bn sc rw dy pt (mh (3) ab be lgm ltm smm bs kd mo dr wa re lom him scm ou sr gim gom shm rwm dym ptm td tw R)) rfl ?_
            refine J_aload_n d_Mo_mix_59 rfl rfl ?_
            refine J_get d_Mo_mix_60 xf_Mo_62 rfl rfl ?_
            refine J_if_le (tgt := 68) d_Mo_mix_63 (by decide) (fun q => absurd q (by decide)) (fun _ => ?_)
            refine J_iconst (v := 0) d_Mo_mix_66 (by decide) ?_
            exact J_zreturn d_Mo_mix_67 rfl rfl (by rw [xif_pos ⟨c6, c14⟩, xif_pos ⟨c23, c35⟩, xif_neg (not_not_intro c48)] <;> try rfl)
          · skip
            refine J_iconst (v := 0) d_Mo_mix_51 (by decide) ?_
            refine J_goto (tgt := 56) d_Mo_mix_52 (by decide) ?_
            refine J_put d_Mo_mix_56 xf_Mo_62 xt_Mo (fun _ _ _ h => by cases h; rfl) rfl rfl rfl (Nat.le_of_ble_eq_true rfl) ?_
            refine J_heap (h2 := ch sa sb lt tt lg bc gi go sh bn sc rw dy pt (mh (0) ab be lgm ltm smm bs kd mo dr wa re lom him scm ou sr gim gom shm rwm dym ptm td tw R)) rfl ?_
            refine J_aload_n d_Mo_mix_59 rfl rfl ?_
            refine J_get d_Mo_mix_60 xf_Mo_62 rfl rfl ?_
            refine J_if_le (tgt := 68) d_Mo_mix_63 (by decide) (fun _ => ?_) (fun q => absurd (by decide) q)
            refine J_aload_n d_Mo_mix_68 rfl rfl ?_
            refine J_iload_n d_Mo_mix_69 rfl rfl ?_
            refine J_iload_n d_Mo_mix_70 rfl rfl ?_
            refine J_callW (xGo_v2 d_Mo_mix_71 xc_Mo_144 rfl rfl rfl) ⟨xq_Mo_take.1, xq_Mo_take.2.1⟩ ⟨Nat.le_of_ble_eq_true rfl, Nat.le_of_ble_eq_true rfl, Nat.le_of_ble_eq_true rfl, Nat.le_of_ble_eq_true rfl⟩ (Nat.le_of_ble_eq_true rfl) (n_take hG (nb_in hb hn c6) (hz_of c35 c48)) ?_
            refine J_aload_n d_Mo_mix_74 rfl rfl ?_
            refine J_get d_Mo_mix_75 xf_Mo_32 rfl rfl ?_
            refine J_iload_n d_Mo_mix_78 rfl rfl ?_
            refine J_lald d_Mo_mix_79 (gt1 hG) rfl (nb_in hb hn c14) ?_
            refine J_aload_n d_Mo_mix_80 rfl rfl ?_
            refine J_get d_Mo_mix_81 xf_Mo_135 rfl rfl ?_
            refine J_ladd d_Mo_mix_84 ?_
            refine J_lstore d_Mo_mix_85 (by decide) ?_
            refine J_lload d_Mo_mix_87 rfl ?_
            refine J_ldc2_w d_Mo_mix_89 xj_Mo_75 ?_
            refine J_lmul d_Mo_mix_92 ?_
            refine J_aload_n d_Mo_mix_93 rfl rfl ?_
            refine J_iload_n d_Mo_mix_94 rfl rfl ?_
            refine J_callP (xGo_v1 d_Mo_mix_95 xc_Mo_86 rfl rfl rfl) ⟨xq_Mo_all.1, xq_Mo_all.2.1⟩ ⟨Nat.le_of_ble_eq_true rfl, Nat.le_of_ble_eq_true rfl, Nat.le_of_ble_eq_true rfl, Nat.le_of_ble_eq_true rfl⟩ (Nat.le_of_ble_eq_true rfl) (n_all hG (nb_in hb hn c14)) ?_
            refine J_ldc2_w d_Mo_mix_98 xj_Mo_75 ?_
            refine J_iload_n d_Mo_mix_101 rfl rfl ?_
            refine J_i2l d_Mo_mix_102 ?_
            refine J_lmul d_Mo_mix_103 ?_
            refine J_ladd d_Mo_mix_104 ?_
            refine J_ldiv d_Mo_mix_105 (hz2 c14 c35) ?_
            refine J_lstore d_Mo_mix_106 (by decide) ?_
            refine J_lload d_Mo_mix_108 rfl ?_
            refine J_aload_n d_Mo_mix_110 rfl rfl ?_
            refine J_get d_Mo_mix_111 xf_Mo_40 rfl rfl ?_
            refine J_iload_n d_Mo_mix_114 rfl rfl ?_
            refine J_iald d_Mo_mix_115 (gt0 hG) rfl (nb_in hb hn c14) ?_
            refine J_i2l d_Mo_mix_116 ?_
            refine J_lcmp d_Mo_mix_117 ?_
            refine J_lif_lt (tgt := 144) d_Mo_mix_118 (by decide) (fun c118 => ?_) (fun c118 => ?_)
            · skip
              refine J_iconst (v := 0) d_Mo_mix_144 (by decide) ?_
              exact J_zreturn d_Mo_mix_145 rfl rfl (by rw [xif_pos ⟨c6, c14⟩, xif_pos ⟨c23, c35⟩, xif_pos c48, xif_pos (P := (wa t.toNatClampNeg + wa n.toNatClampNeg * (1000 * k.toInt64) / s_al dr wa n) * 1000 / (s_al dr wa t + 1000 * k.toInt64) < (lom t.toNatClampNeg).toInt64) c118] <;> try rfl)
            · skip
              refine J_lload d_Mo_mix_121 rfl ?_
              refine J_aload_n d_Mo_mix_123 rfl rfl ?_
              refine J_get d_Mo_mix_124 xf_Mo_43 rfl rfl ?_
              refine J_iload_n d_Mo_mix_127 rfl rfl ?_
              refine J_iald d_Mo_mix_128 (gt0 hG) rfl (nb_in hb hn c14) ?_
              refine J_i2l d_Mo_mix_129 ?_
              refine J_lcmp d_Mo_mix_130 ?_
              refine J_lif_gt (tgt := 144) d_Mo_mix_131 (by decide) (fun c131 => ?_) (fun c131 => ?_)
              · skip
                refine J_iconst (v := 0) d_Mo_mix_144 (by decide) ?_
                exact J_zreturn d_Mo_mix_145 rfl rfl (by rw [xif_pos ⟨c6, c14⟩, xif_pos ⟨c23, c35⟩, xif_pos c48, xif_neg (P := (wa t.toNatClampNeg + wa n.toNatClampNeg * (1000 * k.toInt64) / s_al dr wa n) * 1000 / (s_al dr wa t + 1000 * k.toInt64) < (lom t.toNatClampNeg).toInt64) c118, xif_pos (P := (him t.toNatClampNeg).toInt64 < (wa t.toNatClampNeg + wa n.toNatClampNeg * (1000 * k.toInt64) / s_al dr wa n) * 1000 / (s_al dr wa t + 1000 * k.toInt64)) c131] <;> try rfl)
              · skip
                refine J_aload_n d_Mo_mix_134 rfl rfl ?_
                refine J_iload_n d_Mo_mix_135 rfl rfl ?_
                refine J_iload_n d_Mo_mix_136 rfl rfl ?_
                refine J_i2l d_Mo_mix_137 ?_
                refine J_callP (xGo_v2 d_Mo_mix_138 xc_Mo_102 rfl rfl rfl) ⟨xq_Mo_hasRoom.1, xq_Mo_hasRoom.2.1⟩ ⟨Nat.le_of_ble_eq_true rfl, Nat.le_of_ble_eq_true rfl, Nat.le_of_ble_eq_true rfl, Nat.le_of_ble_eq_true rfl⟩ (Nat.le_of_ble_eq_true rfl) (n_hasRoom hG (nb_in hb hn c14)) ?_
                refine J_if_ne (tgt := 146) d_Mo_mix_141 (by decide) (fun c141 => ?_) (fun c141 => ?_)
                · skip
                  refine J_aload_n d_Mo_mix_146 rfl rfl ?_
                  refine J_iload_n d_Mo_mix_147 rfl rfl ?_
                  refine J_callW (xGo_v1 d_Mo_mix_148 xc_Mo_148 rfl rfl rfl) ⟨xq_Mo_goes.1, xq_Mo_goes.2.1⟩ ⟨Nat.le_of_ble_eq_true rfl, Nat.le_of_ble_eq_true rfl, Nat.le_of_ble_eq_true rfl, Nat.le_of_ble_eq_true rfl⟩ (Nat.le_of_ble_eq_true rfl) (n_goes hG (nb_in hb hn c6)) ?_
                  refine J_aload_n d_Mo_mix_151 rfl rfl ?_
                  refine J_get d_Mo_mix_152 xf_Mo_32 rfl rfl ?_
                  refine J_iload_n d_Mo_mix_155 rfl rfl ?_
                  refine J_lload d_Mo_mix_156 rfl ?_
                  refine J_last d_Mo_mix_158 (gt1 hG) rfl (nb_in hb hn c14) ?_
                  refine J_aload_n d_Mo_mix_159 rfl rfl ?_
                  refine J_get d_Mo_mix_160 xf_Mo_29 rfl rfl ?_
                  refine J_iload_n d_Mo_mix_163 rfl rfl ?_
                  refine J_aload_n d_Mo_mix_164 rfl rfl ?_
                  refine J_get d_Mo_mix_165 xf_Mo_29 rfl rfl ?_
                  refine J_iload_n d_Mo_mix_168 rfl rfl ?_
                  refine J_lald d_Mo_mix_169 (gt1 hG) rfl (nb_in hb hn c14) ?_
                  refine J_aload_n d_Mo_mix_170 rfl rfl ?_
                  refine J_get d_Mo_mix_171 xf_Mo_138 rfl rfl ?_
                  refine J_ladd d_Mo_mix_174 ?_
                  refine J_last d_Mo_mix_175 (gt1 hG) rfl (nb_in hb hn c14) ?_
                  refine J_iconst (v := 1) d_Mo_mix_176 (by decide) ?_
                  exact J_zreturn d_Mo_mix_177 rfl rfl (by rw [xif_pos ⟨c6, c14⟩, xif_pos ⟨c23, c35⟩, xif_pos c48, xif_neg (P := (wa t.toNatClampNeg + wa n.toNatClampNeg * (1000 * k.toInt64) / s_al dr wa n) * 1000 / (s_al dr wa t + 1000 * k.toInt64) < (lom t.toNatClampNeg).toInt64) c118, xif_neg (P := (him t.toNatClampNeg).toInt64 < (wa t.toNatClampNeg + wa n.toNatClampNeg * (1000 * k.toInt64) / s_al dr wa n) * 1000 / (s_al dr wa t + 1000 * k.toInt64)) c131, xif_neg (P := s_mr mo dr wa t k.toInt64 = 0) c141] <;> try rfl)
                · skip
                  have c141 := Classical.not_not.mp c141
                  refine J_iconst (v := 0) d_Mo_mix_144 (by decide) ?_
                  exact J_zreturn d_Mo_mix_145 rfl rfl (by rw [xif_pos ⟨c6, c14⟩, xif_pos ⟨c23, c35⟩, xif_pos c48, xif_neg (P := (wa t.toNatClampNeg + wa n.toNatClampNeg * (1000 * k.toInt64) / s_al dr wa n) * 1000 / (s_al dr wa t + 1000 * k.toInt64) < (lom t.toNatClampNeg).toInt64) c118, xif_neg (P := (him t.toNatClampNeg).toInt64 < (wa t.toNatClampNeg + wa n.toNatClampNeg * (1000 * k.toInt64) / s_al dr wa n) * 1000 / (s_al dr wa t + 1000 * k.toInt64)) c131, xif_pos (P := s_mr mo dr wa t k.toInt64 = 0) c141] <;> try rfl)
        · skip
          have c35 := Classical.not_not.mp c35
          refine J_iconst (v := 2) d_Mo_mix_38 (by decide) ?_
          refine J_goto (tgt := 56) d_Mo_mix_39 (by decide) ?_
          refine J_put d_Mo_mix_56 xf_Mo_62 xt_Mo (fun _ _ _ h => by cases h; rfl) rfl rfl rfl (Nat.le_of_ble_eq_true rfl) ?_
          refine J_heap (h2 := ch sa sb lt tt lg bc gi go sh bn sc rw dy pt (mh (2) ab be lgm ltm smm bs kd mo dr wa re lom him scm ou sr gim gom shm rwm dym ptm td tw R)) rfl ?_
          refine J_aload_n d_Mo_mix_59 rfl rfl ?_
          refine J_get d_Mo_mix_60 xf_Mo_62 rfl rfl ?_
          refine J_if_le (tgt := 68) d_Mo_mix_63 (by decide) (fun q => absurd q (by decide)) (fun _ => ?_)
          refine J_iconst (v := 0) d_Mo_mix_66 (by decide) ?_
          exact J_zreturn d_Mo_mix_67 rfl rfl (by rw [xif_pos ⟨c6, c14⟩, xif_neg (fun q => absurd c35 q.2)] <;> try rfl)
    · skip
      refine J_iconst (v := 1) d_Mo_mix_17 (by decide) ?_
      refine J_goto (tgt := 56) d_Mo_mix_18 (by decide) ?_
      refine J_put d_Mo_mix_56 xf_Mo_62 xt_Mo (fun _ _ _ h => by cases h; rfl) rfl rfl rfl (Nat.le_of_ble_eq_true rfl) ?_
      refine J_heap (h2 := ch sa sb lt tt lg bc gi go sh bn sc rw dy pt (mh (1) ab be lgm ltm smm bs kd mo dr wa re lom him scm ou sr gim gom shm rwm dym ptm td tw R)) rfl ?_
      refine J_aload_n d_Mo_mix_59 rfl rfl ?_
      refine J_get d_Mo_mix_60 xf_Mo_62 rfl rfl ?_
      refine J_if_le (tgt := 68) d_Mo_mix_63 (by decide) (fun q => absurd q (by decide)) (fun _ => ?_)
      refine J_iconst (v := 0) d_Mo_mix_66 (by decide) ?_
      exact J_zreturn d_Mo_mix_67 rfl rfl (by rw [xif_neg (fun q => absurd q.2 c14)] <;> try rfl)
end XM4
