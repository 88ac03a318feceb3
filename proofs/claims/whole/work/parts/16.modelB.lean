section XM2
variable {G : xG} {sa sb : Int32 × Int32} {lt tt : cP} {lg bc : Int32} {gi go : Int64} {sh : Int32} {bn : Nat → cB} {sc : Nat → cS} {rw : Int32} {dy pt : Nat → Int32} {R : List va_E}
variable {th : Int32} {ab be : Nat → Int32} {lgm : Int32} {ltm smm : Nat → Int64} {bs : Int32} {kd : Nat → Int32} {mo dr wa re : Nat → Int64} {lom him scm ou sr : Nat → Int32} {gim gom shm : Int64} {rwm : Int32} {dym ptm : Nat → Int32} {td tw : Int64}
set_option maxHeartbeats 4000000 in
set_option maxRecDepth 100000 in
theorem n_pour {b k w : Int32} (hG : gTok G) {nb : Nat} (hb : bs = nI nb) (hn : nb ≤ 8) : XM G Y_Mo_pour [.ref 22, .int b, .int k, .int w] (1, ch sa sb lt tt lg bc gi go sh bn sc rw dy pt (mh th ab be lgm ltm smm bs kd mo dr wa re lom him scm ou sr gim gom shm rwm dym ptm td tw R)) (xif (s_nb bs b = 0) (xif (¬ s_ip k w = 0) (xif (s_mr mo dr wa b k.toInt64 = 0) (.inl (some (.int 0)), (0, ch sa sb lt tt lg bc gi go sh bn sc rw dy pt (mh (0) ab be lgm ltm smm bs kd mo dr wa re lom him scm ou sr gim gom shm rwm dym ptm td tw R)), 0, 0) (.inl (some (.int 1)), (0, ch sa sb lt tt lg bc gi go sh bn sc rw dy pt (mh (0) ab be lgm ltm smm bs kd mo (vp_updL dr b.toNatClampNeg (dr b.toNatClampNeg + k.toInt64 * (1000 - w).toInt64)) (vp_updL wa b.toNatClampNeg (wa b.toNatClampNeg + k.toInt64 * w.toInt64)) re lom him scm ou sr (gim + 1000 * k.toInt64) gom shm rwm dym ptm td tw R)), 0, 0)) (.inl (some (.int 0)), (0, ch sa sb lt tt lg bc gi go sh bn sc rw dy pt (mh (2) ab be lgm ltm smm bs kd mo dr wa re lom him scm ou sr gim gom shm rwm dym ptm td tw R)), 0, 0)) (.inl (some (.int 0)), (0, ch sa sb lt tt lg bc gi go sh bn sc rw dy pt (mh (1) ab be lgm ltm smm bs kd mo dr wa re lom him scm ou sr gim gom shm rwm dym ptm td tw R)), 0, 0)) := by
  refine XM_of (by decide +kernel) (Nat.le_of_ble_eq_true rfl) (Or.inl rfl) ?_
  refine J_aload_n d_Mo_pour_0 rfl rfl ?_
  refine J_aload_n d_Mo_pour_1 rfl rfl ?_
  refine J_iload_n d_Mo_pour_2 rfl rfl ?_
  refine J_callP (xGo_v1 d_Mo_pour_3 xc_Mo_94 rfl rfl rfl) ⟨xq_Mo_noBin.1, xq_Mo_noBin.2.1⟩ ⟨Nat.le_of_ble_eq_true rfl, Nat.le_of_ble_eq_true rfl, Nat.le_of_ble_eq_true rfl, Nat.le_of_ble_eq_true rfl⟩ (Nat.le_of_ble_eq_true rfl) n_noBin ?_
  refine J_if_eq (tgt := 13) d_Mo_pour_6 (by decide) (fun c6 => ?_) (fun c6 => ?_)
  · skip
    refine J_iload_n d_Mo_pour_13 rfl rfl ?_
    refine J_iload_n d_Mo_pour_14 rfl rfl ?_
    refine J_callP (xGo_s2 d_Mo_pour_15 xc_Mo_98) ⟨xq_Mo_isPoured.1, xq_Mo_isPoured.2.1⟩ ⟨Nat.le_of_ble_eq_true rfl, Nat.le_of_ble_eq_true rfl, Nat.le_of_ble_eq_true rfl, Nat.le_of_ble_eq_true rfl⟩ (Nat.le_of_ble_eq_true rfl) n_isPoured ?_
    refine J_if_eq (tgt := 25) d_Mo_pour_18 (by decide) (fun c18 => ?_) (fun c18 => ?_)
    · skip
      refine J_iconst (v := 2) d_Mo_pour_25 (by decide) ?_
      refine J_put d_Mo_pour_26 xf_Mo_62 xt_Mo (fun _ _ _ h => by cases h; rfl) rfl rfl rfl (Nat.le_of_ble_eq_true rfl) ?_
      refine J_heap (h2 := ch sa sb lt tt lg bc gi go sh bn sc rw dy pt (mh (2) ab be lgm ltm smm bs kd mo dr wa re lom him scm ou sr gim gom shm rwm dym ptm td tw R)) rfl ?_
      refine J_aload_n d_Mo_pour_29 rfl rfl ?_
      refine J_get d_Mo_pour_30 xf_Mo_62 rfl rfl ?_
      refine J_if_gt (tgt := 46) d_Mo_pour_33 (by decide) (fun _ => ?_) (fun q => absurd (by decide) q)
      refine J_iconst (v := 0) d_Mo_pour_46 (by decide) ?_
      exact J_zreturn d_Mo_pour_47 rfl rfl (by rw [xif_pos c6, xif_neg (not_not_intro c18)] <;> try rfl)
    · skip
      refine J_iconst (v := 0) d_Mo_pour_21 (by decide) ?_
      refine J_goto (tgt := 26) d_Mo_pour_22 (by decide) ?_
      refine J_put d_Mo_pour_26 xf_Mo_62 xt_Mo (fun _ _ _ h => by cases h; rfl) rfl rfl rfl (Nat.le_of_ble_eq_true rfl) ?_
      refine J_heap (h2 := ch sa sb lt tt lg bc gi go sh bn sc rw dy pt (mh (0) ab be lgm ltm smm bs kd mo dr wa re lom him scm ou sr gim gom shm rwm dym ptm td tw R)) rfl ?_
      refine J_aload_n d_Mo_pour_29 rfl rfl ?_
      refine J_get d_Mo_pour_30 xf_Mo_62 rfl rfl ?_
      refine J_if_gt (tgt := 46) d_Mo_pour_33 (by decide) (fun q => absurd q (by decide)) (fun _ => ?_)
      refine J_aload_n d_Mo_pour_36 rfl rfl ?_
      refine J_iload_n d_Mo_pour_37 rfl rfl ?_
      refine J_iload_n d_Mo_pour_38 rfl rfl ?_
      refine J_i2l d_Mo_pour_39 ?_
      refine J_callP (xGo_v2 d_Mo_pour_40 xc_Mo_102 rfl rfl rfl) ⟨xq_Mo_hasRoom.1, xq_Mo_hasRoom.2.1⟩ ⟨Nat.le_of_ble_eq_true rfl, Nat.le_of_ble_eq_true rfl, Nat.le_of_ble_eq_true rfl, Nat.le_of_ble_eq_true rfl⟩ (Nat.le_of_ble_eq_true rfl) (n_hasRoom hG (nb_in hb hn c6)) ?_
      refine J_if_ne (tgt := 48) d_Mo_pour_43 (by decide) (fun c43 => ?_) (fun c43 => ?_)
      · skip
        refine J_aload_n d_Mo_pour_48 rfl rfl ?_
        refine J_iload_n d_Mo_pour_49 rfl rfl ?_
        refine J_iload_n d_Mo_pour_50 rfl rfl ?_
        refine J_i2l d_Mo_pour_51 ?_
        refine J_iload_n d_Mo_pour_52 rfl rfl ?_
        refine J_callW (xGo_v3 d_Mo_pour_53 xc_Mo_106 rfl rfl rfl) ⟨xq_Mo_add.1, xq_Mo_add.2.1⟩ ⟨Nat.le_of_ble_eq_true rfl, Nat.le_of_ble_eq_true rfl, Nat.le_of_ble_eq_true rfl, Nat.le_of_ble_eq_true rfl⟩ (Nat.le_of_ble_eq_true rfl) (n_add hG (nb_in hb hn c6)) ?_
        refine J_iconst (v := 1) d_Mo_pour_56 (by decide) ?_
        exact J_zreturn d_Mo_pour_57 rfl rfl (by rw [xif_pos c6, xif_pos c18, xif_neg c43] <;> try rfl)
      · skip
        have c43 := Classical.not_not.mp c43
        refine J_iconst (v := 0) d_Mo_pour_46 (by decide) ?_
        exact J_zreturn d_Mo_pour_47 rfl rfl (by rw [xif_pos c6, xif_pos c18, xif_pos c43] <;> try rfl)
  · skip
    refine J_iconst (v := 1) d_Mo_pour_9 (by decide) ?_
    refine J_goto (tgt := 26) d_Mo_pour_10 (by decide) ?_
    refine J_put d_Mo_pour_26 xf_Mo_62 xt_Mo (fun _ _ _ h => by cases h; rfl) rfl rfl rfl (Nat.le_of_ble_eq_true rfl) ?_
    refine J_heap (h2 := ch sa sb lt tt lg bc gi go sh bn sc rw dy pt (mh (1) ab be lgm ltm smm bs kd mo dr wa re lom him scm ou sr gim gom shm rwm dym ptm td tw R)) rfl ?_
    refine J_aload_n d_Mo_pour_29 rfl rfl ?_
    refine J_get d_Mo_pour_30 xf_Mo_62 rfl rfl ?_
    refine J_if_gt (tgt := 46) d_Mo_pour_33 (by decide) (fun _ => ?_) (fun q => absurd (by decide) q)
    refine J_iconst (v := 0) d_Mo_pour_46 (by decide) ?_
    exact J_zreturn d_Mo_pour_47 rfl rfl (by rw [xif_neg c6] <;> try rfl)
set_option maxHeartbeats 4000000 in
set_option maxRecDepth 100000 in
theorem n_about {b q : Int32} (hG : gTok G) {nb : Nat} (hb : bs = nI nb) (hn : nb ≤ 8) : XM G Y_Mo_about [.ref 22, .int b, .int q] (1, ch sa sb lt tt lg bc gi go sh bn sc rw dy pt (mh th ab be lgm ltm smm bs kd mo dr wa re lom him scm ou sr gim gom shm rwm dym ptm td tw R)) (xif (s_nb bs b = 0 ∧ ¬ q < 0 ∧ q ≤ 5) (xif (3 ≤ q) (xif (q = 3) (.inl (some (.long (kd b.toNatClampNeg).toInt64)), (0, ch sa sb lt tt lg bc gi go sh bn sc rw dy pt (mh (0) ab be lgm ltm smm bs kd mo dr wa re lom him scm ou sr gim gom shm rwm dym ptm td tw R)), 0, 0) (xif (q = 4) (.inl (some (.long (re b.toNatClampNeg))), (0, ch sa sb lt tt lg bc gi go sh bn sc rw dy pt (mh (0) ab be lgm ltm smm bs kd mo dr wa re lom him scm ou sr gim gom shm rwm dym ptm td tw R)), 0, 0) (.inl (some (.long (s_al dr wa b))), (0, ch sa sb lt tt lg bc gi go sh bn sc rw dy pt (mh (0) ab be lgm ltm smm bs kd mo dr wa re lom him scm ou sr gim gom shm rwm dym ptm td tw R)), 0, 0))) (xif (q = 0) (.inl (some (.long (dr b.toNatClampNeg))), (0, ch sa sb lt tt lg bc gi go sh bn sc rw dy pt (mh (0) ab be lgm ltm smm bs kd mo dr wa re lom him scm ou sr gim gom shm rwm dym ptm td tw R)), 0, 0) (xif (q = 1) (.inl (some (.long (wa b.toNatClampNeg))), (0, ch sa sb lt tt lg bc gi go sh bn sc rw dy pt (mh (0) ab be lgm ltm smm bs kd mo dr wa re lom him scm ou sr gim gom shm rwm dym ptm td tw R)), 0, 0) (.inl (some (.long (mo b.toNatClampNeg))), (0, ch sa sb lt tt lg bc gi go sh bn sc rw dy pt (mh (0) ab be lgm ltm smm bs kd mo dr wa re lom him scm ou sr gim gom shm rwm dym ptm td tw R)), 0, 0)))) (.inl (some (.long 0)), (0, ch sa sb lt tt lg bc gi go sh bn sc rw dy pt (mh (1) ab be lgm ltm smm bs kd mo dr wa re lom him scm ou sr gim gom shm rwm dym ptm td tw R)), 0, 0)) := by
  refine XM_of (by decide +kernel) (Nat.le_of_ble_eq_true rfl) (Or.inl rfl) ?_
  refine J_aload_n d_Mo_about_0 rfl rfl ?_
  refine J_aload_n d_Mo_about_1 rfl rfl ?_
  refine J_iload_n d_Mo_about_2 rfl rfl ?_
  refine J_callP (xGo_v1 d_Mo_about_3 xc_Mo_94 rfl rfl rfl) ⟨xq_Mo_noBin.1, xq_Mo_noBin.2.1⟩ ⟨Nat.le_of_ble_eq_true rfl, Nat.le_of_ble_eq_true rfl, Nat.le_of_ble_eq_true rfl, Nat.le_of_ble_eq_true rfl⟩ (Nat.le_of_ble_eq_true rfl) n_noBin ?_
  refine J_if_ne (tgt := 18) d_Mo_about_6 (by decide) (fun c6 => ?_) (fun c6 => ?_)
  · skip
    refine J_iconst (v := 1) d_Mo_about_18 (by decide) ?_
    refine J_goto (tgt := 23) d_Mo_about_19 (by decide) ?_
    refine J_put d_Mo_about_23 xf_Mo_62 xt_Mo (fun _ _ _ h => by cases h; rfl) rfl rfl rfl (Nat.le_of_ble_eq_true rfl) ?_
    refine J_heap (h2 := ch sa sb lt tt lg bc gi go sh bn sc rw dy pt (mh (1) ab be lgm ltm smm bs kd mo dr wa re lom him scm ou sr gim gom shm rwm dym ptm td tw R)) rfl ?_
    refine J_aload_n d_Mo_about_26 rfl rfl ?_
    refine J_get d_Mo_about_27 xf_Mo_62 rfl rfl ?_
    refine J_if_le (tgt := 35) d_Mo_about_30 (by decide) (fun q => absurd q (by decide)) (fun _ => ?_)
    refine J_lconst (v := 0) d_Mo_about_33 (by decide) ?_
    exact J_lreturn d_Mo_about_34 rfl (by rw [xif_neg (fun q => by first | exact q.1 c6 | exact c6 q.1)] <;> try rfl)
  · skip
    have c6 := Classical.not_not.mp c6
    refine J_iload_n d_Mo_about_9 rfl rfl ?_
    refine J_if_lt (tgt := 18) d_Mo_about_10 (by decide) (fun c10 => ?_) (fun c10 => ?_)
    · skip
      refine J_iconst (v := 1) d_Mo_about_18 (by decide) ?_
      refine J_goto (tgt := 23) d_Mo_about_19 (by decide) ?_
      refine J_put d_Mo_about_23 xf_Mo_62 xt_Mo (fun _ _ _ h => by cases h; rfl) rfl rfl rfl (Nat.le_of_ble_eq_true rfl) ?_
      refine J_heap (h2 := ch sa sb lt tt lg bc gi go sh bn sc rw dy pt (mh (1) ab be lgm ltm smm bs kd mo dr wa re lom him scm ou sr gim gom shm rwm dym ptm td tw R)) rfl ?_
      refine J_aload_n d_Mo_about_26 rfl rfl ?_
      refine J_get d_Mo_about_27 xf_Mo_62 rfl rfl ?_
      refine J_if_le (tgt := 35) d_Mo_about_30 (by decide) (fun q => absurd q (by decide)) (fun _ => ?_)
      refine J_lconst (v := 0) d_Mo_about_33 (by decide) ?_
      exact J_lreturn d_Mo_about_34 rfl (by rw [xif_neg (fun q => by first | exact q.2.1 c10 | exact c10 q.2.1)] <;> try rfl)
    · skip
      refine J_iload_n d_Mo_about_13 rfl rfl ?_
      refine J_iconst (v := 5) d_Mo_about_14 (by decide) ?_
      refine J_icmp_le (tgt := 22) d_Mo_about_15 (by decide) (fun c15 => ?_) (fun c15 => ?_)
      · skip
        refine J_iconst (v := 0) d_Mo_about_22 (by decide) ?_
        refine J_put d_Mo_about_23 xf_Mo_62 xt_Mo (fun _ _ _ h => by cases h; rfl) rfl rfl rfl (Nat.le_of_ble_eq_true rfl) ?_
        refine J_heap (h2 := ch sa sb lt tt lg bc gi go sh bn sc rw dy pt (mh (0) ab be lgm ltm smm bs kd mo dr wa re lom him scm ou sr gim gom shm rwm dym ptm td tw R)) rfl ?_
        refine J_aload_n d_Mo_about_26 rfl rfl ?_
        refine J_get d_Mo_about_27 xf_Mo_62 rfl rfl ?_
        refine J_if_le (tgt := 35) d_Mo_about_30 (by decide) (fun _ => ?_) (fun q => absurd (by decide) q)
        refine J_iload_n d_Mo_about_35 rfl rfl ?_
        refine J_iconst (v := 3) d_Mo_about_36 (by decide) ?_
        refine J_icmp_ge (tgt := 74) d_Mo_about_37 (by decide) (fun c37 => ?_) (fun c37 => ?_)
        · skip
          refine J_iload_n d_Mo_about_74 rfl rfl ?_
          refine J_iconst (v := 3) d_Mo_about_75 (by decide) ?_
          refine J_icmp_ne (tgt := 89) d_Mo_about_76 (by decide) (fun c76 => ?_) (fun c76 => ?_)
          · skip
            refine J_iload_n d_Mo_about_89 rfl rfl ?_
            refine J_iconst (v := 4) d_Mo_about_90 (by decide) ?_
            refine J_icmp_ne (tgt := 103) d_Mo_about_91 (by decide) (fun c91 => ?_) (fun c91 => ?_)
            · skip
              refine J_aload_n d_Mo_about_103 rfl rfl ?_
              refine J_iload_n d_Mo_about_104 rfl rfl ?_
              refine J_callP (xGo_v1 d_Mo_about_105 xc_Mo_86 rfl rfl rfl) ⟨xq_Mo_all.1, xq_Mo_all.2.1⟩ ⟨Nat.le_of_ble_eq_true rfl, Nat.le_of_ble_eq_true rfl, Nat.le_of_ble_eq_true rfl, Nat.le_of_ble_eq_true rfl⟩ (Nat.le_of_ble_eq_true rfl) (n_all hG (nb_in hb hn c6)) ?_
              exact J_lreturn d_Mo_about_108 rfl (by rw [xif_pos ⟨c6, c10, c15⟩, xif_pos c37, xif_neg c76, xif_neg c91] <;> try rfl)
            · skip
              have c91 := Classical.not_not.mp c91
              refine J_aload_n d_Mo_about_94 rfl rfl ?_
              refine J_get d_Mo_about_95 xf_Mo_37 rfl rfl ?_
              refine J_iload_n d_Mo_about_98 rfl rfl ?_
              refine J_lald d_Mo_about_99 (gt1 hG) rfl (nb_in hb hn c6) ?_
              refine J_goto (tgt := 108) d_Mo_about_100 (by decide) ?_
              exact J_lreturn d_Mo_about_108 rfl (by rw [xif_pos ⟨c6, c10, c15⟩, xif_pos c37, xif_neg c76, xif_pos c91] <;> try rfl)
          · skip
            have c76 := Classical.not_not.mp c76
            refine J_aload_n d_Mo_about_79 rfl rfl ?_
            refine J_get d_Mo_about_80 xf_Mo_23 rfl rfl ?_
            refine J_iload_n d_Mo_about_83 rfl rfl ?_
            refine J_iald d_Mo_about_84 (gt0 hG) rfl (nb_in hb hn c6) ?_
            refine J_i2l d_Mo_about_85 ?_
            refine J_goto (tgt := 108) d_Mo_about_86 (by decide) ?_
            exact J_lreturn d_Mo_about_108 rfl (by rw [xif_pos ⟨c6, c10, c15⟩, xif_pos c37, xif_pos c76] <;> try rfl)
        · skip
          refine J_iload_n d_Mo_about_40 rfl rfl ?_
          refine J_if_ne (tgt := 53) d_Mo_about_41 (by decide) (fun c41 => ?_) (fun c41 => ?_)
          · skip
            refine J_iload_n d_Mo_about_53 rfl rfl ?_
            refine J_iconst (v := 1) d_Mo_about_54 (by decide) ?_
            refine J_icmp_ne (tgt := 67) d_Mo_about_55 (by decide) (fun c55 => ?_) (fun c55 => ?_)
            · skip
              refine J_aload_n d_Mo_about_67 rfl rfl ?_
              refine J_get d_Mo_about_68 xf_Mo_26 rfl rfl ?_
              refine J_iload_n d_Mo_about_71 rfl rfl ?_
              refine J_lald d_Mo_about_72 (gt1 hG) rfl (nb_in hb hn c6) ?_
              exact J_lreturn d_Mo_about_73 rfl (by rw [xif_pos ⟨c6, c10, c15⟩, xif_neg c37, xif_neg c41, xif_neg c55] <;> try rfl)
            · skip
              have c55 := Classical.not_not.mp c55
              refine J_aload_n d_Mo_about_58 rfl rfl ?_
              refine J_get d_Mo_about_59 xf_Mo_32 rfl rfl ?_
              refine J_iload_n d_Mo_about_62 rfl rfl ?_
              refine J_lald d_Mo_about_63 (gt1 hG) rfl (nb_in hb hn c6) ?_
              refine J_goto (tgt := 73) d_Mo_about_64 (by decide) ?_
              exact J_lreturn d_Mo_about_73 rfl (by rw [xif_pos ⟨c6, c10, c15⟩, xif_neg c37, xif_neg c41, xif_pos c55] <;> try rfl)
          · skip
            have c41 := Classical.not_not.mp c41
            refine J_aload_n d_Mo_about_44 rfl rfl ?_
            refine J_get d_Mo_about_45 xf_Mo_29 rfl rfl ?_
            refine J_iload_n d_Mo_about_48 rfl rfl ?_
            refine J_lald d_Mo_about_49 (gt1 hG) rfl (nb_in hb hn c6) ?_
            refine J_goto (tgt := 73) d_Mo_about_50 (by decide) ?_
            exact J_lreturn d_Mo_about_73 rfl (by rw [xif_pos ⟨c6, c10, c15⟩, xif_neg c37, xif_pos c41] <;> try rfl)
      · skip
        refine J_iconst (v := 1) d_Mo_about_18 (by decide) ?_
        refine J_goto (tgt := 23) d_Mo_about_19 (by decide) ?_
        refine J_put d_Mo_about_23 xf_Mo_62 xt_Mo (fun _ _ _ h => by cases h; rfl) rfl rfl rfl (Nat.le_of_ble_eq_true rfl) ?_
        refine J_heap (h2 := ch sa sb lt tt lg bc gi go sh bn sc rw dy pt (mh (1) ab be lgm ltm smm bs kd mo dr wa re lom him scm ou sr gim gom shm rwm dym ptm td tw R)) rfl ?_
        refine J_aload_n d_Mo_about_26 rfl rfl ?_
        refine J_get d_Mo_about_27 xf_Mo_62 rfl rfl ?_
        refine J_if_le (tgt := 35) d_Mo_about_30 (by decide) (fun q => absurd q (by decide)) (fun _ => ?_)
        refine J_lconst (v := 0) d_Mo_about_33 (by decide) ?_
        exact J_lreturn d_Mo_about_34 rfl (by rw [xif_neg (fun q => by first | exact q.2.2 c15 | exact c15 q.2.2)] <;> try rfl)
set_option maxHeartbeats 4000000 in
set_option maxRecDepth 100000 in
theorem n_scale {b : Int32} {g : Int64} (hG : gTok G) {nb : Nat} (hb : bs = nI nb) (hn : nb ≤ 8) : XM G Y_Mo_scale [.ref 22, .int b, .long g] (1, ch sa sb lt tt lg bc gi go sh bn sc rw dy pt (mh th ab be lgm ltm smm bs kd mo dr wa re lom him scm ou sr gim gom shm rwm dym ptm td tw R)) (xif (s_nb bs b = 0) (xif (¬ s_in g 0 1000000000000 = 0) (.inl (none), (0, ch sa sb lt tt lg bc gi go sh bn sc rw dy pt (mh (0) ab be lgm ltm smm bs kd mo dr wa (vp_updL re b.toNatClampNeg g) lom him scm ou sr gim gom shm rwm dym ptm td tw R)), 0, 0) (.inl (none), (0, ch sa sb lt tt lg bc gi go sh bn sc rw dy pt (mh (2) ab be lgm ltm smm bs kd mo dr wa re lom him scm ou sr gim gom shm rwm dym ptm td tw R)), 0, 0)) (.inl (none), (0, ch sa sb lt tt lg bc gi go sh bn sc rw dy pt (mh (1) ab be lgm ltm smm bs kd mo dr wa re lom him scm ou sr gim gom shm rwm dym ptm td tw R)), 0, 0)) := by
  refine XM_of (by decide +kernel) (Nat.le_of_ble_eq_true rfl) (Or.inl rfl) ?_
  refine J_aload_n d_Mo_scale_0 rfl rfl ?_
  refine J_aload_n d_Mo_scale_1 rfl rfl ?_
  refine J_iload_n d_Mo_scale_2 rfl rfl ?_
  refine J_callP (xGo_v1 d_Mo_scale_3 xc_Mo_94 rfl rfl rfl) ⟨xq_Mo_noBin.1, xq_Mo_noBin.2.1⟩ ⟨Nat.le_of_ble_eq_true rfl, Nat.le_of_ble_eq_true rfl, Nat.le_of_ble_eq_true rfl, Nat.le_of_ble_eq_true rfl⟩ (Nat.le_of_ble_eq_true rfl) n_noBin ?_
  refine J_if_eq (tgt := 13) d_Mo_scale_6 (by decide) (fun c6 => ?_) (fun c6 => ?_)
  · skip
    refine J_lload_n d_Mo_scale_13 rfl rfl ?_
    refine J_lconst (v := 0) d_Mo_scale_14 (by decide) ?_
    refine J_ldc2_w d_Mo_scale_15 xj_Mo_120 ?_
    refine J_callP (xGo_s3 d_Mo_scale_18 xc_Mo_71) ⟨xq_Mo_isIn.1, xq_Mo_isIn.2.1⟩ ⟨Nat.le_of_ble_eq_true rfl, Nat.le_of_ble_eq_true rfl, Nat.le_of_ble_eq_true rfl, Nat.le_of_ble_eq_true rfl⟩ (Nat.le_of_ble_eq_true rfl) n_isIn ?_
    refine J_if_eq (tgt := 28) d_Mo_scale_21 (by decide) (fun c21 => ?_) (fun c21 => ?_)
    · skip
      refine J_iconst (v := 2) d_Mo_scale_28 (by decide) ?_
      refine J_put d_Mo_scale_29 xf_Mo_62 xt_Mo (fun _ _ _ h => by cases h; rfl) rfl rfl rfl (Nat.le_of_ble_eq_true rfl) ?_
      refine J_heap (h2 := ch sa sb lt tt lg bc gi go sh bn sc rw dy pt (mh (2) ab be lgm ltm smm bs kd mo dr wa re lom him scm ou sr gim gom shm rwm dym ptm td tw R)) rfl ?_
      refine J_aload_n d_Mo_scale_32 rfl rfl ?_
      refine J_get d_Mo_scale_33 xf_Mo_62 rfl rfl ?_
      refine J_if_ne (tgt := 46) d_Mo_scale_36 (by decide) (fun _ => ?_) (fun q => absurd (by decide) q)
      exact J_return d_Mo_scale_46 rfl (by rw [xif_pos c6, xif_neg (not_not_intro c21)] <;> try rfl)
    · skip
      refine J_iconst (v := 0) d_Mo_scale_24 (by decide) ?_
      refine J_goto (tgt := 29) d_Mo_scale_25 (by decide) ?_
      refine J_put d_Mo_scale_29 xf_Mo_62 xt_Mo (fun _ _ _ h => by cases h; rfl) rfl rfl rfl (Nat.le_of_ble_eq_true rfl) ?_
      refine J_heap (h2 := ch sa sb lt tt lg bc gi go sh bn sc rw dy pt (mh (0) ab be lgm ltm smm bs kd mo dr wa re lom him scm ou sr gim gom shm rwm dym ptm td tw R)) rfl ?_
      refine J_aload_n d_Mo_scale_32 rfl rfl ?_
      refine J_get d_Mo_scale_33 xf_Mo_62 rfl rfl ?_
      refine J_if_ne (tgt := 46) d_Mo_scale_36 (by decide) (fun q => absurd q (by decide)) (fun _ => ?_)
      refine J_aload_n d_Mo_scale_39 rfl rfl ?_
      refine J_get d_Mo_scale_40 xf_Mo_37 rfl rfl ?_
      refine J_iload_n d_Mo_scale_43 rfl rfl ?_
      refine J_lload_n d_Mo_scale_44 rfl rfl ?_
      refine J_last d_Mo_scale_45 (gt1 hG) rfl (nb_in hb hn c6) ?_
      exact J_return d_Mo_scale_46 rfl (by rw [xif_pos c6, xif_pos c21] <;> try rfl)
  · skip
    refine J_iconst (v := 1) d_Mo_scale_9 (by decide) ?_
    refine J_goto (tgt := 29) d_Mo_scale_10 (by decide) ?_
    refine J_put d_Mo_scale_29 xf_Mo_62 xt_Mo (fun _ _ _ h => by cases h; rfl) rfl rfl rfl (Nat.le_of_ble_eq_true rfl) ?_
    refine J_heap (h2 := ch sa sb lt tt lg bc gi go sh bn sc rw dy pt (mh (1) ab be lgm ltm smm bs kd mo dr wa re lom him scm ou sr gim gom shm rwm dym ptm td tw R)) rfl ?_
    refine J_aload_n d_Mo_scale_32 rfl rfl ?_
    refine J_get d_Mo_scale_33 xf_Mo_62 rfl rfl ?_
    refine J_if_ne (tgt := 46) d_Mo_scale_36 (by decide) (fun _ => ?_) (fun q => absurd (by decide) q)
    exact J_return d_Mo_scale_46 rfl (by rw [xif_neg c6] <;> try rfl)
set_option maxHeartbeats 4000000 in
set_option maxRecDepth 100000 in
theorem n_span {b lo2 hi2 : Int32} (hG : gTok G) {nb : Nat} (hb : bs = nI nb) (hn : nb ≤ 8) : XM G Y_Mo_span [.ref 22, .int b, .int lo2, .int hi2] (1, ch sa sb lt tt lg bc gi go sh bn sc rw dy pt (mh th ab be lgm ltm smm bs kd mo dr wa re lom him scm ou sr gim gom shm rwm dym ptm td tw R)) (xif (s_nb bs b = 0) (xif (¬ lo2 < 0 ∧ ¬ s_in hi2.toInt64 lo2.toInt64 1000 = 0) (.inl (none), (0, ch sa sb lt tt lg bc gi go sh bn sc rw dy pt (mh (0) ab be lgm ltm smm bs kd mo dr wa re (upd lom b.toNatClampNeg lo2) (upd him b.toNatClampNeg hi2) scm ou sr gim gom shm rwm dym ptm td tw R)), 0, 0) (.inl (none), (0, ch sa sb lt tt lg bc gi go sh bn sc rw dy pt (mh (2) ab be lgm ltm smm bs kd mo dr wa re lom him scm ou sr gim gom shm rwm dym ptm td tw R)), 0, 0)) (.inl (none), (0, ch sa sb lt tt lg bc gi go sh bn sc rw dy pt (mh (1) ab be lgm ltm smm bs kd mo dr wa re lom him scm ou sr gim gom shm rwm dym ptm td tw R)), 0, 0)) := by
  refine XM_of (by decide +kernel) (Nat.le_of_ble_eq_true rfl) (Or.inl rfl) ?_
  refine J_aload_n d_Mo_span_0 rfl rfl ?_
  refine J_aload_n d_Mo_span_1 rfl rfl ?_
  refine J_iload_n d_Mo_span_2 rfl rfl ?_
  refine J_callP (xGo_v1 d_Mo_span_3 xc_Mo_94 rfl rfl rfl) ⟨xq_Mo_noBin.1, xq_Mo_noBin.2.1⟩ ⟨Nat.le_of_ble_eq_true rfl, Nat.le_of_ble_eq_true rfl, Nat.le_of_ble_eq_true rfl, Nat.le_of_ble_eq_true rfl⟩ (Nat.le_of_ble_eq_true rfl) n_noBin ?_
  refine J_if_eq (tgt := 13) d_Mo_span_6 (by decide) (fun c6 => ?_) (fun c6 => ?_)
  · skip
    refine J_iload_n d_Mo_span_13 rfl rfl ?_
    refine J_if_lt (tgt := 34) d_Mo_span_14 (by decide) (fun c14 => ?_) (fun c14 => ?_)
    · skip
      refine J_iconst (v := 2) d_Mo_span_34 (by decide) ?_
      refine J_put d_Mo_span_35 xf_Mo_62 xt_Mo (fun _ _ _ h => by cases h; rfl) rfl rfl rfl (Nat.le_of_ble_eq_true rfl) ?_
      refine J_heap (h2 := ch sa sb lt tt lg bc gi go sh bn sc rw dy pt (mh (2) ab be lgm ltm smm bs kd mo dr wa re lom him scm ou sr gim gom shm rwm dym ptm td tw R)) rfl ?_
      refine J_aload_n d_Mo_span_38 rfl rfl ?_
      refine J_get d_Mo_span_39 xf_Mo_62 rfl rfl ?_
      refine J_if_ne (tgt := 59) d_Mo_span_42 (by decide) (fun _ => ?_) (fun q => absurd (by decide) q)
      exact J_return d_Mo_span_59 rfl (by rw [xif_pos c6, xif_neg (fun q => by first | exact q.1 c14 | exact c14 q.1)] <;> try rfl)
    · skip
      refine J_iload_n d_Mo_span_17 rfl rfl ?_
      refine J_i2l d_Mo_span_18 ?_
      refine J_iload_n d_Mo_span_19 rfl rfl ?_
      refine J_i2l d_Mo_span_20 ?_
      refine J_ldc2_w d_Mo_span_21 xj_Mo_75 ?_
      refine J_callP (xGo_s3 d_Mo_span_24 xc_Mo_71) ⟨xq_Mo_isIn.1, xq_Mo_isIn.2.1⟩ ⟨Nat.le_of_ble_eq_true rfl, Nat.le_of_ble_eq_true rfl, Nat.le_of_ble_eq_true rfl, Nat.le_of_ble_eq_true rfl⟩ (Nat.le_of_ble_eq_true rfl) n_isIn ?_
      refine J_if_eq (tgt := 34) d_Mo_span_27 (by decide) (fun c27 => ?_) (fun c27 => ?_)
      · skip
        refine J_iconst (v := 2) d_Mo_span_34 (by decide) ?_
        refine J_put d_Mo_span_35 xf_Mo_62 xt_Mo (fun _ _ _ h => by cases h; rfl) rfl rfl rfl (Nat.le_of_ble_eq_true rfl) ?_
        refine J_heap (h2 := ch sa sb lt tt lg bc gi go sh bn sc rw dy pt (mh (2) ab be lgm ltm smm bs kd mo dr wa re lom him scm ou sr gim gom shm rwm dym ptm td tw R)) rfl ?_
        refine J_aload_n d_Mo_span_38 rfl rfl ?_
        refine J_get d_Mo_span_39 xf_Mo_62 rfl rfl ?_
        refine J_if_ne (tgt := 59) d_Mo_span_42 (by decide) (fun _ => ?_) (fun q => absurd (by decide) q)
        exact J_return d_Mo_span_59 rfl (by rw [xif_pos c6, xif_neg (fun q => by first | exact q.2 c27 | exact c27 q.2)] <;> try rfl)
      · skip
        refine J_iconst (v := 0) d_Mo_span_30 (by decide) ?_
        refine J_goto (tgt := 35) d_Mo_span_31 (by decide) ?_
        refine J_put d_Mo_span_35 xf_Mo_62 xt_Mo (fun _ _ _ h => by cases h; rfl) rfl rfl rfl (Nat.le_of_ble_eq_true rfl) ?_
        refine J_heap (h2 := ch sa sb lt tt lg bc gi go sh bn sc rw dy pt (mh (0) ab be lgm ltm smm bs kd mo dr wa re lom him scm ou sr gim gom shm rwm dym ptm td tw R)) rfl ?_
        refine J_aload_n d_Mo_span_38 rfl rfl ?_
        refine J_get d_Mo_span_39 xf_Mo_62 rfl rfl ?_
        refine J_if_ne (tgt := 59) d_Mo_span_42 (by decide) (fun q => absurd q (by decide)) (fun _ => ?_)
        refine J_aload_n d_Mo_span_45 rfl rfl ?_
        refine J_get d_Mo_span_46 xf_Mo_40 rfl rfl ?_
        refine J_iload_n d_Mo_span_49 rfl rfl ?_
        refine J_iload_n d_Mo_span_50 rfl rfl ?_
        refine J_iast d_Mo_span_51 (gt0 hG) rfl (nb_in hb hn c6) ?_
        refine J_aload_n d_Mo_span_52 rfl rfl ?_
        refine J_get d_Mo_span_53 xf_Mo_43 rfl rfl ?_
        refine J_iload_n d_Mo_span_56 rfl rfl ?_
        refine J_iload_n d_Mo_span_57 rfl rfl ?_
        refine J_iast d_Mo_span_58 (gt0 hG) rfl (nb_in hb hn c6) ?_
        exact J_return d_Mo_span_59 rfl (by rw [xif_pos c6, xif_pos ⟨c14, c27⟩] <;> try rfl)
  · skip
    refine J_iconst (v := 1) d_Mo_span_9 (by decide) ?_
    refine J_goto (tgt := 35) d_Mo_span_10 (by decide) ?_
    refine J_put d_Mo_span_35 xf_Mo_62 xt_Mo (fun _ _ _ h => by cases h; rfl) rfl rfl rfl (Nat.le_of_ble_eq_true rfl) ?_
    refine J_heap (h2 := ch sa sb lt tt lg bc gi go sh bn sc rw dy pt (mh (1) ab be lgm ltm smm bs kd mo dr wa re lom him scm ou sr gim gom shm rwm dym ptm td tw R)) rfl ?_
    refine J_aload_n d_Mo_span_38 rfl rfl ?_
    refine J_get d_Mo_span_39 xf_Mo_62 rfl rfl ?_
    refine J_if_ne (tgt := 59) d_Mo_span_42 (by decide) (fun _ => ?_) (fun q => absurd (by decide) q)
    exact J_return d_Mo_span_59 rfl (by rw [xif_neg c6] <;> try rfl)
set_option maxHeartbeats 4000000 in
set_option maxRecDepth 100000 in
theorem n_begin (hG : gTok G) : XM G Y_Mo_begin [.ref 22] (1, ch sa sb lt tt lg bc gi go sh bn sc rw dy pt (mh th ab be lgm ltm smm bs kd mo dr wa re lom him scm ou sr gim gom shm rwm dym ptm td tw R)) (.inl (none), (0, ch sa sb lt tt lg bc gi go sh bn sc rw dy pt (mh (0) ab be lgm ltm smm bs kd mo dr wa (vp_updL (vp_updL (vp_updL (vp_updL (vp_updL (vp_updL (vp_updL (vp_updL re 0 (-1)) 1 (-1)) 2 (-1)) 3 (-1)) 4 (-1)) 5 (-1)) 6 (-1)) 7 (-1)) lom him scm ou sr (0) (0) (shm + 1) rwm dym ptm td tw R)), 0, 0) := by
  refine XM_of (by decide +kernel) (Nat.le_of_ble_eq_true rfl) (Or.inl rfl) ?_
  refine J_aload_n d_Mo_begin_0 rfl rfl ?_
  refine J_iconst (v := 0) d_Mo_begin_1 (by decide) ?_
  refine J_put d_Mo_begin_2 xf_Mo_62 xt_Mo (fun _ _ _ h => by cases h; rfl) rfl rfl rfl (Nat.le_of_ble_eq_true rfl) ?_
  refine J_aload_n d_Mo_begin_5 rfl rfl ?_
  refine J_lconst (v := 0) d_Mo_begin_6 (by decide) ?_
  refine J_put d_Mo_begin_7 xf_Mo_90 xt_Mo (fun _ _ _ h => by cases h; rfl) rfl rfl rfl (Nat.le_of_ble_eq_true rfl) ?_
  refine J_aload_n d_Mo_begin_10 rfl rfl ?_
  refine J_lconst (v := 0) d_Mo_begin_11 (by decide) ?_
  refine J_put d_Mo_begin_12 xf_Mo_122 xt_Mo (fun _ _ _ h => by cases h; rfl) rfl rfl rfl (Nat.le_of_ble_eq_true rfl) ?_
  refine J_aload_n d_Mo_begin_15 rfl rfl ?_
  refine J_dup d_Mo_begin_16 ?_
  refine J_get d_Mo_begin_17 xf_Mo_125 rfl rfl ?_
  refine J_lconst (v := 1) d_Mo_begin_20 (by decide) ?_
  refine J_ladd d_Mo_begin_21 ?_
  refine J_put d_Mo_begin_22 xf_Mo_125 xt_Mo (fun _ _ _ h => by cases h; rfl) rfl rfl rfl (Nat.le_of_ble_eq_true rfl) ?_
  refine J_iconst (v := 0) d_Mo_begin_25 (by decide) ?_
  refine J_istore_n d_Mo_begin_26 rfl (by decide) ?_
  refine J_iload_n d_Mo_begin_27 rfl rfl ?_
  refine J_bipush (v := 8) d_Mo_begin_28 (by decide) ?_
  refine J_icmp_ge (tgt := 48) d_Mo_begin_30 (by decide) (fun q => absurd q (by decide)) (fun _ => ?_)
  refine J_aload_n d_Mo_begin_33 rfl rfl ?_
  refine J_get d_Mo_begin_34 xf_Mo_37 rfl rfl ?_
  refine J_iload_n d_Mo_begin_37 rfl rfl ?_
  refine J_ldc2_w d_Mo_begin_38 xj_Mo_35 ?_
  refine J_last d_Mo_begin_41 (gt1 hG) rfl (vp_in_nI (n := 0) (by decide) (by decide)) ?_
  refine J_iinc (v := 1) d_Mo_begin_42 rfl (by decide) (by decide) ?_
  refine J_goto (tgt := 27) d_Mo_begin_45 (by decide) ?_
  refine J_iload_n d_Mo_begin_27 rfl rfl ?_
  refine J_bipush (v := 8) d_Mo_begin_28 (by decide) ?_
  refine J_icmp_ge (tgt := 48) d_Mo_begin_30 (by decide) (fun q => absurd q (by decide)) (fun _ => ?_)
  refine J_aload_n d_Mo_begin_33 rfl rfl ?_
  refine J_get d_Mo_begin_34 xf_Mo_37 rfl rfl ?_
  refine J_iload_n d_Mo_begin_37 rfl rfl ?_
  refine J_ldc2_w d_Mo_begin_38 xj_Mo_35 ?_
  refine J_last d_Mo_begin_41 (gt1 hG) rfl (vp_in_nI (n := 1) (by decide) (by decide)) ?_
  refine J_iinc (v := 2) d_Mo_begin_42 rfl (by decide) (by decide) ?_
  refine J_goto (tgt := 27) d_Mo_begin_45 (by decide) ?_
  refine J_iload_n d_Mo_begin_27 rfl rfl ?_
  refine J_bipush (v := 8) d_Mo_begin_28 (by decide) ?_
  refine J_icmp_ge (tgt := 48) d_Mo_begin_30 (by decide) (fun q => absurd q (by decide)) (fun _ => ?_)
  refine J_aload_n d_Mo_begin_33 rfl rfl ?_
  refine J_get d_Mo_begin_34 xf_Mo_37 rfl rfl ?_
  refine J_iload_n d_Mo_begin_37 rfl rfl ?_
  refine J_ldc2_w d_Mo_begin_38 xj_Mo_35 ?_
  refine J_last d_Mo_begin_41 (gt1 hG) rfl (vp_in_nI (n := 2) (by decide) (by decide)) ?_
  refine J_iinc (v := 3) d_Mo_begin_42 rfl (by decide) (by decide) ?_
  refine J_goto (tgt := 27) d_Mo_begin_45 (by decide) ?_
  refine J_iload_n d_Mo_begin_27 rfl rfl ?_
  refine J_bipush (v := 8) d_Mo_begin_28 (by decide) ?_
  refine J_icmp_ge (tgt := 48) d_Mo_begin_30 (by decide) (fun q => absurd q (by decide)) (fun _ => ?_)
  refine J_aload_n d_Mo_begin_33 rfl rfl ?_
  refine J_get d_Mo_begin_34 xf_Mo_37 rfl rfl ?_
  refine J_iload_n d_Mo_begin_37 rfl rfl ?_
  refine J_ldc2_w d_Mo_begin_38 xj_Mo_35 ?_
  refine J_last d_Mo_begin_41 (gt1 hG) rfl (vp_in_nI (n := 3) (by decide) (by decide)) ?_
  refine J_iinc (v := 4) d_Mo_begin_42 rfl (by decide) (by decide) ?_
  refine J_goto (tgt := 27) d_Mo_begin_45 (by decide) ?_
  refine J_iload_n d_Mo_begin_27 rfl rfl ?_
  refine J_bipush (v := 8) d_Mo_begin_28 (by decide) ?_
  refine J_icmp_ge (tgt := 48) d_Mo_begin_30 (by decide) (fun q => absurd q (by decide)) (fun _ => ?_)
  refine J_aload_n d_Mo_begin_33 rfl rfl ?_
  refine J_get d_Mo_begin_34 xf_Mo_37 rfl rfl ?_
  refine J_iload_n d_Mo_begin_37 rfl rfl ?_
  refine J_ldc2_w d_Mo_begin_38 xj_Mo_35 ?_
  refine J_last d_Mo_begin_41 (gt1 hG) rfl (vp_in_nI (n := 4) (by decide) (by decide)) ?_
  refine J_iinc (v := 5) d_Mo_begin_42 rfl (by decide) (by decide) ?_
  refine J_goto (tgt := 27) d_Mo_begin_45 (by decide) ?_
  refine J_iload_n d_Mo_begin_27 rfl rfl ?_
  refine J_bipush (v := 8) d_Mo_begin_28 (by decide) ?_
  refine J_icmp_ge (tgt := 48) d_Mo_begin_30 (by decide) (fun q => absurd q (by decide)) (fun _ => ?_)
  refine J_aload_n d_Mo_begin_33 rfl rfl ?_
  refine J_get d_Mo_begin_34 xf_Mo_37 rfl rfl ?_
  refine J_iload_n d_Mo_begin_37 rfl rfl ?_
  refine J_ldc2_w d_Mo_begin_38 xj_Mo_35 ?_
  refine J_last d_Mo_begin_41 (gt1 hG) rfl (vp_in_nI (n := 5) (by decide) (by decide)) ?_
  refine J_iinc (v := 6) d_Mo_begin_42 rfl (by decide) (by decide) ?_
  refine J_goto (tgt := 27) d_Mo_begin_45 (by decide) ?_
  refine J_iload_n d_Mo_begin_27 rfl rfl ?_
  refine J_bipush (v := 8) d_Mo_begin_28 (by decide) ?_
  refine J_icmp_ge (tgt := 48) d_Mo_begin_30 (by decide) (fun q => absurd q (by decide)) (fun _ => ?_)
  refine J_aload_n d_Mo_begin_33 rfl rfl ?_
  refine J_get d_Mo_begin_34 xf_Mo_37 rfl rfl ?_
  refine J_iload_n d_Mo_begin_37 rfl rfl ?_
  refine J_ldc2_w d_Mo_begin_38 xj_Mo_35 ?_
  refine J_last d_Mo_begin_41 (gt1 hG) rfl (vp_in_nI (n := 6) (by decide) (by decide)) ?_
  refine J_iinc (v := 7) d_Mo_begin_42 rfl (by decide) (by decide) ?_
  refine J_goto (tgt := 27) d_Mo_begin_45 (by decide) ?_
  refine J_iload_n d_Mo_begin_27 rfl rfl ?_
  refine J_bipush (v := 8) d_Mo_begin_28 (by decide) ?_
  refine J_icmp_ge (tgt := 48) d_Mo_begin_30 (by decide) (fun q => absurd q (by decide)) (fun _ => ?_)
  refine J_aload_n d_Mo_begin_33 rfl rfl ?_
  refine J_get d_Mo_begin_34 xf_Mo_37 rfl rfl ?_
  refine J_iload_n d_Mo_begin_37 rfl rfl ?_
  refine J_ldc2_w d_Mo_begin_38 xj_Mo_35 ?_
  refine J_last d_Mo_begin_41 (gt1 hG) rfl (vp_in_nI (n := 7) (by decide) (by decide)) ?_
  refine J_iinc (v := 8) d_Mo_begin_42 rfl (by decide) (by decide) ?_
  refine J_goto (tgt := 27) d_Mo_begin_45 (by decide) ?_
  refine J_iload_n d_Mo_begin_27 rfl rfl ?_
  refine J_bipush (v := 8) d_Mo_begin_28 (by decide) ?_
  refine J_icmp_ge (tgt := 48) d_Mo_begin_30 (by decide) (fun _ => ?_) (fun q => absurd (by decide) q)
  exact J_return d_Mo_begin_48 rfl rfl
theorem ibr {r : Int32} {nr : Nat} (hr : r = nI nr) (hn : nr ≤ 8) (h : ¬ r = 0) : vp_in (r - 1) 8 := by
  subst hr
  cases nr with
  | zero => exact absurd rfl h
  | succ j => rw [nI_pred]; exact vp_in_nI (by omega) (by decide)
theorem ibq {r : Int32} {nr : Nat} (hr : r = nI nr) (hn : nr ≤ 8) (h : ¬ r = 8) : vp_in r 8 := by
  subst hr
  exact vp_in_nI (nb_ne hn h) (by decide)
set_option maxHeartbeats 4000000 in
set_option maxRecDepth 100000 in
theorem n_row {d q : Int32} {nr : Nat} (hG : gTok G) (hr : rwm = nI nr) (hn : nr ≤ 8) : XM G Y_Mo_row [.ref 22, .int d, .int q] (1, ch sa sb lt tt lg bc gi go sh bn sc rw dy pt (mh th ab be lgm ltm smm bs kd mo dr wa re lom him scm ou sr gim gom shm rwm dym ptm td tw R)) (xif (¬ s_in d.toInt64 0 364 = 0) (xif (rwm = 0) (xif (¬ s_in q.toInt64 0 200 = 0) (xif (¬ rwm = 8) (.inl (some (.int (rwm + 1))), (0, ch sa sb lt tt lg bc gi go sh bn sc rw dy pt (mh (0) ab be lgm ltm smm bs kd mo dr wa re lom him scm ou sr gim gom shm (rwm + 1) (upd dym rwm.toNatClampNeg d) (upd ptm rwm.toNatClampNeg q) td tw R)), 0, 0) (.inl (some (.int 0)), (0, ch sa sb lt tt lg bc gi go sh bn sc rw dy pt (mh (2) ab be lgm ltm smm bs kd mo dr wa re lom him scm ou sr gim gom shm rwm dym ptm td tw R)), 0, 0)) (.inl (some (.int 0)), (0, ch sa sb lt tt lg bc gi go sh bn sc rw dy pt (mh (1) ab be lgm ltm smm bs kd mo dr wa re lom him scm ou sr gim gom shm rwm dym ptm td tw R)), 0, 0)) (xif (¬ d ≤ dym (rwm - 1).toNatClampNeg) (xif (¬ s_in q.toInt64 0 200 = 0) (xif (¬ rwm = 8) (.inl (some (.int (rwm + 1))), (0, ch sa sb lt tt lg bc gi go sh bn sc rw dy pt (mh (0) ab be lgm ltm smm bs kd mo dr wa re lom him scm ou sr gim gom shm (rwm + 1) (upd dym rwm.toNatClampNeg d) (upd ptm rwm.toNatClampNeg q) td tw R)), 0, 0) (.inl (some (.int 0)), (0, ch sa sb lt tt lg bc gi go sh bn sc rw dy pt (mh (2) ab be lgm ltm smm bs kd mo dr wa re lom him scm ou sr gim gom shm rwm dym ptm td tw R)), 0, 0)) (.inl (some (.int 0)), (0, ch sa sb lt tt lg bc gi go sh bn sc rw dy pt (mh (1) ab be lgm ltm smm bs kd mo dr wa re lom him scm ou sr gim gom shm rwm dym ptm td tw R)), 0, 0)) (.inl (some (.int 0)), (0, ch sa sb lt tt lg bc gi go sh bn sc rw dy pt (mh (1) ab be lgm ltm smm bs kd mo dr wa re lom him scm ou sr gim gom shm rwm dym ptm td tw R)), 0, 0))) (.inl (some (.int 0)), (0, ch sa sb lt tt lg bc gi go sh bn sc rw dy pt (mh (1) ab be lgm ltm smm bs kd mo dr wa re lom him scm ou sr gim gom shm rwm dym ptm td tw R)), 0, 0)) := by
  refine XM_of (by decide +kernel) (Nat.le_of_ble_eq_true rfl) (Or.inl rfl) ?_
  refine J_iload_n d_Mo_row_0 rfl rfl ?_
  refine J_i2l d_Mo_row_1 ?_
  refine J_lconst (v := 0) d_Mo_row_2 (by decide) ?_
  refine J_ldc2_w d_Mo_row_3 xj_Mo_128 ?_
  refine J_callP (xGo_s3 d_Mo_row_6 xc_Mo_71) ⟨xq_Mo_isIn.1, xq_Mo_isIn.2.1⟩ ⟨Nat.le_of_ble_eq_true rfl, Nat.le_of_ble_eq_true rfl, Nat.le_of_ble_eq_true rfl, Nat.le_of_ble_eq_true rfl⟩ (Nat.le_of_ble_eq_true rfl) n_isIn ?_
  refine J_if_eq (tgt := 50) d_Mo_row_9 (by decide) (fun c9 => ?_) (fun c9 => ?_)
  · skip
    refine J_iconst (v := 0) d_Mo_row_50 (by decide) ?_
    refine J_istore_n d_Mo_row_51 rfl (by decide) ?_
    refine J_aload_n d_Mo_row_52 rfl rfl ?_
    refine J_iload_n d_Mo_row_53 rfl rfl ?_
    refine J_if_ne (tgt := 61) d_Mo_row_54 (by decide) (fun q => absurd q (by decide)) (fun _ => ?_)
    refine J_iconst (v := 1) d_Mo_row_57 (by decide) ?_
    refine J_goto (tgt := 75) d_Mo_row_58 (by decide) ?_
    refine J_put d_Mo_row_75 xf_Mo_62 xt_Mo (fun _ _ _ h => by cases h; rfl) rfl rfl rfl (Nat.le_of_ble_eq_true rfl) ?_
    refine J_heap (h2 := ch sa sb lt tt lg bc gi go sh bn sc rw dy pt (mh (1) ab be lgm ltm smm bs kd mo dr wa re lom him scm ou sr gim gom shm rwm dym ptm td tw R)) rfl ?_
    refine J_aload_n d_Mo_row_78 rfl rfl ?_
    refine J_get d_Mo_row_79 xf_Mo_62 rfl rfl ?_
    refine J_if_le (tgt := 87) d_Mo_row_82 (by decide) (fun q => absurd q (by decide)) (fun _ => ?_)
    refine J_iconst (v := 0) d_Mo_row_85 (by decide) ?_
    exact J_ireturn d_Mo_row_86 rfl (by rw [xif_neg (not_not_intro c9)] <;> try rfl)
  · skip
    refine J_aload_n d_Mo_row_12 rfl rfl ?_
    refine J_get d_Mo_row_13 xf_Mo_130 rfl rfl ?_
    refine J_if_eq (tgt := 34) d_Mo_row_16 (by decide) (fun c16 => ?_) (fun c16 => ?_)
    · skip
      refine J_iload_n d_Mo_row_34 rfl rfl ?_
      refine J_i2l d_Mo_row_35 ?_
      refine J_lconst (v := 0) d_Mo_row_36 (by decide) ?_
      refine J_ldc2_w d_Mo_row_37 xj_Mo_133 ?_
      refine J_callP (xGo_s3 d_Mo_row_40 xc_Mo_71) ⟨xq_Mo_isIn.1, xq_Mo_isIn.2.1⟩ ⟨Nat.le_of_ble_eq_true rfl, Nat.le_of_ble_eq_true rfl, Nat.le_of_ble_eq_true rfl, Nat.le_of_ble_eq_true rfl⟩ (Nat.le_of_ble_eq_true rfl) n_isIn ?_
      refine J_if_eq (tgt := 50) d_Mo_row_43 (by decide) (fun c43 => ?_) (fun c43 => ?_)
      · skip
        refine J_iconst (v := 0) d_Mo_row_50 (by decide) ?_
        refine J_istore_n d_Mo_row_51 rfl (by decide) ?_
        refine J_aload_n d_Mo_row_52 rfl rfl ?_
        refine J_iload_n d_Mo_row_53 rfl rfl ?_
        refine J_if_ne (tgt := 61) d_Mo_row_54 (by decide) (fun q => absurd q (by decide)) (fun _ => ?_)
        refine J_iconst (v := 1) d_Mo_row_57 (by decide) ?_
        refine J_goto (tgt := 75) d_Mo_row_58 (by decide) ?_
        refine J_put d_Mo_row_75 xf_Mo_62 xt_Mo (fun _ _ _ h => by cases h; rfl) rfl rfl rfl (Nat.le_of_ble_eq_true rfl) ?_
        refine J_heap (h2 := ch sa sb lt tt lg bc gi go sh bn sc rw dy pt (mh (1) ab be lgm ltm smm bs kd mo dr wa re lom him scm ou sr gim gom shm rwm dym ptm td tw R)) rfl ?_
        refine J_aload_n d_Mo_row_78 rfl rfl ?_
        refine J_get d_Mo_row_79 xf_Mo_62 rfl rfl ?_
        refine J_if_le (tgt := 87) d_Mo_row_82 (by decide) (fun q => absurd q (by decide)) (fun _ => ?_)
        refine J_iconst (v := 0) d_Mo_row_85 (by decide) ?_
        exact J_ireturn d_Mo_row_86 rfl (by rw [xif_pos c9, xif_pos c16, xif_neg (not_not_intro c43)] <;> try rfl)
      · skip
        refine J_iconst (v := 1) d_Mo_row_46 (by decide) ?_
        refine J_goto (tgt := 51) d_Mo_row_47 (by decide) ?_
        refine J_istore_n d_Mo_row_51 rfl (by decide) ?_
        refine J_aload_n d_Mo_row_52 rfl rfl ?_
        refine J_iload_n d_Mo_row_53 rfl rfl ?_
        refine J_if_ne (tgt := 61) d_Mo_row_54 (by decide) (fun _ => ?_) (fun q => absurd (by decide) q)
        refine J_aload_n d_Mo_row_61 rfl rfl ?_
        refine J_get d_Mo_row_62 xf_Mo_130 rfl rfl ?_
        refine J_bipush (v := 8) d_Mo_row_65 (by decide) ?_
        refine J_icmp_ne (tgt := 74) d_Mo_row_67 (by decide) (fun c67 => ?_) (fun c67 => ?_)
        · skip
          refine J_iconst (v := 0) d_Mo_row_74 (by decide) ?_
          refine J_put d_Mo_row_75 xf_Mo_62 xt_Mo (fun _ _ _ h => by cases h; rfl) rfl rfl rfl (Nat.le_of_ble_eq_true rfl) ?_
          refine J_heap (h2 := ch sa sb lt tt lg bc gi go sh bn sc rw dy pt (mh (0) ab be lgm ltm smm bs kd mo dr wa re lom him scm ou sr gim gom shm rwm dym ptm td tw R)) rfl ?_
          refine J_aload_n d_Mo_row_78 rfl rfl ?_
          refine J_get d_Mo_row_79 xf_Mo_62 rfl rfl ?_
          refine J_if_le (tgt := 87) d_Mo_row_82 (by decide) (fun _ => ?_) (fun q => absurd (by decide) q)
          refine J_aload_n d_Mo_row_87 rfl rfl ?_
          refine J_get d_Mo_row_88 xf_Mo_56 rfl rfl ?_
          refine J_aload_n d_Mo_row_91 rfl rfl ?_
          refine J_get d_Mo_row_92 xf_Mo_130 rfl rfl ?_
          refine J_iload_n d_Mo_row_95 rfl rfl ?_
          refine J_iast d_Mo_row_96 (gt0 hG) rfl (ibq hr hn c67) ?_
          refine J_aload_n d_Mo_row_97 rfl rfl ?_
          refine J_get d_Mo_row_98 xf_Mo_59 rfl rfl ?_
          refine J_aload_n d_Mo_row_101 rfl rfl ?_
          refine J_get d_Mo_row_102 xf_Mo_130 rfl rfl ?_
          refine J_iload_n d_Mo_row_105 rfl rfl ?_
          refine J_iast d_Mo_row_106 (gt0 hG) rfl (ibq hr hn c67) ?_
          refine J_aload_n d_Mo_row_107 rfl rfl ?_
          refine J_dup d_Mo_row_108 ?_
          refine J_get d_Mo_row_109 xf_Mo_130 rfl rfl ?_
          refine J_iconst (v := 1) d_Mo_row_112 (by decide) ?_
          refine J_iadd d_Mo_row_113 ?_
          refine J_put d_Mo_row_114 xf_Mo_130 xt_Mo (fun _ _ _ h => by cases h; rfl) rfl rfl rfl (Nat.le_of_ble_eq_true rfl) ?_
          refine J_aload_n d_Mo_row_117 rfl rfl ?_
          refine J_get d_Mo_row_118 xf_Mo_130 rfl rfl ?_
          exact J_ireturn d_Mo_row_121 rfl (by rw [xif_pos c9, xif_pos c16, xif_pos c43, xif_pos c67] <;> try rfl)
        · skip
          have c67 := Classical.not_not.mp c67
          refine J_iconst (v := 2) d_Mo_row_70 (by decide) ?_
          refine J_goto (tgt := 75) d_Mo_row_71 (by decide) ?_
          refine J_put d_Mo_row_75 xf_Mo_62 xt_Mo (fun _ _ _ h => by cases h; rfl) rfl rfl rfl (Nat.le_of_ble_eq_true rfl) ?_
          refine J_heap (h2 := ch sa sb lt tt lg bc gi go sh bn sc rw dy pt (mh (2) ab be lgm ltm smm bs kd mo dr wa re lom him scm ou sr gim gom shm rwm dym ptm td tw R)) rfl ?_
          refine J_aload_n d_Mo_row_78 rfl rfl ?_
          refine J_get d_Mo_row_79 xf_Mo_62 rfl rfl ?_
          refine J_if_le (tgt := 87) d_Mo_row_82 (by decide) (fun q => absurd q (by decide)) (fun _ => ?_)
          refine J_iconst (v := 0) d_Mo_row_85 (by decide) ?_
          exact J_ireturn d_Mo_row_86 rfl (by rw [xif_pos c9, xif_pos c16, xif_pos c43, xif_neg (not_not_intro c67)] <;> try rfl)
    · skip
      refine J_iload_n d_Mo_row_19 rfl rfl ?_
      refine J_aload_n d_Mo_row_20 rfl rfl ?_
      refine J_get d_Mo_row_21 xf_Mo_56 rfl rfl ?_
      refine J_aload_n d_Mo_row_24 rfl rfl ?_
      refine J_get d_Mo_row_25 xf_Mo_130 rfl rfl ?_
      refine J_iconst (v := 1) d_Mo_row_28 (by decide) ?_
      refine J_isub d_Mo_row_29 ?_
      refine J_iald d_Mo_row_30 (gt0 hG) rfl (ibr hr hn c16) ?_
      refine J_icmp_le (tgt := 50) d_Mo_row_31 (by decide) (fun c31 => ?_) (fun c31 => ?_)
      · skip
        refine J_iconst (v := 0) d_Mo_row_50 (by decide) ?_
        refine J_istore_n d_Mo_row_51 rfl (by decide) ?_
        refine J_aload_n d_Mo_row_52 rfl rfl ?_
        refine J_iload_n d_Mo_row_53 rfl rfl ?_
        refine J_if_ne (tgt := 61) d_Mo_row_54 (by decide) (fun q => absurd q (by decide)) (fun _ => ?_)
        refine J_iconst (v := 1) d_Mo_row_57 (by decide) ?_
        refine J_goto (tgt := 75) d_Mo_row_58 (by decide) ?_
        refine J_put d_Mo_row_75 xf_Mo_62 xt_Mo (fun _ _ _ h => by cases h; rfl) rfl rfl rfl (Nat.le_of_ble_eq_true rfl) ?_
        refine J_heap (h2 := ch sa sb lt tt lg bc gi go sh bn sc rw dy pt (mh (1) ab be lgm ltm smm bs kd mo dr wa re lom him scm ou sr gim gom shm rwm dym ptm td tw R)) rfl ?_
        refine J_aload_n d_Mo_row_78 rfl rfl ?_
        refine J_get d_Mo_row_79 xf_Mo_62 rfl rfl ?_
        refine J_if_le (tgt := 87) d_Mo_row_82 (by decide) (fun q => absurd q (by decide)) (fun _ => ?_)
        refine J_iconst (v := 0) d_Mo_row_85 (by decide) ?_
        exact J_ireturn d_Mo_row_86 rfl (by rw [xif_pos c9, xif_neg c16, xif_neg (not_not_intro c31)] <;> try rfl)
      · skip
        refine J_iload_n d_Mo_row_34 rfl rfl ?_
        refine J_i2l d_Mo_row_35 ?_
        refine J_lconst (v := 0) d_Mo_row_36 (by decide) ?_
        refine J_ldc2_w d_Mo_row_37 xj_Mo_133 ?_
        refine J_callP (xGo_s3 d_Mo_row_40 xc_Mo_71) ⟨xq_Mo_isIn.1, xq_Mo_isIn.2.1⟩ ⟨Nat.le_of_ble_eq_true rfl, Nat.le_of_ble_eq_true rfl, Nat.le_of_ble_eq_true rfl, Nat.le_of_ble_eq_true rfl⟩ (Nat.le_of_ble_eq_true rfl) n_isIn ?_
        refine J_if_eq (tgt := 50) d_Mo_row_43 (by decide) (fun c43 => ?_) (fun c43 => ?_)
        · skip
          refine J_iconst (v := 0) d_Mo_row_50 (by decide) ?_
          refine J_istore_n d_Mo_row_51 rfl (by decide) ?_
          refine J_aload_n d_Mo_row_52 rfl rfl ?_
          refine J_iload_n d_Mo_row_53 rfl rfl ?_
          refine J_if_ne (tgt := 61) d_Mo_row_54 (by decide) (fun q => absurd q (by decide)) (fun _ => ?_)
          refine J_iconst (v := 1) d_Mo_row_57 (by decide) ?_
          refine J_goto (tgt := 75) d_Mo_row_58 (by decide) ?_
          refine J_put d_Mo_row_75 xf_Mo_62 xt_Mo (fun _ _ _ h => by cases h; rfl) rfl rfl rfl (Nat.le_of_ble_eq_true rfl) ?_
          refine J_heap (h2 := ch sa sb lt tt lg bc gi go sh bn sc rw dy pt (mh (1) ab be lgm ltm smm bs kd mo dr wa re lom him scm ou sr gim gom shm rwm dym ptm td tw R)) rfl ?_
          refine J_aload_n d_Mo_row_78 rfl rfl ?_
          refine J_get d_Mo_row_79 xf_Mo_62 rfl rfl ?_
          refine J_if_le (tgt := 87) d_Mo_row_82 (by decide) (fun q => absurd q (by decide)) (fun _ => ?_)
          refine J_iconst (v := 0) d_Mo_row_85 (by decide) ?_
          exact J_ireturn d_Mo_row_86 rfl (by rw [xif_pos c9, xif_neg c16, xif_pos c31, xif_neg (not_not_intro c43)] <;> try rfl)
        · skip
          refine J_iconst (v := 1) d_Mo_row_46 (by decide) ?_
          refine J_goto (tgt := 51) d_Mo_row_47 (by decide) ?_
          refine J_istore_n d_Mo_row_51 rfl (by decide) ?_
          refine J_aload_n d_Mo_row_52 rfl rfl ?_
          refine J_iload_n d_Mo_row_53 rfl rfl ?_
          refine J_if_ne (tgt := 61) d_Mo_row_54 (by decide) (fun _ => ?_) (fun q => absurd (by decide) q)
          refine J_aload_n d_Mo_row_61 rfl rfl ?_
          refine J_get d_Mo_row_62 xf_Mo_130 rfl rfl ?_
          refine J_bipush (v := 8) d_Mo_row_65 (by decide) ?_
          refine J_icmp_ne (tgt := 74) d_Mo_row_67 (by decide) (fun c67 => ?_) (fun c67 => ?_)
          · skip
            refine J_iconst (v := 0) d_Mo_row_74 (by decide) ?_
            refine J_put d_Mo_row_75 xf_Mo_62 xt_Mo (fun _ _ _ h => by cases h; rfl) rfl rfl rfl (Nat.le_of_ble_eq_true rfl) ?_
            refine J_heap (h2 := ch sa sb lt tt lg bc gi go sh bn sc rw dy pt (mh (0) ab be lgm ltm smm bs kd mo dr wa re lom him scm ou sr gim gom shm rwm dym ptm td tw R)) rfl ?_
            refine J_aload_n d_Mo_row_78 rfl rfl ?_
            refine J_get d_Mo_row_79 xf_Mo_62 rfl rfl ?_
            refine J_if_le (tgt := 87) d_Mo_row_82 (by decide) (fun _ => ?_) (fun q => absurd (by decide) q)
            refine J_aload_n d_Mo_row_87 rfl rfl ?_
            refine J_get d_Mo_row_88 xf_Mo_56 rfl rfl ?_
            refine J_aload_n d_Mo_row_91 rfl rfl ?_
            refine J_get d_Mo_row_92 xf_Mo_130 rfl rfl ?_
            refine J_iload_n d_Mo_row_95 rfl rfl ?_
            refine J_iast d_Mo_row_96 (gt0 hG) rfl (ibq hr hn c67) ?_
            refine J_aload_n d_Mo_row_97 rfl rfl ?_
            refine J_get d_Mo_row_98 xf_Mo_59 rfl rfl ?_
            refine J_aload_n d_Mo_row_101 rfl rfl ?_
            refine J_get d_Mo_row_102 xf_Mo_130 rfl rfl ?_
            refine J_iload_n d_Mo_row_105 rfl rfl ?_
            refine J_iast d_Mo_row_106 (gt0 hG) rfl (ibq hr hn c67) ?_
            refine J_aload_n d_Mo_row_107 rfl rfl ?_
            refine J_dup d_Mo_row_108 ?_
            refine J_get d_Mo_row_109 xf_Mo_130 rfl rfl ?_
            refine J_iconst (v := 1) d_Mo_row_112 (by decide) ?_
            refine J_iadd d_Mo_row_113 ?_
            refine J_put d_Mo_row_114 xf_Mo_130 xt_Mo (fun _ _ _ h => by cases h; rfl) rfl rfl rfl (Nat.le_of_ble_eq_true rfl) ?_
            refine J_aload_n d_Mo_row_117 rfl rfl ?_
            refine J_get d_Mo_row_118 xf_Mo_130 rfl rfl ?_
            exact J_ireturn d_Mo_row_121 rfl (by rw [xif_pos c9, xif_neg c16, xif_pos c31, xif_pos c43, xif_pos c67] <;> try rfl)
          · skip
            have c67 := Classical.not_not.mp c67
            refine J_iconst (v := 2) d_Mo_row_70 (by decide) ?_
            refine J_goto (tgt := 75) d_Mo_row_71 (by decide) ?_
            refine J_put d_Mo_row_75 xf_Mo_62 xt_Mo (fun _ _ _ h => by cases h; rfl) rfl rfl rfl (Nat.le_of_ble_eq_true rfl) ?_
            refine J_heap (h2 := ch sa sb lt tt lg bc gi go sh bn sc rw dy pt (mh (2) ab be lgm ltm smm bs kd mo dr wa re lom him scm ou sr gim gom shm rwm dym ptm td tw R)) rfl ?_
            refine J_aload_n d_Mo_row_78 rfl rfl ?_
            refine J_get d_Mo_row_79 xf_Mo_62 rfl rfl ?_
            refine J_if_le (tgt := 87) d_Mo_row_82 (by decide) (fun q => absurd q (by decide)) (fun _ => ?_)
            refine J_iconst (v := 0) d_Mo_row_85 (by decide) ?_
            exact J_ireturn d_Mo_row_86 rfl (by rw [xif_pos c9, xif_neg c16, xif_pos c31, xif_pos c43, xif_neg (not_not_intro c67)] <;> try rfl)
end XM2
