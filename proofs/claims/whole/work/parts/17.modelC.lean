section XM3
variable {G : xG} {sa sb : Int32 × Int32} {lt tt : cP} {lg bc : Int32} {gi go : Int64} {sh : Int32} {bn : Nat → cB} {sc : Nat → cS} {rw : Int32} {dy pt : Nat → Int32} {R : List va_E}
variable {th : Int32} {ab be : Nat → Int32} {lgm : Int32} {ltm smm : Nat → Int64} {bs : Int32} {kd : Nat → Int32} {mo dr wa re : Nat → Int64} {lom him scm ou sr : Nat → Int32} {gim gom shm : Int64} {rwm : Int32} {dym ptm : Nat → Int32} {td tw : Int64}
theorem in_of {v a z : Int64} (h : ¬ s_in v a z = 0) : ¬ v < a ∧ ¬ z < v := by
  unfold s_in at h
  by_cases h1 : v < a
  · rw [if_pos h1] at h; exact absurd rfl h
  · by_cases h2 : z < v
    · rw [if_neg h1, if_pos h2] at h; exact absurd rfl h
    · exact ⟨h1, h2⟩
theorem k_in {k : Int32} (h : ¬ s_in k.toInt64 1 1000000 = 0) : 1 ≤ k.toInt ∧ k.toInt ≤ 1000000 := by
  obtain ⟨h1, h2⟩ := in_of h
  rw [Int64.lt_iff_toInt_lt] at h1 h2
  rw [Jvm.Kit.i64_of_i32] at h1 h2
  have e1 : (1 : Int64).toInt = 1 := by decide
  have e2 : (1000000 : Int64).toInt = 1000000 := by decide
  rw [e1] at h1
  rw [e2] at h2
  omega
theorem k_mul {k : Int32} (h1 : 0 ≤ k.toInt) (h2 : k.toInt ≤ 1000000) : (1000 * k.toInt64).toInt = 1000 * k.toInt := by
  have e1 : (1000 : Int64).toInt = 1000 := by decide
  rw [Jvm.Kit.i64_mul (by rw [Jvm.Kit.i64_of_i32, e1]; omega) (by rw [Jvm.Kit.i64_of_i32, e1]; omega), Jvm.Kit.i64_of_i32, e1]
theorem hz_of {dr wa : Nat → Int64} {b k : Int32} (h1 : ¬ s_in k.toInt64 1 1000000 = 0) (h2 : ¬ s_ha dr wa b k = 0) : ¬ s_al dr wa b = 0 := by
  intro q
  obtain ⟨a1, a2⟩ := k_in h1
  refine h2 ?_
  unfold s_ha
  rw [if_pos]
  rw [q, Int64.lt_iff_toInt_lt, k_mul (by omega) a2]
  have e0 : (0 : Int64).toInt = 0 := by decide
  rw [e0]
  omega
def s_mp (dym ptm : Nat → Int32) (d : Int32) : Nat → Nat → Int64 → Int64
  | 0, _, acc => acc
  | m + 1, i, acc => s_mp dym ptm d m (i + 1) (if d < dym (nI i).toNatClampNeg then acc else (ptm (nI i).toNatClampNeg).toInt64)
def s_mt (td tw p : Int64) : Int64 := if 0 ≤ td * 19 - tw * 3 then (td * 19 - tw * 3) * p / 100 else 0
def s_ml (re dr wa : Nat → Int64) : Nat → Nat → Int64 → Int64
  | 0, _, acc => acc
  | m + 1, i, acc => s_ml re dr wa m (i + 1) (if re (nI i).toNatClampNeg = -1 then acc else acc + s_al dr wa (nI i) - re (nI i).toNatClampNeg)
def s_mu (dr : Nat → Int64) : Nat → Nat → Int64 → Int64
  | 0, _, acc => acc
  | m + 1, i, acc => s_mu dr m (i + 1) (acc + dr (nI i).toNatClampNeg)
set_option maxHeartbeats 4000000 in
set_option maxRecDepth 100000 in
theorem l_mburn {b k d : Int32} {nr : Nat} (hG : gTok G) (hr : rwm = nI nr) (hq : nr ≤ 8) : ∀ (m i : Nat) (acc : Int64), i + m = nr → JW G Y_Mo_burn (0, 0) 86 [(6, .int (nI i)), (4, .long acc), (0, .ref 22), (1, .int b), (2, .int k), (3, .int d)] [] (0, ch sa sb lt tt lg bc gi go sh bn sc rw dy pt (mh th ab be lgm ltm smm bs kd mo dr wa re lom him scm ou sr gim gom shm rwm dym ptm td tw R)) (.inl (some (.long (s_mt td tw (s_mp dym ptm d m i acc)))), (0, ch sa sb lt tt lg bc gi go sh bn sc rw dy pt (mh th ab be lgm ltm smm bs kd mo dr wa re lom him scm ou sr gim gom shm rwm dym ptm td tw R)), 0, 0) := by
  intro m
  induction m with
  | zero =>
    intro i acc hi
    have hi : i = nr := by omega
    subst hi
    refine J_iload d_Mo_burn_86 rfl ?_
    refine J_aload_n d_Mo_burn_88 rfl rfl ?_
    refine J_get d_Mo_burn_89 xf_Mo_130 rfl rfl ?_
    refine J_icmp_ge (tgt := 127) d_Mo_burn_92 (by decide) (fun c92 => ?_) (fun c92 => ?_)
    · skip
      refine J_aload_n d_Mo_burn_127 rfl rfl ?_
      refine J_get d_Mo_burn_128 xf_Mo_138 rfl rfl ?_
      refine J_ldc2_w d_Mo_burn_131 xj_Mo_154 ?_
      refine J_lmul d_Mo_burn_134 ?_
      refine J_aload_n d_Mo_burn_135 rfl rfl ?_
      refine J_get d_Mo_burn_136 xf_Mo_135 rfl rfl ?_
      refine J_ldc2_w d_Mo_burn_139 xj_Mo_156 ?_
      refine J_lmul d_Mo_burn_142 ?_
      refine J_lsub d_Mo_burn_143 ?_
      refine J_lstore d_Mo_burn_144 (by decide) ?_
      refine J_lload d_Mo_burn_146 rfl ?_
      refine J_lconst (v := 0) d_Mo_burn_148 (by decide) ?_
      refine J_lcmp d_Mo_burn_149 ?_
      refine J_lif_ge (tgt := 157) d_Mo_burn_150 (by decide) (fun c150 => ?_) (fun c150 => ?_)
      · skip
        refine J_lload d_Mo_burn_157 rfl ?_
        refine J_lload d_Mo_burn_159 rfl ?_
        refine J_lmul d_Mo_burn_161 ?_
        refine J_ldc2_w d_Mo_burn_162 xj_Mo_152 ?_
        refine J_ldiv d_Mo_burn_165 (by decide) ?_
        exact J_lreturn d_Mo_burn_166 rfl (by unfold s_mt; rw [if_pos c150] <;> rfl)
      · skip
        refine J_lconst (v := 0) d_Mo_burn_153 (by decide) ?_
        refine J_goto (tgt := 166) d_Mo_burn_154 (by decide) ?_
        exact J_lreturn d_Mo_burn_166 rfl (by unfold s_mt; rw [if_neg c150] <;> rfl)
    · skip
      exact absurd (by rw [hr]; exact Int32.le_refl _) c92
  | succ m ih =>
    intro i acc hi
    have hin : i < nr := by omega
    have hi8 : i < 8 := by omega
    refine J_iload d_Mo_burn_86 rfl ?_
    refine J_aload_n d_Mo_burn_88 rfl rfl ?_
    refine J_get d_Mo_burn_89 xf_Mo_130 rfl rfl ?_
    refine J_icmp_ge (tgt := 127) d_Mo_burn_92 (by decide) (fun c92 => ?_) (fun c92 => ?_)
    · skip
      exact absurd c92 (by rw [hr]; exact nI_ge hin (by omega))
    · skip
      refine J_aload_n d_Mo_burn_95 rfl rfl ?_
      refine J_get d_Mo_burn_96 xf_Mo_56 rfl rfl ?_
      refine J_iload d_Mo_burn_99 rfl ?_
      refine J_iald d_Mo_burn_101 (gt0 hG) rfl (vp_in_nI hi8 (by decide)) ?_
      refine J_iload_n d_Mo_burn_102 rfl rfl ?_
      refine J_icmp_gt (tgt := 117) d_Mo_burn_103 (by decide) (fun c103 => ?_) (fun c103 => ?_)
      · skip
        refine J_lload d_Mo_burn_117 rfl ?_
        refine J_lstore d_Mo_burn_119 (by decide) ?_
        refine J_iinc (v := nI (i + 1)) d_Mo_burn_121 rfl (nI_1 i) (by decide) ?_
        refine J_goto (tgt := 86) d_Mo_burn_124 (by decide) ?_
        refine J_loc (L2 := [(6, .int (nI (i + 1))), (4, .long acc), (0, .ref 22), (1, .int b), (2, .int k), (3, .int d)]) rfl ?_
        refine J_res (r2 := (.inl (some (.long (s_mt td tw (s_mp dym ptm d m (i + 1) acc)))), (0, ch sa sb lt tt lg bc gi go sh bn sc rw dy pt (mh th ab be lgm ltm smm bs kd mo dr wa re lom him scm ou sr gim gom shm rwm dym ptm td tw R)), 0, 0)) (by simp only [s_mp, c103, if_true, if_false]) ?_
        exact ih (i + 1) _ (by omega)
      · skip
        refine J_aload_n d_Mo_burn_106 rfl rfl ?_
        refine J_get d_Mo_burn_107 xf_Mo_59 rfl rfl ?_
        refine J_iload d_Mo_burn_110 rfl ?_
        refine J_iald d_Mo_burn_112 (gt0 hG) rfl (vp_in_nI hi8 (by decide)) ?_
        refine J_i2l d_Mo_burn_113 ?_
        refine J_goto (tgt := 119) d_Mo_burn_114 (by decide) ?_
        refine J_lstore d_Mo_burn_119 (by decide) ?_
        refine J_iinc (v := nI (i + 1)) d_Mo_burn_121 rfl (nI_1 i) (by decide) ?_
        refine J_goto (tgt := 86) d_Mo_burn_124 (by decide) ?_
        refine J_loc (L2 := [(6, .int (nI (i + 1))), (4, .long ((ptm (nI i).toNatClampNeg).toInt64)), (0, .ref 22), (1, .int b), (2, .int k), (3, .int d)]) rfl ?_
        refine J_res (r2 := (.inl (some (.long (s_mt td tw (s_mp dym ptm d m (i + 1) ((ptm (nI i).toNatClampNeg).toInt64))))), (0, ch sa sb lt tt lg bc gi go sh bn sc rw dy pt (mh th ab be lgm ltm smm bs kd mo dr wa re lom him scm ou sr gim gom shm rwm dym ptm td tw R)), 0, 0)) (by simp only [s_mp, c103, if_true, if_false]) ?_
        exact ih (i + 1) _ (by omega)
set_option maxHeartbeats 4000000 in
set_option maxRecDepth 100000 in
theorem n_burn {b k d : Int32} {nr : Nat} (hG : gTok G) {nb : Nat} (hb : bs = nI nb) (hn : nb ≤ 8) (hr : rwm = nI nr) (hq : nr ≤ 8) : XM G Y_Mo_burn [.ref 22, .int b, .int k, .int d] (1, ch sa sb lt tt lg bc gi go sh bn sc rw dy pt (mh th ab be lgm ltm smm bs kd mo dr wa re lom him scm ou sr gim gom shm rwm dym ptm td tw R)) (xif (s_nb bs b = 0) (xif (¬ s_in k.toInt64 1 1000000 = 0 ∧ ¬ s_in d.toInt64 0 364 = 0) (xif (¬ s_ha dr wa b k = 0) (.inl (some (.long (s_mt (1000 * k.toInt64 - wa b.toNatClampNeg * (1000 * k.toInt64) / s_al dr wa b) (wa b.toNatClampNeg * (1000 * k.toInt64) / s_al dr wa b) (s_mp dym ptm d nr 0 100)))), (0, ch sa sb lt tt lg bc gi go sh bn sc rw dy pt (mh (0) ab be lgm ltm smm bs kd mo (vp_updL dr b.toNatClampNeg (dr b.toNatClampNeg - (1000 * k.toInt64 - wa b.toNatClampNeg * (1000 * k.toInt64) / s_al dr wa b))) (vp_updL wa b.toNatClampNeg (wa b.toNatClampNeg - wa b.toNatClampNeg * (1000 * k.toInt64) / s_al dr wa b)) re lom him scm ou sr gim (gom + (1000 * k.toInt64 - wa b.toNatClampNeg * (1000 * k.toInt64) / s_al dr wa b) + wa b.toNatClampNeg * (1000 * k.toInt64) / s_al dr wa b) shm rwm dym ptm (1000 * k.toInt64 - wa b.toNatClampNeg * (1000 * k.toInt64) / s_al dr wa b) (wa b.toNatClampNeg * (1000 * k.toInt64) / s_al dr wa b) R)), 0, 0) (.inl (some (.long 0)), (0, ch sa sb lt tt lg bc gi go sh bn sc rw dy pt (mh (3) ab be lgm ltm smm bs kd mo dr wa re lom him scm ou sr gim gom shm rwm dym ptm td tw R)), 0, 0)) (.inl (some (.long 0)), (0, ch sa sb lt tt lg bc gi go sh bn sc rw dy pt (mh (2) ab be lgm ltm smm bs kd mo dr wa re lom him scm ou sr gim gom shm rwm dym ptm td tw R)), 0, 0)) (.inl (some (.long 0)), (0, ch sa sb lt tt lg bc gi go sh bn sc rw dy pt (mh (1) ab be lgm ltm smm bs kd mo dr wa re lom him scm ou sr gim gom shm rwm dym ptm td tw R)), 0, 0)) := by
  refine XM_of (by decide +kernel) (Nat.le_of_ble_eq_true rfl) (Or.inl rfl) ?_
  refine J_aload_n d_Mo_burn_0 rfl rfl ?_
  refine J_aload_n d_Mo_burn_1 rfl rfl ?_
  refine J_iload_n d_Mo_burn_2 rfl rfl ?_
  refine J_callP (xGo_v1 d_Mo_burn_3 xc_Mo_94 rfl rfl rfl) ⟨xq_Mo_noBin.1, xq_Mo_noBin.2.1⟩ ⟨Nat.le_of_ble_eq_true rfl, Nat.le_of_ble_eq_true rfl, Nat.le_of_ble_eq_true rfl, Nat.le_of_ble_eq_true rfl⟩ (Nat.le_of_ble_eq_true rfl) n_noBin ?_
  refine J_if_eq (tgt := 13) d_Mo_burn_6 (by decide) (fun c6 => ?_) (fun c6 => ?_)
  · skip
    refine J_iload_n d_Mo_burn_13 rfl rfl ?_
    refine J_i2l d_Mo_burn_14 ?_
    refine J_lconst (v := 1) d_Mo_burn_15 (by decide) ?_
    refine J_ldc2_w d_Mo_burn_16 xj_Mo_84 ?_
    refine J_callP (xGo_s3 d_Mo_burn_19 xc_Mo_71) ⟨xq_Mo_isIn.1, xq_Mo_isIn.2.1⟩ ⟨Nat.le_of_ble_eq_true rfl, Nat.le_of_ble_eq_true rfl, Nat.le_of_ble_eq_true rfl, Nat.le_of_ble_eq_true rfl⟩ (Nat.le_of_ble_eq_true rfl) n_isIn ?_
    refine J_if_eq (tgt := 37) d_Mo_burn_22 (by decide) (fun c22 => ?_) (fun c22 => ?_)
    · skip
      refine J_iconst (v := 2) d_Mo_burn_37 (by decide) ?_
      refine J_goto (tgt := 55) d_Mo_burn_38 (by decide) ?_
      refine J_put d_Mo_burn_55 xf_Mo_62 xt_Mo (fun _ _ _ h => by cases h; rfl) rfl rfl rfl (Nat.le_of_ble_eq_true rfl) ?_
      refine J_heap (h2 := ch sa sb lt tt lg bc gi go sh bn sc rw dy pt (mh (2) ab be lgm ltm smm bs kd mo dr wa re lom him scm ou sr gim gom shm rwm dym ptm td tw R)) rfl ?_
      refine J_aload_n d_Mo_burn_58 rfl rfl ?_
      refine J_get d_Mo_burn_59 xf_Mo_62 rfl rfl ?_
      refine J_if_le (tgt := 67) d_Mo_burn_62 (by decide) (fun q => absurd q (by decide)) (fun _ => ?_)
      refine J_lconst (v := 0) d_Mo_burn_65 (by decide) ?_
      exact J_lreturn d_Mo_burn_66 rfl (by rw [xif_pos c6, xif_neg (fun q => by first | exact q.1 c22 | exact c22 q.1)] <;> try rfl)
    · skip
      refine J_iload_n d_Mo_burn_25 rfl rfl ?_
      refine J_i2l d_Mo_burn_26 ?_
      refine J_lconst (v := 0) d_Mo_burn_27 (by decide) ?_
      refine J_ldc2_w d_Mo_burn_28 xj_Mo_128 ?_
      refine J_callP (xGo_s3 d_Mo_burn_31 xc_Mo_71) ⟨xq_Mo_isIn.1, xq_Mo_isIn.2.1⟩ ⟨Nat.le_of_ble_eq_true rfl, Nat.le_of_ble_eq_true rfl, Nat.le_of_ble_eq_true rfl, Nat.le_of_ble_eq_true rfl⟩ (Nat.le_of_ble_eq_true rfl) n_isIn ?_
      refine J_if_ne (tgt := 41) d_Mo_burn_34 (by decide) (fun c34 => ?_) (fun c34 => ?_)
      · skip
        refine J_aload_n d_Mo_burn_41 rfl rfl ?_
        refine J_iload_n d_Mo_burn_42 rfl rfl ?_
        refine J_iload_n d_Mo_burn_43 rfl rfl ?_
        refine J_callP (xGo_v2 d_Mo_burn_44 xc_Mo_141 rfl rfl rfl) ⟨xq_Mo_has.1, xq_Mo_has.2.1⟩ ⟨Nat.le_of_ble_eq_true rfl, Nat.le_of_ble_eq_true rfl, Nat.le_of_ble_eq_true rfl, Nat.le_of_ble_eq_true rfl⟩ (Nat.le_of_ble_eq_true rfl) (n_has hG (nb_in hb hn c6)) ?_
        refine J_if_eq (tgt := 54) d_Mo_burn_47 (by decide) (fun c47 => ?_) (fun c47 => ?_)
        · skip
          refine J_iconst (v := 3) d_Mo_burn_54 (by decide) ?_
          refine J_put d_Mo_burn_55 xf_Mo_62 xt_Mo (fun _ _ _ h => by cases h; rfl) rfl rfl rfl (Nat.le_of_ble_eq_true rfl) ?_
          refine J_heap (h2 := ch sa sb lt tt lg bc gi go sh bn sc rw dy pt (mh (3) ab be lgm ltm smm bs kd mo dr wa re lom him scm ou sr gim gom shm rwm dym ptm td tw R)) rfl ?_
          refine J_aload_n d_Mo_burn_58 rfl rfl ?_
          refine J_get d_Mo_burn_59 xf_Mo_62 rfl rfl ?_
          refine J_if_le (tgt := 67) d_Mo_burn_62 (by decide) (fun q => absurd q (by decide)) (fun _ => ?_)
          refine J_lconst (v := 0) d_Mo_burn_65 (by decide) ?_
          exact J_lreturn d_Mo_burn_66 rfl (by rw [xif_pos c6, xif_pos ⟨c22, c34⟩, xif_neg (not_not_intro c47)] <;> try rfl)
        · skip
          refine J_iconst (v := 0) d_Mo_burn_50 (by decide) ?_
          refine J_goto (tgt := 55) d_Mo_burn_51 (by decide) ?_
          refine J_put d_Mo_burn_55 xf_Mo_62 xt_Mo (fun _ _ _ h => by cases h; rfl) rfl rfl rfl (Nat.le_of_ble_eq_true rfl) ?_
          refine J_heap (h2 := ch sa sb lt tt lg bc gi go sh bn sc rw dy pt (mh (0) ab be lgm ltm smm bs kd mo dr wa re lom him scm ou sr gim gom shm rwm dym ptm td tw R)) rfl ?_
          refine J_aload_n d_Mo_burn_58 rfl rfl ?_
          refine J_get d_Mo_burn_59 xf_Mo_62 rfl rfl ?_
          refine J_if_le (tgt := 67) d_Mo_burn_62 (by decide) (fun _ => ?_) (fun q => absurd (by decide) q)
          refine J_aload_n d_Mo_burn_67 rfl rfl ?_
          refine J_iload_n d_Mo_burn_68 rfl rfl ?_
          refine J_iload_n d_Mo_burn_69 rfl rfl ?_
          refine J_callW (xGo_v2 d_Mo_burn_70 xc_Mo_144 rfl rfl rfl) ⟨xq_Mo_take.1, xq_Mo_take.2.1⟩ ⟨Nat.le_of_ble_eq_true rfl, Nat.le_of_ble_eq_true rfl, Nat.le_of_ble_eq_true rfl, Nat.le_of_ble_eq_true rfl⟩ (Nat.le_of_ble_eq_true rfl) (n_take hG (nb_in hb hn c6) (hz_of c22 c47)) ?_
          refine J_aload_n d_Mo_burn_73 rfl rfl ?_
          refine J_iload_n d_Mo_burn_74 rfl rfl ?_
          refine J_callW (xGo_v1 d_Mo_burn_75 xc_Mo_148 rfl rfl rfl) ⟨xq_Mo_goes.1, xq_Mo_goes.2.1⟩ ⟨Nat.le_of_ble_eq_true rfl, Nat.le_of_ble_eq_true rfl, Nat.le_of_ble_eq_true rfl, Nat.le_of_ble_eq_true rfl⟩ (Nat.le_of_ble_eq_true rfl) (n_goes hG (nb_in hb hn c6)) ?_
          refine J_ldc2_w d_Mo_burn_78 xj_Mo_152 ?_
          refine J_lstore d_Mo_burn_81 (by decide) ?_
          refine J_iconst (v := 0) d_Mo_burn_83 (by decide) ?_
          refine J_istore d_Mo_burn_84 (by decide) ?_
          refine J_res (r := _) (r2 := _) (by rw [xif_pos c6, xif_pos ⟨c22, c34⟩, xif_pos c47]) (J_loc rfl (l_mburn hG hr hq nr 0 100 (Nat.zero_add nr)))
      · skip
        have c34 := Classical.not_not.mp c34
        refine J_iconst (v := 2) d_Mo_burn_37 (by decide) ?_
        refine J_goto (tgt := 55) d_Mo_burn_38 (by decide) ?_
        refine J_put d_Mo_burn_55 xf_Mo_62 xt_Mo (fun _ _ _ h => by cases h; rfl) rfl rfl rfl (Nat.le_of_ble_eq_true rfl) ?_
        refine J_heap (h2 := ch sa sb lt tt lg bc gi go sh bn sc rw dy pt (mh (2) ab be lgm ltm smm bs kd mo dr wa re lom him scm ou sr gim gom shm rwm dym ptm td tw R)) rfl ?_
        refine J_aload_n d_Mo_burn_58 rfl rfl ?_
        refine J_get d_Mo_burn_59 xf_Mo_62 rfl rfl ?_
        refine J_if_le (tgt := 67) d_Mo_burn_62 (by decide) (fun q => absurd q (by decide)) (fun _ => ?_)
        refine J_lconst (v := 0) d_Mo_burn_65 (by decide) ?_
        exact J_lreturn d_Mo_burn_66 rfl (by rw [xif_pos c6, xif_neg (fun q => by first | exact q.2 c34 | exact c34 q.2)] <;> try rfl)
  · skip
    refine J_iconst (v := 1) d_Mo_burn_9 (by decide) ?_
    refine J_goto (tgt := 55) d_Mo_burn_10 (by decide) ?_
    refine J_put d_Mo_burn_55 xf_Mo_62 xt_Mo (fun _ _ _ h => by cases h; rfl) rfl rfl rfl (Nat.le_of_ble_eq_true rfl) ?_
    refine J_heap (h2 := ch sa sb lt tt lg bc gi go sh bn sc rw dy pt (mh (1) ab be lgm ltm smm bs kd mo dr wa re lom him scm ou sr gim gom shm rwm dym ptm td tw R)) rfl ?_
    refine J_aload_n d_Mo_burn_58 rfl rfl ?_
    refine J_get d_Mo_burn_59 xf_Mo_62 rfl rfl ?_
    refine J_if_le (tgt := 67) d_Mo_burn_62 (by decide) (fun q => absurd q (by decide)) (fun _ => ?_)
    refine J_lconst (v := 0) d_Mo_burn_65 (by decide) ?_
    exact J_lreturn d_Mo_burn_66 rfl (by rw [xif_neg c6] <;> try rfl)
set_option maxHeartbeats 4000000 in
set_option maxRecDepth 100000 in
theorem n_sell {b k d : Int32} (hG : gTok G) {nb : Nat} (hb : bs = nI nb) (hn : nb ≤ 8) : XM G Y_Mo_sell [.ref 22, .int b, .int k, .int d] (1, ch sa sb lt tt lg bc gi go sh bn sc rw dy pt (mh th ab be lgm ltm smm bs kd mo dr wa re lom him scm ou sr gim gom shm rwm dym ptm td tw R)) (xif (s_nb bs b = 0) (xif (¬ s_in k.toInt64 1 1000000 = 0 ∧ ¬ s_in d.toInt64 0 1000000 = 0) (xif (¬ s_ha dr wa b k = 0) (.inl (some (.long ((1000 * k.toInt64 - wa b.toNatClampNeg * (1000 * k.toInt64) / s_al dr wa b) * d.toInt64 / 1000000))), (0, ch sa sb lt tt lg bc gi go sh bn sc rw dy pt (mh (0) ab be lgm ltm smm bs kd mo (vp_updL dr b.toNatClampNeg (dr b.toNatClampNeg - (1000 * k.toInt64 - wa b.toNatClampNeg * (1000 * k.toInt64) / s_al dr wa b))) (vp_updL wa b.toNatClampNeg (wa b.toNatClampNeg - wa b.toNatClampNeg * (1000 * k.toInt64) / s_al dr wa b)) re lom him scm ou sr gim (gom + (1000 * k.toInt64 - wa b.toNatClampNeg * (1000 * k.toInt64) / s_al dr wa b) + wa b.toNatClampNeg * (1000 * k.toInt64) / s_al dr wa b) shm rwm dym ptm (1000 * k.toInt64 - wa b.toNatClampNeg * (1000 * k.toInt64) / s_al dr wa b) (wa b.toNatClampNeg * (1000 * k.toInt64) / s_al dr wa b) R)), 0, 0) (.inl (some (.long 0)), (0, ch sa sb lt tt lg bc gi go sh bn sc rw dy pt (mh (3) ab be lgm ltm smm bs kd mo dr wa re lom him scm ou sr gim gom shm rwm dym ptm td tw R)), 0, 0)) (.inl (some (.long 0)), (0, ch sa sb lt tt lg bc gi go sh bn sc rw dy pt (mh (2) ab be lgm ltm smm bs kd mo dr wa re lom him scm ou sr gim gom shm rwm dym ptm td tw R)), 0, 0)) (.inl (some (.long 0)), (0, ch sa sb lt tt lg bc gi go sh bn sc rw dy pt (mh (1) ab be lgm ltm smm bs kd mo dr wa re lom him scm ou sr gim gom shm rwm dym ptm td tw R)), 0, 0)) := by
  refine XM_of (by decide +kernel) (Nat.le_of_ble_eq_true rfl) (Or.inl rfl) ?_
  refine J_aload_n d_Mo_sell_0 rfl rfl ?_
  refine J_aload_n d_Mo_sell_1 rfl rfl ?_
  refine J_iload_n d_Mo_sell_2 rfl rfl ?_
  refine J_callP (xGo_v1 d_Mo_sell_3 xc_Mo_94 rfl rfl rfl) ⟨xq_Mo_noBin.1, xq_Mo_noBin.2.1⟩ ⟨Nat.le_of_ble_eq_true rfl, Nat.le_of_ble_eq_true rfl, Nat.le_of_ble_eq_true rfl, Nat.le_of_ble_eq_true rfl⟩ (Nat.le_of_ble_eq_true rfl) n_noBin ?_
  refine J_if_eq (tgt := 13) d_Mo_sell_6 (by decide) (fun c6 => ?_) (fun c6 => ?_)
  · skip
    refine J_iload_n d_Mo_sell_13 rfl rfl ?_
    refine J_i2l d_Mo_sell_14 ?_
    refine J_lconst (v := 1) d_Mo_sell_15 (by decide) ?_
    refine J_ldc2_w d_Mo_sell_16 xj_Mo_84 ?_
    refine J_callP (xGo_s3 d_Mo_sell_19 xc_Mo_71) ⟨xq_Mo_isIn.1, xq_Mo_isIn.2.1⟩ ⟨Nat.le_of_ble_eq_true rfl, Nat.le_of_ble_eq_true rfl, Nat.le_of_ble_eq_true rfl, Nat.le_of_ble_eq_true rfl⟩ (Nat.le_of_ble_eq_true rfl) n_isIn ?_
    refine J_if_eq (tgt := 37) d_Mo_sell_22 (by decide) (fun c22 => ?_) (fun c22 => ?_)
    · skip
      refine J_iconst (v := 2) d_Mo_sell_37 (by decide) ?_
      refine J_goto (tgt := 55) d_Mo_sell_38 (by decide) ?_
      refine J_put d_Mo_sell_55 xf_Mo_62 xt_Mo (fun _ _ _ h => by cases h; rfl) rfl rfl rfl (Nat.le_of_ble_eq_true rfl) ?_
      refine J_heap (h2 := ch sa sb lt tt lg bc gi go sh bn sc rw dy pt (mh (2) ab be lgm ltm smm bs kd mo dr wa re lom him scm ou sr gim gom shm rwm dym ptm td tw R)) rfl ?_
      refine J_aload_n d_Mo_sell_58 rfl rfl ?_
      refine J_get d_Mo_sell_59 xf_Mo_62 rfl rfl ?_
      refine J_if_le (tgt := 67) d_Mo_sell_62 (by decide) (fun q => absurd q (by decide)) (fun _ => ?_)
      refine J_lconst (v := 0) d_Mo_sell_65 (by decide) ?_
      exact J_lreturn d_Mo_sell_66 rfl (by rw [xif_pos c6, xif_neg (fun q => by first | exact q.1 c22 | exact c22 q.1)] <;> try rfl)
    · skip
      refine J_iload_n d_Mo_sell_25 rfl rfl ?_
      refine J_i2l d_Mo_sell_26 ?_
      refine J_lconst (v := 0) d_Mo_sell_27 (by decide) ?_
      refine J_ldc2_w d_Mo_sell_28 xj_Mo_84 ?_
      refine J_callP (xGo_s3 d_Mo_sell_31 xc_Mo_71) ⟨xq_Mo_isIn.1, xq_Mo_isIn.2.1⟩ ⟨Nat.le_of_ble_eq_true rfl, Nat.le_of_ble_eq_true rfl, Nat.le_of_ble_eq_true rfl, Nat.le_of_ble_eq_true rfl⟩ (Nat.le_of_ble_eq_true rfl) n_isIn ?_
      refine J_if_ne (tgt := 41) d_Mo_sell_34 (by decide) (fun c34 => ?_) (fun c34 => ?_)
      · skip
        refine J_aload_n d_Mo_sell_41 rfl rfl ?_
        refine J_iload_n d_Mo_sell_42 rfl rfl ?_
        refine J_iload_n d_Mo_sell_43 rfl rfl ?_
        refine J_callP (xGo_v2 d_Mo_sell_44 xc_Mo_141 rfl rfl rfl) ⟨xq_Mo_has.1, xq_Mo_has.2.1⟩ ⟨Nat.le_of_ble_eq_true rfl, Nat.le_of_ble_eq_true rfl, Nat.le_of_ble_eq_true rfl, Nat.le_of_ble_eq_true rfl⟩ (Nat.le_of_ble_eq_true rfl) (n_has hG (nb_in hb hn c6)) ?_
        refine J_if_eq (tgt := 54) d_Mo_sell_47 (by decide) (fun c47 => ?_) (fun c47 => ?_)
        · skip
          refine J_iconst (v := 3) d_Mo_sell_54 (by decide) ?_
          refine J_put d_Mo_sell_55 xf_Mo_62 xt_Mo (fun _ _ _ h => by cases h; rfl) rfl rfl rfl (Nat.le_of_ble_eq_true rfl) ?_
          refine J_heap (h2 := ch sa sb lt tt lg bc gi go sh bn sc rw dy pt (mh (3) ab be lgm ltm smm bs kd mo dr wa re lom him scm ou sr gim gom shm rwm dym ptm td tw R)) rfl ?_
          refine J_aload_n d_Mo_sell_58 rfl rfl ?_
          refine J_get d_Mo_sell_59 xf_Mo_62 rfl rfl ?_
          refine J_if_le (tgt := 67) d_Mo_sell_62 (by decide) (fun q => absurd q (by decide)) (fun _ => ?_)
          refine J_lconst (v := 0) d_Mo_sell_65 (by decide) ?_
          exact J_lreturn d_Mo_sell_66 rfl (by rw [xif_pos c6, xif_pos ⟨c22, c34⟩, xif_neg (not_not_intro c47)] <;> try rfl)
        · skip
          refine J_iconst (v := 0) d_Mo_sell_50 (by decide) ?_
          refine J_goto (tgt := 55) d_Mo_sell_51 (by decide) ?_
          refine J_put d_Mo_sell_55 xf_Mo_62 xt_Mo (fun _ _ _ h => by cases h; rfl) rfl rfl rfl (Nat.le_of_ble_eq_true rfl) ?_
          refine J_heap (h2 := ch sa sb lt tt lg bc gi go sh bn sc rw dy pt (mh (0) ab be lgm ltm smm bs kd mo dr wa re lom him scm ou sr gim gom shm rwm dym ptm td tw R)) rfl ?_
          refine J_aload_n d_Mo_sell_58 rfl rfl ?_
          refine J_get d_Mo_sell_59 xf_Mo_62 rfl rfl ?_
          refine J_if_le (tgt := 67) d_Mo_sell_62 (by decide) (fun _ => ?_) (fun q => absurd (by decide) q)
          refine J_aload_n d_Mo_sell_67 rfl rfl ?_
          refine J_iload_n d_Mo_sell_68 rfl rfl ?_
          refine J_iload_n d_Mo_sell_69 rfl rfl ?_
          refine J_callW (xGo_v2 d_Mo_sell_70 xc_Mo_144 rfl rfl rfl) ⟨xq_Mo_take.1, xq_Mo_take.2.1⟩ ⟨Nat.le_of_ble_eq_true rfl, Nat.le_of_ble_eq_true rfl, Nat.le_of_ble_eq_true rfl, Nat.le_of_ble_eq_true rfl⟩ (Nat.le_of_ble_eq_true rfl) (n_take hG (nb_in hb hn c6) (hz_of c22 c47)) ?_
          refine J_aload_n d_Mo_sell_73 rfl rfl ?_
          refine J_iload_n d_Mo_sell_74 rfl rfl ?_
          refine J_callW (xGo_v1 d_Mo_sell_75 xc_Mo_148 rfl rfl rfl) ⟨xq_Mo_goes.1, xq_Mo_goes.2.1⟩ ⟨Nat.le_of_ble_eq_true rfl, Nat.le_of_ble_eq_true rfl, Nat.le_of_ble_eq_true rfl, Nat.le_of_ble_eq_true rfl⟩ (Nat.le_of_ble_eq_true rfl) (n_goes hG (nb_in hb hn c6)) ?_
          refine J_aload_n d_Mo_sell_78 rfl rfl ?_
          refine J_get d_Mo_sell_79 xf_Mo_138 rfl rfl ?_
          refine J_iload_n d_Mo_sell_82 rfl rfl ?_
          refine J_i2l d_Mo_sell_83 ?_
          refine J_lmul d_Mo_sell_84 ?_
          refine J_ldc2_w d_Mo_sell_85 xj_Mo_84 ?_
          refine J_ldiv d_Mo_sell_88 (by decide) ?_
          exact J_lreturn d_Mo_sell_89 rfl (by rw [xif_pos c6, xif_pos ⟨c22, c34⟩, xif_pos c47] <;> try rfl)
      · skip
        have c34 := Classical.not_not.mp c34
        refine J_iconst (v := 2) d_Mo_sell_37 (by decide) ?_
        refine J_goto (tgt := 55) d_Mo_sell_38 (by decide) ?_
        refine J_put d_Mo_sell_55 xf_Mo_62 xt_Mo (fun _ _ _ h => by cases h; rfl) rfl rfl rfl (Nat.le_of_ble_eq_true rfl) ?_
        refine J_heap (h2 := ch sa sb lt tt lg bc gi go sh bn sc rw dy pt (mh (2) ab be lgm ltm smm bs kd mo dr wa re lom him scm ou sr gim gom shm rwm dym ptm td tw R)) rfl ?_
        refine J_aload_n d_Mo_sell_58 rfl rfl ?_
        refine J_get d_Mo_sell_59 xf_Mo_62 rfl rfl ?_
        refine J_if_le (tgt := 67) d_Mo_sell_62 (by decide) (fun q => absurd q (by decide)) (fun _ => ?_)
        refine J_lconst (v := 0) d_Mo_sell_65 (by decide) ?_
        exact J_lreturn d_Mo_sell_66 rfl (by rw [xif_pos c6, xif_neg (fun q => by first | exact q.2 c34 | exact c34 q.2)] <;> try rfl)
  · skip
    refine J_iconst (v := 1) d_Mo_sell_9 (by decide) ?_
    refine J_goto (tgt := 55) d_Mo_sell_10 (by decide) ?_
    refine J_put d_Mo_sell_55 xf_Mo_62 xt_Mo (fun _ _ _ h => by cases h; rfl) rfl rfl rfl (Nat.le_of_ble_eq_true rfl) ?_
    refine J_heap (h2 := ch sa sb lt tt lg bc gi go sh bn sc rw dy pt (mh (1) ab be lgm ltm smm bs kd mo dr wa re lom him scm ou sr gim gom shm rwm dym ptm td tw R)) rfl ?_
    refine J_aload_n d_Mo_sell_58 rfl rfl ?_
    refine J_get d_Mo_sell_59 xf_Mo_62 rfl rfl ?_
    refine J_if_le (tgt := 67) d_Mo_sell_62 (by decide) (fun q => absurd q (by decide)) (fun _ => ?_)
    refine J_lconst (v := 0) d_Mo_sell_65 (by decide) ?_
    exact J_lreturn d_Mo_sell_66 rfl (by rw [xif_neg c6] <;> try rfl)
set_option maxHeartbeats 4000000 in
set_option maxRecDepth 100000 in
theorem l_mshift {q : Int32} {nb : Nat} (hG : gTok G) (hb : bs = nI nb) (hn : nb ≤ 8) : ∀ (m i : Nat) (acc : Int64), i + m = nb → JW G Y_Mo_shift (0, 0) 32 [(4, .int (nI i)), (2, .long acc), (0, .ref 22), (1, .int q)] [] (0, ch sa sb lt tt lg bc gi go sh bn sc rw dy pt (mh th ab be lgm ltm smm bs kd mo dr wa re lom him scm ou sr gim gom shm rwm dym ptm td tw R)) (xif (q = 0) (.inl (some (.long (s_ml re dr wa m i acc))), (0, ch sa sb lt tt lg bc gi go sh bn sc rw dy pt (mh th ab be lgm ltm smm bs kd mo dr wa re lom him scm ou sr gim gom shm rwm dym ptm td tw R)), 0, 0) (xif (q = 1) (.inl (some (.long gim)), (0, ch sa sb lt tt lg bc gi go sh bn sc rw dy pt (mh th ab be lgm ltm smm bs kd mo dr wa re lom him scm ou sr gim gom shm rwm dym ptm td tw R)), 0, 0) (xif (q = 2) (.inl (some (.long gom)), (0, ch sa sb lt tt lg bc gi go sh bn sc rw dy pt (mh th ab be lgm ltm smm bs kd mo dr wa re lom him scm ou sr gim gom shm rwm dym ptm td tw R)), 0, 0) (.inl (some (.long shm)), (0, ch sa sb lt tt lg bc gi go sh bn sc rw dy pt (mh th ab be lgm ltm smm bs kd mo dr wa re lom him scm ou sr gim gom shm rwm dym ptm td tw R)), 0, 0)))) := by
  intro m
  induction m with
  | zero =>
    intro i acc hi
    have hi : i = nb := by omega
    subst hi
    refine J_iload d_Mo_shift_32 rfl ?_
    refine J_aload_n d_Mo_shift_34 rfl rfl ?_
    refine J_get d_Mo_shift_35 xf_Mo_66 rfl rfl ?_
    refine J_icmp_ge (tgt := 82) d_Mo_shift_38 (by decide) (fun c38 => ?_) (fun c38 => ?_)
    · skip
      refine J_iload_n d_Mo_shift_82 rfl rfl ?_
      refine J_if_ne (tgt := 90) d_Mo_shift_83 (by decide) (fun c83 => ?_) (fun c83 => ?_)
      · skip
        refine J_iload_n d_Mo_shift_90 rfl rfl ?_
        refine J_iconst (v := 1) d_Mo_shift_91 (by decide) ?_
        refine J_icmp_ne (tgt := 102) d_Mo_shift_92 (by decide) (fun c92 => ?_) (fun c92 => ?_)
        · skip
          refine J_iload_n d_Mo_shift_102 rfl rfl ?_
          refine J_iconst (v := 2) d_Mo_shift_103 (by decide) ?_
          refine J_icmp_ne (tgt := 114) d_Mo_shift_104 (by decide) (fun c104 => ?_) (fun c104 => ?_)
          · skip
            refine J_aload_n d_Mo_shift_114 rfl rfl ?_
            refine J_get d_Mo_shift_115 xf_Mo_125 rfl rfl ?_
            exact J_lreturn d_Mo_shift_118 rfl (by rw [xif_neg c83, xif_neg c92, xif_neg c104] <;> try rfl)
          · skip
            have c104 := Classical.not_not.mp c104
            refine J_aload_n d_Mo_shift_107 rfl rfl ?_
            refine J_get d_Mo_shift_108 xf_Mo_122 rfl rfl ?_
            refine J_goto (tgt := 118) d_Mo_shift_111 (by decide) ?_
            exact J_lreturn d_Mo_shift_118 rfl (by rw [xif_neg c83, xif_neg c92, xif_pos c104] <;> try rfl)
        · skip
          have c92 := Classical.not_not.mp c92
          refine J_aload_n d_Mo_shift_95 rfl rfl ?_
          refine J_get d_Mo_shift_96 xf_Mo_90 rfl rfl ?_
          refine J_goto (tgt := 118) d_Mo_shift_99 (by decide) ?_
          exact J_lreturn d_Mo_shift_118 rfl (by rw [xif_neg c83, xif_pos c92] <;> try rfl)
      · skip
        have c83 := Classical.not_not.mp c83
        refine J_lload_n d_Mo_shift_86 rfl rfl ?_
        refine J_goto (tgt := 118) d_Mo_shift_87 (by decide) ?_
        exact J_lreturn d_Mo_shift_118 rfl (by rw [xif_pos c83] <;> try rfl)
    · skip
      exact absurd (by rw [hb]; exact Int32.le_refl _) c38
  | succ m ih =>
    intro i acc hi
    have hin : i < nb := by omega
    have hi8 : i < 8 := by omega
    refine J_iload d_Mo_shift_32 rfl ?_
    refine J_aload_n d_Mo_shift_34 rfl rfl ?_
    refine J_get d_Mo_shift_35 xf_Mo_66 rfl rfl ?_
    refine J_icmp_ge (tgt := 82) d_Mo_shift_38 (by decide) (fun c38 => ?_) (fun c38 => ?_)
    · skip
      exact absurd c38 (by rw [hb]; exact nI_ge hin (by omega))
    · skip
      refine J_aload_n d_Mo_shift_41 rfl rfl ?_
      refine J_get d_Mo_shift_42 xf_Mo_37 rfl rfl ?_
      refine J_iload d_Mo_shift_45 rfl ?_
      refine J_lald d_Mo_shift_47 (gt1 hG) rfl (vp_in_nI hi8 (by decide)) ?_
      refine J_ldc2_w d_Mo_shift_48 xj_Mo_35 ?_
      refine J_lcmp d_Mo_shift_51 ?_
      refine J_lif_ne (tgt := 59) d_Mo_shift_52 (by decide) (fun c52 => ?_) (fun c52 => ?_)
      · skip
        refine J_lload_n d_Mo_shift_59 rfl rfl ?_
        refine J_aload_n d_Mo_shift_60 rfl rfl ?_
        refine J_iload d_Mo_shift_61 rfl ?_
        refine J_callP (xGo_v1 d_Mo_shift_63 xc_Mo_86 rfl rfl rfl) ⟨xq_Mo_all.1, xq_Mo_all.2.1⟩ ⟨Nat.le_of_ble_eq_true rfl, Nat.le_of_ble_eq_true rfl, Nat.le_of_ble_eq_true rfl, Nat.le_of_ble_eq_true rfl⟩ (Nat.le_of_ble_eq_true rfl) (n_all hG (vp_in_nI hi8 (by decide))) ?_
        refine J_ladd d_Mo_shift_66 ?_
        refine J_aload_n d_Mo_shift_67 rfl rfl ?_
        refine J_get d_Mo_shift_68 xf_Mo_37 rfl rfl ?_
        refine J_iload d_Mo_shift_71 rfl ?_
        refine J_lald d_Mo_shift_73 (gt1 hG) rfl (vp_in_nI hi8 (by decide)) ?_
        refine J_lsub d_Mo_shift_74 ?_
        refine J_lstore_n d_Mo_shift_75 rfl (by decide) ?_
        refine J_iinc (v := nI (i + 1)) d_Mo_shift_76 rfl (nI_1 i) (by decide) ?_
        refine J_goto (tgt := 32) d_Mo_shift_79 (by decide) ?_
        refine J_loc (L2 := [(4, .int (nI (i + 1))), (2, .long (acc + s_al dr wa (nI i) - re (nI i).toNatClampNeg)), (0, .ref 22), (1, .int q)]) rfl ?_
        refine J_res (r2 := (xif (q = 0) (.inl (some (.long (s_ml re dr wa m (i + 1) (acc + s_al dr wa (nI i) - re (nI i).toNatClampNeg)))), (0, ch sa sb lt tt lg bc gi go sh bn sc rw dy pt (mh th ab be lgm ltm smm bs kd mo dr wa re lom him scm ou sr gim gom shm rwm dym ptm td tw R)), 0, 0) (xif (q = 1) (.inl (some (.long gim)), (0, ch sa sb lt tt lg bc gi go sh bn sc rw dy pt (mh th ab be lgm ltm smm bs kd mo dr wa re lom him scm ou sr gim gom shm rwm dym ptm td tw R)), 0, 0) (xif (q = 2) (.inl (some (.long gom)), (0, ch sa sb lt tt lg bc gi go sh bn sc rw dy pt (mh th ab be lgm ltm smm bs kd mo dr wa re lom him scm ou sr gim gom shm rwm dym ptm td tw R)), 0, 0) (.inl (some (.long shm)), (0, ch sa sb lt tt lg bc gi go sh bn sc rw dy pt (mh th ab be lgm ltm smm bs kd mo dr wa re lom him scm ou sr gim gom shm rwm dym ptm td tw R)), 0, 0))))) (by simp only [s_ml, c52, if_true, if_false]) ?_
        exact ih (i + 1) _ (by omega)
      · skip
        refine J_lload_n d_Mo_shift_55 rfl rfl ?_
        refine J_goto (tgt := 75) d_Mo_shift_56 (by decide) ?_
        refine J_lstore_n d_Mo_shift_75 rfl (by decide) ?_
        refine J_iinc (v := nI (i + 1)) d_Mo_shift_76 rfl (nI_1 i) (by decide) ?_
        refine J_goto (tgt := 32) d_Mo_shift_79 (by decide) ?_
        refine J_loc (L2 := [(4, .int (nI (i + 1))), (2, .long acc), (0, .ref 22), (1, .int q)]) rfl ?_
        refine J_res (r2 := (xif (q = 0) (.inl (some (.long (s_ml re dr wa m (i + 1) acc))), (0, ch sa sb lt tt lg bc gi go sh bn sc rw dy pt (mh th ab be lgm ltm smm bs kd mo dr wa re lom him scm ou sr gim gom shm rwm dym ptm td tw R)), 0, 0) (xif (q = 1) (.inl (some (.long gim)), (0, ch sa sb lt tt lg bc gi go sh bn sc rw dy pt (mh th ab be lgm ltm smm bs kd mo dr wa re lom him scm ou sr gim gom shm rwm dym ptm td tw R)), 0, 0) (xif (q = 2) (.inl (some (.long gom)), (0, ch sa sb lt tt lg bc gi go sh bn sc rw dy pt (mh th ab be lgm ltm smm bs kd mo dr wa re lom him scm ou sr gim gom shm rwm dym ptm td tw R)), 0, 0) (.inl (some (.long shm)), (0, ch sa sb lt tt lg bc gi go sh bn sc rw dy pt (mh th ab be lgm ltm smm bs kd mo dr wa re lom him scm ou sr gim gom shm rwm dym ptm td tw R)), 0, 0))))) (by simp only [s_ml, c52, if_true, if_false]) ?_
        exact ih (i + 1) _ (by omega)
set_option maxHeartbeats 4000000 in
set_option maxRecDepth 100000 in
theorem n_shift {q : Int32} (hG : gTok G) {nb : Nat} (hb : bs = nI nb) (hn : nb ≤ 8) : XM G Y_Mo_shift [.ref 22, .int q] (1, ch sa sb lt tt lg bc gi go sh bn sc rw dy pt (mh th ab be lgm ltm smm bs kd mo dr wa re lom him scm ou sr gim gom shm rwm dym ptm td tw R)) (xif (¬ q < 0 ∧ q ≤ 3) (xif (q = 0) (.inl (some (.long (s_ml re dr wa nb 0 0))), (0, ch sa sb lt tt lg bc gi go sh bn sc rw dy pt (mh (0) ab be lgm ltm smm bs kd mo dr wa re lom him scm ou sr gim gom shm rwm dym ptm td tw R)), 0, 0) (xif (q = 1) (.inl (some (.long gim)), (0, ch sa sb lt tt lg bc gi go sh bn sc rw dy pt (mh (0) ab be lgm ltm smm bs kd mo dr wa re lom him scm ou sr gim gom shm rwm dym ptm td tw R)), 0, 0) (xif (q = 2) (.inl (some (.long gom)), (0, ch sa sb lt tt lg bc gi go sh bn sc rw dy pt (mh (0) ab be lgm ltm smm bs kd mo dr wa re lom him scm ou sr gim gom shm rwm dym ptm td tw R)), 0, 0) (.inl (some (.long shm)), (0, ch sa sb lt tt lg bc gi go sh bn sc rw dy pt (mh (0) ab be lgm ltm smm bs kd mo dr wa re lom him scm ou sr gim gom shm rwm dym ptm td tw R)), 0, 0)))) (.inl (some (.long 0)), (0, ch sa sb lt tt lg bc gi go sh bn sc rw dy pt (mh (1) ab be lgm ltm smm bs kd mo dr wa re lom him scm ou sr gim gom shm rwm dym ptm td tw R)), 0, 0)) := by
  refine XM_of (by decide +kernel) (Nat.le_of_ble_eq_true rfl) (Or.inl rfl) ?_
  refine J_aload_n d_Mo_shift_0 rfl rfl ?_
  refine J_iload_n d_Mo_shift_1 rfl rfl ?_
  refine J_if_lt (tgt := 10) d_Mo_shift_2 (by decide) (fun c2 => ?_) (fun c2 => ?_)
  · skip
    refine J_iconst (v := 1) d_Mo_shift_10 (by decide) ?_
    refine J_goto (tgt := 15) d_Mo_shift_11 (by decide) ?_
    refine J_put d_Mo_shift_15 xf_Mo_62 xt_Mo (fun _ _ _ h => by cases h; rfl) rfl rfl rfl (Nat.le_of_ble_eq_true rfl) ?_
    refine J_heap (h2 := ch sa sb lt tt lg bc gi go sh bn sc rw dy pt (mh (1) ab be lgm ltm smm bs kd mo dr wa re lom him scm ou sr gim gom shm rwm dym ptm td tw R)) rfl ?_
    refine J_aload_n d_Mo_shift_18 rfl rfl ?_
    refine J_get d_Mo_shift_19 xf_Mo_62 rfl rfl ?_
    refine J_if_le (tgt := 27) d_Mo_shift_22 (by decide) (fun q => absurd q (by decide)) (fun _ => ?_)
    refine J_lconst (v := 0) d_Mo_shift_25 (by decide) ?_
    exact J_lreturn d_Mo_shift_26 rfl (by rw [xif_neg (fun q => by first | exact q.1 c2 | exact c2 q.1)] <;> try rfl)
  · skip
    refine J_iload_n d_Mo_shift_5 rfl rfl ?_
    refine J_iconst (v := 3) d_Mo_shift_6 (by decide) ?_
    refine J_icmp_le (tgt := 14) d_Mo_shift_7 (by decide) (fun c7 => ?_) (fun c7 => ?_)
    · skip
      refine J_iconst (v := 0) d_Mo_shift_14 (by decide) ?_
      refine J_put d_Mo_shift_15 xf_Mo_62 xt_Mo (fun _ _ _ h => by cases h; rfl) rfl rfl rfl (Nat.le_of_ble_eq_true rfl) ?_
      refine J_heap (h2 := ch sa sb lt tt lg bc gi go sh bn sc rw dy pt (mh (0) ab be lgm ltm smm bs kd mo dr wa re lom him scm ou sr gim gom shm rwm dym ptm td tw R)) rfl ?_
      refine J_aload_n d_Mo_shift_18 rfl rfl ?_
      refine J_get d_Mo_shift_19 xf_Mo_62 rfl rfl ?_
      refine J_if_le (tgt := 27) d_Mo_shift_22 (by decide) (fun _ => ?_) (fun q => absurd (by decide) q)
      refine J_lconst (v := 0) d_Mo_shift_27 (by decide) ?_
      refine J_lstore_n d_Mo_shift_28 rfl (by decide) ?_
      refine J_iconst (v := 0) d_Mo_shift_29 (by decide) ?_
      refine J_istore d_Mo_shift_30 (by decide) ?_
      exact J_res (xif_pos (P := ¬ q < 0 ∧ q ≤ 3) ⟨c2, c7⟩).symm (J_loc rfl (l_mshift hG hb hn nb 0 0 (Nat.zero_add nb)))
    · skip
      refine J_iconst (v := 1) d_Mo_shift_10 (by decide) ?_
      refine J_goto (tgt := 15) d_Mo_shift_11 (by decide) ?_
      refine J_put d_Mo_shift_15 xf_Mo_62 xt_Mo (fun _ _ _ h => by cases h; rfl) rfl rfl rfl (Nat.le_of_ble_eq_true rfl) ?_
      refine J_heap (h2 := ch sa sb lt tt lg bc gi go sh bn sc rw dy pt (mh (1) ab be lgm ltm smm bs kd mo dr wa re lom him scm ou sr gim gom shm rwm dym ptm td tw R)) rfl ?_
      refine J_aload_n d_Mo_shift_18 rfl rfl ?_
      refine J_get d_Mo_shift_19 xf_Mo_62 rfl rfl ?_
      refine J_if_le (tgt := 27) d_Mo_shift_22 (by decide) (fun q => absurd q (by decide)) (fun _ => ?_)
      refine J_lconst (v := 0) d_Mo_shift_25 (by decide) ?_
      exact J_lreturn d_Mo_shift_26 rfl (by rw [xif_neg (fun q => by first | exact q.2 c7 | exact c7 q.2)] <;> try rfl)
set_option maxHeartbeats 4000000 in
set_option maxRecDepth 100000 in
theorem l_mcarbon {nb : Nat} (hG : gTok G) (hb : bs = nI nb) (hn : nb ≤ 8) : ∀ (m i : Nat) (acc : Int64), i + m = nb → JW G Y_Mo_carbon (0, 0) 9 [(3, .int (nI i)), (1, .long acc), (0, .ref 22)] [] (0, ch sa sb lt tt lg bc gi go sh bn sc rw dy pt (mh th ab be lgm ltm smm bs kd mo dr wa re lom him scm ou sr gim gom shm rwm dym ptm td tw R)) (.inl (some (.long (s_mu dr m i acc / 2))), (0, ch sa sb lt tt lg bc gi go sh bn sc rw dy pt (mh th ab be lgm ltm smm bs kd mo dr wa re lom him scm ou sr gim gom shm rwm dym ptm td tw R)), 0, 0) := by
  intro m
  induction m with
  | zero =>
    intro i acc hi
    have hi : i = nb := by omega
    subst hi
    refine J_iload_n d_Mo_carbon_9 rfl rfl ?_
    refine J_aload_n d_Mo_carbon_10 rfl rfl ?_
    refine J_get d_Mo_carbon_11 xf_Mo_66 rfl rfl ?_
    refine J_icmp_ge (tgt := 32) d_Mo_carbon_14 (by decide) (fun c14 => ?_) (fun c14 => ?_)
    · skip
      refine J_lload_n d_Mo_carbon_32 rfl rfl ?_
      refine J_ldc2_w d_Mo_carbon_33 xj_Mo_158 ?_
      refine J_ldiv d_Mo_carbon_36 (by decide) ?_
      exact J_lreturn d_Mo_carbon_37 rfl rfl
    · skip
      exact absurd (by rw [hb]; exact Int32.le_refl _) c14
  | succ m ih =>
    intro i acc hi
    have hin : i < nb := by omega
    have hi8 : i < 8 := by omega
    refine J_iload_n d_Mo_carbon_9 rfl rfl ?_
    refine J_aload_n d_Mo_carbon_10 rfl rfl ?_
    refine J_get d_Mo_carbon_11 xf_Mo_66 rfl rfl ?_
    refine J_icmp_ge (tgt := 32) d_Mo_carbon_14 (by decide) (fun c14 => ?_) (fun c14 => ?_)
    · skip
      exact absurd c14 (by rw [hb]; exact nI_ge hin (by omega))
    · skip
      refine J_lload_n d_Mo_carbon_17 rfl rfl ?_
      refine J_aload_n d_Mo_carbon_18 rfl rfl ?_
      refine J_get d_Mo_carbon_19 xf_Mo_29 rfl rfl ?_
      refine J_iload_n d_Mo_carbon_22 rfl rfl ?_
      refine J_lald d_Mo_carbon_23 (gt1 hG) rfl (vp_in_nI hi8 (by decide)) ?_
      refine J_ladd d_Mo_carbon_24 ?_
      refine J_lstore_n d_Mo_carbon_25 rfl (by decide) ?_
      refine J_iinc (v := nI (i + 1)) d_Mo_carbon_26 rfl (nI_1 i) (by decide) ?_
      refine J_goto (tgt := 9) d_Mo_carbon_29 (by decide) ?_
      refine J_loc (L2 := [(3, .int (nI (i + 1))), (1, .long (acc + dr (nI i).toNatClampNeg)), (0, .ref 22)]) rfl ?_
      exact ih (i + 1) _ (by omega)
set_option maxHeartbeats 4000000 in
set_option maxRecDepth 100000 in
theorem n_carbon (hG : gTok G) {nb : Nat} (hb : bs = nI nb) (hn : nb ≤ 8) : XM G Y_Mo_carbon [.ref 22] (1, ch sa sb lt tt lg bc gi go sh bn sc rw dy pt (mh th ab be lgm ltm smm bs kd mo dr wa re lom him scm ou sr gim gom shm rwm dym ptm td tw R)) (.inl (some (.long (s_mu dr nb 0 0 / 2))), (0, ch sa sb lt tt lg bc gi go sh bn sc rw dy pt (mh (0) ab be lgm ltm smm bs kd mo dr wa re lom him scm ou sr gim gom shm rwm dym ptm td tw R)), 0, 0) := by
  refine XM_of (by decide +kernel) (Nat.le_of_ble_eq_true rfl) (Or.inl rfl) ?_
  refine J_aload_n d_Mo_carbon_0 rfl rfl ?_
  refine J_iconst (v := 0) d_Mo_carbon_1 (by decide) ?_
  refine J_put d_Mo_carbon_2 xf_Mo_62 xt_Mo (fun _ _ _ h => by cases h; rfl) rfl rfl rfl (Nat.le_of_ble_eq_true rfl) ?_
  refine J_lconst (v := 0) d_Mo_carbon_5 (by decide) ?_
  refine J_lstore_n d_Mo_carbon_6 rfl (by decide) ?_
  refine J_iconst (v := 0) d_Mo_carbon_7 (by decide) ?_
  refine J_istore_n d_Mo_carbon_8 rfl (by decide) ?_
  exact J_heap (h2 := ch sa sb lt tt lg bc gi go sh bn sc rw dy pt (mh (0) ab be lgm ltm smm bs kd mo dr wa re lom him scm ou sr gim gom shm rwm dym ptm td tw R)) rfl (J_loc rfl (l_mcarbon hG hb hn nb 0 0 (Nat.zero_add nb)))
end XM3
