section XC2
theorem vf_us {α : Type} {f : Nat → α} {k : Nat} {x : α} : vf_upd f k x k = x := if_pos rfl
theorem vf_un {α : Type} {f : Nat → α} {k j : Nat} {x : α} (h : ¬ j = k) : vf_upd f k x j = f j := if_neg h
theorem vf_uu {α : Type} {f : Nat → α} {k : Nat} {x z : α} : vf_upd (vf_upd f k x) k z = vf_upd f k z := by
  funext j
  unfold vf_upd
  by_cases h : j = k <;> simp [h]
theorem J_heap {G : xG} {y : xY} {k : Nat × Nat} {pc : Nat} {L : List (Nat × Value)} {st : List Value} {w : xH} {r : xR} {h2 : List va_E} (e : w.2 = h2) (h : JW G y k pc L st (w.1, h2) r) : JW G y k pc L st w r := by
  subst e
  exact h
variable {G : xG} {sa sb : Int32 × Int32} {lt tt : cP} {lg bc : Int32} {gi go : Int64} {sh : Int32} {bn : Nat → cB} {sc : Nat → cS} {rw : Int32} {dy pt : Nat → Int32} {R : List va_E}
set_option maxHeartbeats 4000000 in
set_option maxRecDepth 100000 in
theorem m_share {t a b : Int32} : XM G Y_RF_share [.ref 0, .int t, .int a, .int b] (1, ch sa sb lt tt lg bc gi go sh bn sc rw dy pt R) (xif (¬ t < 0 ∧ t ≤ 1) (xif (¬ b < 1 ∧ ¬ 10 < b ∧ ¬ a < 0 ∧ a ≤ b) (xif (t = 0) (.inl (none), (0, ch ((a, b)) sb lt tt lg bc gi go sh bn sc rw dy pt R), 0, 0) (.inl (none), (0, ch sa ((a, b)) lt tt lg bc gi go sh bn sc rw dy pt R), 0, 0)) (.inr "java/lang/IllegalArgumentException", (0, ch sa sb lt tt lg bc gi go sh bn sc rw dy pt R), 1, 6)) (.inr "java/lang/IndexOutOfBoundsException", (0, ch sa sb lt tt lg bc gi go sh bn sc rw dy pt R), 1, 6)) := by
  refine XM_of (by decide +kernel) (Nat.le_of_ble_eq_true rfl) (Or.inl rfl) ?_
  refine J_iload_n d_RF_share_0 rfl rfl ?_
  refine J_if_lt (tgt := 9) d_RF_share_1 (by decide) (fun c1 => ?_) (fun c1 => ?_)
  · skip
    exact J_throw xh_RF_52 xs_RF_54 ⟨Nat.le_of_ble_eq_true rfl, Nat.le_of_ble_eq_true rfl, Nat.le_of_ble_eq_true rfl, Nat.le_of_ble_eq_true rfl⟩ rfl d_RF_share_9 d_RF_share_12 d_RF_share_13 d_RF_share_15 d_RF_share_18 rfl rfl (by simp only [xif, c1, Classical.not_not, if_true, if_false, not_true_eq_false, not_false_eq_true, and_true, true_and, and_false, false_and, or_true, true_or, or_false, false_or, and_self, or_self] <;> rfl)
  · skip
    refine J_iload_n d_RF_share_4 rfl rfl ?_
    refine J_iconst (v := 1) d_RF_share_5 (by decide) ?_
    refine J_icmp_le (tgt := 19) d_RF_share_6 (by decide) (fun c6 => ?_) (fun c6 => ?_)
    · skip
      refine J_iload_n d_RF_share_19 rfl rfl ?_
      refine J_iconst (v := 1) d_RF_share_20 (by decide) ?_
      refine J_icmp_lt (tgt := 39) d_RF_share_21 (by decide) (fun c21 => ?_) (fun c21 => ?_)
      · skip
        exact J_throw xh_RF_59 xs_RF_61 ⟨Nat.le_of_ble_eq_true rfl, Nat.le_of_ble_eq_true rfl, Nat.le_of_ble_eq_true rfl, Nat.le_of_ble_eq_true rfl⟩ rfl d_RF_share_39 d_RF_share_42 d_RF_share_43 d_RF_share_45 d_RF_share_48 rfl rfl (by simp only [xif, c1, c6, c21, Classical.not_not, if_true, if_false, not_true_eq_false, not_false_eq_true, and_true, true_and, and_false, false_and, or_true, true_or, or_false, false_or, and_self, or_self] <;> rfl)
      · skip
        refine J_iload_n d_RF_share_24 rfl rfl ?_
        refine J_bipush (v := 10) d_RF_share_25 (by decide) ?_
        refine J_icmp_gt (tgt := 39) d_RF_share_27 (by decide) (fun c27 => ?_) (fun c27 => ?_)
        · skip
          exact J_throw xh_RF_59 xs_RF_61 ⟨Nat.le_of_ble_eq_true rfl, Nat.le_of_ble_eq_true rfl, Nat.le_of_ble_eq_true rfl, Nat.le_of_ble_eq_true rfl⟩ rfl d_RF_share_39 d_RF_share_42 d_RF_share_43 d_RF_share_45 d_RF_share_48 rfl rfl (by simp only [xif, c1, c6, c21, c27, Classical.not_not, if_true, if_false, not_true_eq_false, not_false_eq_true, and_true, true_and, and_false, false_and, or_true, true_or, or_false, false_or, and_self, or_self] <;> rfl)
        · skip
          refine J_iload_n d_RF_share_30 rfl rfl ?_
          refine J_if_lt (tgt := 39) d_RF_share_31 (by decide) (fun c31 => ?_) (fun c31 => ?_)
          · skip
            exact J_throw xh_RF_59 xs_RF_61 ⟨Nat.le_of_ble_eq_true rfl, Nat.le_of_ble_eq_true rfl, Nat.le_of_ble_eq_true rfl, Nat.le_of_ble_eq_true rfl⟩ rfl d_RF_share_39 d_RF_share_42 d_RF_share_43 d_RF_share_45 d_RF_share_48 rfl rfl (by simp only [xif, c1, c6, c21, c27, c31, Classical.not_not, if_true, if_false, not_true_eq_false, not_false_eq_true, and_true, true_and, and_false, false_and, or_true, true_or, or_false, false_or, and_self, or_self] <;> rfl)
          · skip
            refine J_iload_n d_RF_share_34 rfl rfl ?_
            refine J_iload_n d_RF_share_35 rfl rfl ?_
            refine J_icmp_le (tgt := 49) d_RF_share_36 (by decide) (fun c36 => ?_) (fun c36 => ?_)
            · skip
              refine J_iload_n d_RF_share_49 rfl rfl ?_
              refine J_if_ne (tgt := 60) d_RF_share_50 (by decide) (fun c50 => ?_) (fun c50 => ?_)
              · skip
                refine J_aload_n d_RF_share_60 rfl rfl ?_
                refine J_get d_RF_share_61 xf_RF_18 rfl rfl ?_
                refine J_astore d_RF_share_64 (by decide) ?_
                refine J_aload d_RF_share_66 rfl ?_
                refine J_iload_n d_RF_share_68 rfl rfl ?_
                refine J_put d_RF_share_69 xf_RF_64 xt_Sh (fun _ _ _ h => by cases h; rfl) rfl rfl rfl (Nat.le_of_ble_eq_true rfl) ?_
                refine J_aload d_RF_share_72 rfl ?_
                refine J_iload_n d_RF_share_74 rfl rfl ?_
                refine J_put d_RF_share_75 xf_RF_68 xt_Sh (fun _ _ _ h => by cases h; rfl) rfl rfl rfl (Nat.le_of_ble_eq_true rfl) ?_
                exact J_return d_RF_share_78 rfl (by simp only [xif, c1, c6, c21, c27, c31, c36, c50, Classical.not_not, if_true, if_false, not_true_eq_false, not_false_eq_true, and_true, true_and, and_false, false_and, or_true, true_or, or_false, false_or, and_self, or_self] <;> rfl)
              · skip
                have c50 := Classical.not_not.mp c50
                refine J_aload_n d_RF_share_53 rfl rfl ?_
                refine J_get d_RF_share_54 xf_RF_12 rfl rfl ?_
                refine J_goto (tgt := 64) d_RF_share_57 (by decide) ?_
                refine J_astore d_RF_share_64 (by decide) ?_
                refine J_aload d_RF_share_66 rfl ?_
                refine J_iload_n d_RF_share_68 rfl rfl ?_
                refine J_put d_RF_share_69 xf_RF_64 xt_Sh (fun _ _ _ h => by cases h; rfl) rfl rfl rfl (Nat.le_of_ble_eq_true rfl) ?_
                refine J_aload d_RF_share_72 rfl ?_
                refine J_iload_n d_RF_share_74 rfl rfl ?_
                refine J_put d_RF_share_75 xf_RF_68 xt_Sh (fun _ _ _ h => by cases h; rfl) rfl rfl rfl (Nat.le_of_ble_eq_true rfl) ?_
                exact J_return d_RF_share_78 rfl (by simp only [xif, c1, c6, c21, c27, c31, c36, c50, Classical.not_not, if_true, if_false, not_true_eq_false, not_false_eq_true, and_true, true_and, and_false, false_and, or_true, true_or, or_false, false_or, and_self, or_self] <;> rfl)
            · skip
              exact J_throw xh_RF_59 xs_RF_61 ⟨Nat.le_of_ble_eq_true rfl, Nat.le_of_ble_eq_true rfl, Nat.le_of_ble_eq_true rfl, Nat.le_of_ble_eq_true rfl⟩ rfl d_RF_share_39 d_RF_share_42 d_RF_share_43 d_RF_share_45 d_RF_share_48 rfl rfl (by simp only [xif, c1, c6, c21, c27, c31, c36, Classical.not_not, if_true, if_false, not_true_eq_false, not_false_eq_true, and_true, true_and, and_false, false_and, or_true, true_or, or_false, false_or, and_self, or_self] <;> rfl)
    · skip
      exact J_throw xh_RF_52 xs_RF_54 ⟨Nat.le_of_ble_eq_true rfl, Nat.le_of_ble_eq_true rfl, Nat.le_of_ble_eq_true rfl, Nat.le_of_ble_eq_true rfl⟩ rfl d_RF_share_9 d_RF_share_12 d_RF_share_13 d_RF_share_15 d_RF_share_18 rfl rfl (by simp only [xif, c1, c6, Classical.not_not, if_true, if_false, not_true_eq_false, not_false_eq_true, and_true, true_and, and_false, false_and, or_true, true_or, or_false, false_or, and_self, or_self] <;> rfl)
def s_lw (v : Int32) : Int64 := v.toInt64 * 63504000
def s_lb (sa : Int32 × Int32) (v : Int32) : Int64 := s_po (s_lw v) sa.1.toInt64 sa.2.toInt64
def s_ll (sa : Int32 × Int32) (v b k : Int32) : Int64 := s_lw v - s_lb sa v - b.toInt64 * 25200 - k.toInt64 * 25200
def s_lp (sa sb : Int32 × Int32) (v b k : Int32) : cP := (s_lb sa v, s_ll sa v b k - s_po (s_ll sa v b k) sb.1.toInt64 sb.2.toInt64, k.toInt64 * 25200, s_po (s_ll sa v b k) sb.1.toInt64 sb.2.toInt64, b.toInt64 * 25200)
def s_pa (a b : cP) : cP := (a.1 + b.1, a.2.1 + b.2.1, a.2.2.1 + b.2.2.1, a.2.2.2.1 + b.2.2.2.1, a.2.2.2.2 + b.2.2.2.2)
set_option maxHeartbeats 4000000 in
set_option maxRecDepth 100000 in
theorem m_Pa_add : XM G Y_Pa_add [.ref 4, .ref 3] (1, ch sa sb lt tt lg bc gi go sh bn sc rw dy pt R) (.inl (none), (0, ch sa sb lt (s_pa tt lt) lg bc gi go sh bn sc rw dy pt R), 0, 0) := by
  refine XM_of (by decide +kernel) (Nat.le_of_ble_eq_true rfl) (Or.inl rfl) ?_
  refine J_aload_n d_Pa_add_0 rfl rfl ?_
  refine J_dup d_Pa_add_1 ?_
  refine J_get d_Pa_add_2 xf_Pa_9 rfl rfl ?_
  refine J_aload_n d_Pa_add_5 rfl rfl ?_
  refine J_get d_Pa_add_6 xf_Pa_9 rfl rfl ?_
  refine J_ladd d_Pa_add_9 ?_
  refine J_put d_Pa_add_10 xf_Pa_9 xt_Pa (fun _ _ _ h => by cases h; rfl) rfl rfl rfl (Nat.le_of_ble_eq_true rfl) ?_
  refine J_aload_n d_Pa_add_13 rfl rfl ?_
  refine J_dup d_Pa_add_14 ?_
  refine J_get d_Pa_add_15 xf_Pa_15 rfl rfl ?_
  refine J_aload_n d_Pa_add_18 rfl rfl ?_
  refine J_get d_Pa_add_19 xf_Pa_15 rfl rfl ?_
  refine J_ladd d_Pa_add_22 ?_
  refine J_put d_Pa_add_23 xf_Pa_15 xt_Pa (fun _ _ _ h => by cases h; rfl) rfl rfl rfl (Nat.le_of_ble_eq_true rfl) ?_
  refine J_aload_n d_Pa_add_26 rfl rfl ?_
  refine J_dup d_Pa_add_27 ?_
  refine J_get d_Pa_add_28 xf_Pa_18 rfl rfl ?_
  refine J_aload_n d_Pa_add_31 rfl rfl ?_
  refine J_get d_Pa_add_32 xf_Pa_18 rfl rfl ?_
  refine J_ladd d_Pa_add_35 ?_
  refine J_put d_Pa_add_36 xf_Pa_18 xt_Pa (fun _ _ _ h => by cases h; rfl) rfl rfl rfl (Nat.le_of_ble_eq_true rfl) ?_
  refine J_aload_n d_Pa_add_39 rfl rfl ?_
  refine J_dup d_Pa_add_40 ?_
  refine J_get d_Pa_add_41 xf_Pa_21 rfl rfl ?_
  refine J_aload_n d_Pa_add_44 rfl rfl ?_
  refine J_get d_Pa_add_45 xf_Pa_21 rfl rfl ?_
  refine J_ladd d_Pa_add_48 ?_
  refine J_put d_Pa_add_49 xf_Pa_21 xt_Pa (fun _ _ _ h => by cases h; rfl) rfl rfl rfl (Nat.le_of_ble_eq_true rfl) ?_
  refine J_aload_n d_Pa_add_52 rfl rfl ?_
  refine J_dup d_Pa_add_53 ?_
  refine J_get d_Pa_add_54 xf_Pa_24 rfl rfl ?_
  refine J_aload_n d_Pa_add_57 rfl rfl ?_
  refine J_get d_Pa_add_58 xf_Pa_24 rfl rfl ?_
  refine J_ladd d_Pa_add_61 ?_
  refine J_put d_Pa_add_62 xf_Pa_24 xt_Pa (fun _ _ _ h => by cases h; rfl) rfl rfl rfl (Nat.le_of_ble_eq_true rfl) ?_
  exact J_return d_Pa_add_65 rfl rfl
set_option maxHeartbeats 4000000 in
set_option maxRecDepth 100000 in
theorem m_log {v b k : Int32} : XM G Y_RF_log [.ref 0, .int v, .int b, .int k] (1, ch sa sb lt tt lg bc gi go sh bn sc rw dy pt R) (xif (¬ v < 1 ∧ ¬ 1000 < v ∧ ¬ b < 0 ∧ 0 ≤ k) (xif (0 ≤ s_ll sa v b k) (.inl (some (.int lg)), (0, ch sa sb (s_lp sa sb v b k) (s_pa tt (s_lp sa sb v b k)) (lg + 1) bc gi go sh bn sc rw dy pt R), 0, 0) (.inr "java/lang/IllegalArgumentException", (0, ch sa sb lt tt lg bc gi go sh bn sc rw dy pt R), 1, 6)) (.inr "java/lang/IllegalArgumentException", (0, ch sa sb lt tt lg bc gi go sh bn sc rw dy pt R), 1, 6)) := by
  refine XM_of (by decide +kernel) (Nat.le_of_ble_eq_true rfl) (Or.inl rfl) ?_
  refine J_iload_n d_RF_log_0 rfl rfl ?_
  refine J_iconst (v := 1) d_RF_log_1 (by decide) ?_
  refine J_icmp_lt (tgt := 20) d_RF_log_2 (by decide) (fun c2 => ?_) (fun c2 => ?_)
  · skip
    exact J_throw xh_RF_59 xs_RF_71 ⟨Nat.le_of_ble_eq_true rfl, Nat.le_of_ble_eq_true rfl, Nat.le_of_ble_eq_true rfl, Nat.le_of_ble_eq_true rfl⟩ rfl d_RF_log_20 d_RF_log_23 d_RF_log_24 d_RF_log_26 d_RF_log_29 rfl rfl (by simp only [xif, c2, Classical.not_not, if_true, if_false, not_true_eq_false, not_false_eq_true, and_true, true_and, and_false, false_and, or_true, true_or, or_false, false_or, and_self, or_self] <;> rfl)
  · skip
    refine J_iload_n d_RF_log_5 rfl rfl ?_
    refine J_sipush (v := 1000) d_RF_log_6 (by decide) ?_
    refine J_icmp_gt (tgt := 20) d_RF_log_9 (by decide) (fun c9 => ?_) (fun c9 => ?_)
    · skip
      exact J_throw xh_RF_59 xs_RF_71 ⟨Nat.le_of_ble_eq_true rfl, Nat.le_of_ble_eq_true rfl, Nat.le_of_ble_eq_true rfl, Nat.le_of_ble_eq_true rfl⟩ rfl d_RF_log_20 d_RF_log_23 d_RF_log_24 d_RF_log_26 d_RF_log_29 rfl rfl (by simp only [xif, c2, c9, Classical.not_not, if_true, if_false, not_true_eq_false, not_false_eq_true, and_true, true_and, and_false, false_and, or_true, true_or, or_false, false_or, and_self, or_self] <;> rfl)
    · skip
      refine J_iload_n d_RF_log_12 rfl rfl ?_
      refine J_if_lt (tgt := 20) d_RF_log_13 (by decide) (fun c13 => ?_) (fun c13 => ?_)
      · skip
        exact J_throw xh_RF_59 xs_RF_71 ⟨Nat.le_of_ble_eq_true rfl, Nat.le_of_ble_eq_true rfl, Nat.le_of_ble_eq_true rfl, Nat.le_of_ble_eq_true rfl⟩ rfl d_RF_log_20 d_RF_log_23 d_RF_log_24 d_RF_log_26 d_RF_log_29 rfl rfl (by simp only [xif, c2, c9, c13, Classical.not_not, if_true, if_false, not_true_eq_false, not_false_eq_true, and_true, true_and, and_false, false_and, or_true, true_or, or_false, false_or, and_self, or_self] <;> rfl)
      · skip
        refine J_iload_n d_RF_log_16 rfl rfl ?_
        refine J_if_ge (tgt := 30) d_RF_log_17 (by decide) (fun c17 => ?_) (fun c17 => ?_)
        · skip
          refine J_iload_n d_RF_log_30 rfl rfl ?_
          refine J_i2l d_RF_log_31 ?_
          refine J_ldc2_w d_RF_log_32 xj_RF_73 ?_
          refine J_lmul d_RF_log_35 ?_
          refine J_lstore d_RF_log_36 (by decide) ?_
          refine J_aload_n d_RF_log_38 rfl rfl ?_
          refine J_get d_RF_log_39 xf_RF_12 rfl rfl ?_
          refine J_lload d_RF_log_42 rfl ?_
          refine J_callP (xGo_v1 d_RF_log_44 xc_RF_75 rfl rfl rfl) ⟨xq_Sh_of.1, xq_Sh_of.2.1⟩ ⟨Nat.le_of_ble_eq_true rfl, Nat.le_of_ble_eq_true rfl, Nat.le_of_ble_eq_true rfl, Nat.le_of_ble_eq_true rfl⟩ (Nat.le_of_ble_eq_true rfl) (m_Sh_of rfl) ?_
          refine J_lstore d_RF_log_47 (by decide) ?_
          refine J_iload_n d_RF_log_49 rfl rfl ?_
          refine J_i2l d_RF_log_50 ?_
          refine J_ldc2_w d_RF_log_51 xj_RF_79 ?_
          refine J_lmul d_RF_log_54 ?_
          refine J_lstore d_RF_log_55 (by decide) ?_
          refine J_iload_n d_RF_log_57 rfl rfl ?_
          refine J_i2l d_RF_log_58 ?_
          refine J_ldc2_w d_RF_log_59 xj_RF_79 ?_
          refine J_lmul d_RF_log_62 ?_
          refine J_lstore d_RF_log_63 (by decide) ?_
          refine J_lload d_RF_log_65 rfl ?_
          refine J_lload d_RF_log_67 rfl ?_
          refine J_lsub d_RF_log_69 ?_
          refine J_lload d_RF_log_70 rfl ?_
          refine J_lsub d_RF_log_72 ?_
          refine J_lload d_RF_log_73 rfl ?_
          refine J_lsub d_RF_log_75 ?_
          refine J_lstore d_RF_log_76 (by decide) ?_
          refine J_lload d_RF_log_78 rfl ?_
          refine J_lconst (v := 0) d_RF_log_80 (by decide) ?_
          refine J_lcmp d_RF_log_81 ?_
          refine J_lif_ge (tgt := 95) d_RF_log_82 (by decide) (fun c82 => ?_) (fun c82 => ?_)
          · skip
            refine J_aload_n d_RF_log_95 rfl rfl ?_
            refine J_get d_RF_log_96 xf_RF_24 rfl rfl ?_
            refine J_lload d_RF_log_99 rfl ?_
            refine J_lload d_RF_log_101 rfl ?_
            refine J_lload d_RF_log_103 rfl ?_
            refine J_aload_n d_RF_log_105 rfl rfl ?_
            refine J_get d_RF_log_106 xf_RF_18 rfl rfl ?_
            refine J_lload d_RF_log_109 rfl ?_
            refine J_callP (xGo_v1 d_RF_log_111 xc_RF_75 rfl rfl rfl) ⟨xq_Sh_of.1, xq_Sh_of.2.1⟩ ⟨Nat.le_of_ble_eq_true rfl, Nat.le_of_ble_eq_true rfl, Nat.le_of_ble_eq_true rfl, Nat.le_of_ble_eq_true rfl⟩ (Nat.le_of_ble_eq_true rfl) (m_Sh_of rfl) ?_
            refine J_lload d_RF_log_114 rfl ?_
            refine J_callW (xGo_v5 d_RF_log_116 xc_RF_83 rfl rfl rfl) ⟨xq_Pa_tell.1, xq_Pa_tell.2.1⟩ ⟨Nat.le_of_ble_eq_true rfl, Nat.le_of_ble_eq_true rfl, Nat.le_of_ble_eq_true rfl, Nat.le_of_ble_eq_true rfl⟩ (Nat.le_of_ble_eq_true rfl) (m_Pa_tell rfl) ?_
            refine J_heap (h2 := ch sa sb (s_lp sa sb v b k) tt lg bc gi go sh bn sc rw dy pt R) rfl ?_
            refine J_aload_n d_RF_log_119 rfl rfl ?_
            refine J_get d_RF_log_120 xf_RF_28 rfl rfl ?_
            refine J_aload_n d_RF_log_123 rfl rfl ?_
            refine J_get d_RF_log_124 xf_RF_24 rfl rfl ?_
            refine J_callW (xGo_v1 d_RF_log_127 xc_RF_87 rfl rfl rfl) ⟨xq_Pa_add.1, xq_Pa_add.2.1⟩ ⟨Nat.le_of_ble_eq_true rfl, Nat.le_of_ble_eq_true rfl, Nat.le_of_ble_eq_true rfl, Nat.le_of_ble_eq_true rfl⟩ (Nat.le_of_ble_eq_true rfl) m_Pa_add ?_
            refine J_aload_n d_RF_log_130 rfl rfl ?_
            refine J_get d_RF_log_131 xf_RF_91 rfl rfl ?_
            refine J_istore d_RF_log_134 (by decide) ?_
            refine J_aload_n d_RF_log_136 rfl rfl ?_
            refine J_dup d_RF_log_137 ?_
            refine J_get d_RF_log_138 xf_RF_91 rfl rfl ?_
            refine J_iconst (v := 1) d_RF_log_141 (by decide) ?_
            refine J_iadd d_RF_log_142 ?_
            refine J_put d_RF_log_143 xf_RF_91 xt_RF (fun _ _ _ h => by cases h; rfl) rfl rfl rfl (Nat.le_of_ble_eq_true rfl) ?_
            refine J_iload d_RF_log_146 rfl ?_
            exact J_ireturn d_RF_log_148 rfl (by have c82 : 0 ≤ s_ll sa v b k := c82; simp only [xif, c2, c9, c13, c17, c82, Classical.not_not, if_true, if_false, not_true_eq_false, not_false_eq_true, and_true, true_and, and_false, false_and, or_true, true_or, or_false, false_or, and_self, or_self] <;> rfl)
          · skip
            exact J_throw xh_RF_59 xs_RF_81 ⟨Nat.le_of_ble_eq_true rfl, Nat.le_of_ble_eq_true rfl, Nat.le_of_ble_eq_true rfl, Nat.le_of_ble_eq_true rfl⟩ rfl d_RF_log_85 d_RF_log_88 d_RF_log_89 d_RF_log_91 d_RF_log_94 rfl rfl (by have c82 : ¬ 0 ≤ s_ll sa v b k := c82; simp only [xif, c2, c9, c13, c17, c82, Classical.not_not, if_true, if_false, not_true_eq_false, not_false_eq_true, and_true, true_and, and_false, false_and, or_true, true_or, or_false, false_or, and_self, or_self] <;> rfl)
        · skip
          exact J_throw xh_RF_59 xs_RF_71 ⟨Nat.le_of_ble_eq_true rfl, Nat.le_of_ble_eq_true rfl, Nat.le_of_ble_eq_true rfl, Nat.le_of_ble_eq_true rfl⟩ rfl d_RF_log_20 d_RF_log_23 d_RF_log_24 d_RF_log_26 d_RF_log_29 rfl rfl (by simp only [xif, c2, c9, c13, c17, Classical.not_not, if_true, if_false, not_true_eq_false, not_false_eq_true, and_true, true_and, and_false, false_and, or_true, true_or, or_false, false_or, and_self, or_self] <;> rfl)
set_option maxHeartbeats 4000000 in
set_option maxRecDepth 100000 in
theorem m_volume {k a : Int32} : XM G Y_RF_volume [.ref 0, .int k, .int a] (1, ch sa sb lt tt lg bc gi go sh bn sc rw dy pt R) (xif (okK k) (xif (¬ lg = 0) (xif (a = 0) (.inl (some (.long (if k = 0 then lt.1 else if k = 1 then lt.2.1 else if k = 2 then lt.2.2.1 else lt.2.2.2.1))), (1, ch sa sb lt tt lg bc gi go sh bn sc rw dy pt R), 0, 0) (.inl (some (.long (if k = 0 then tt.1 else if k = 1 then tt.2.1 else if k = 2 then tt.2.2.1 else tt.2.2.2.1))), (1, ch sa sb lt tt lg bc gi go sh bn sc rw dy pt R), 0, 0)) (.inr "java/lang/IllegalStateException", (0, ch sa sb lt tt lg bc gi go sh bn sc rw dy pt R), 1, 6)) (.inr "java/lang/IndexOutOfBoundsException", (0, ch sa sb lt tt lg bc gi go sh bn sc rw dy pt R), 1, 6)) := by
  refine XM_of (by decide +kernel) (Nat.le_of_ble_eq_true rfl) (Or.inl rfl) ?_
  refine J_iload_n d_RF_volume_0 rfl rfl ?_
  refine J_callO (xGo_s1 d_RF_volume_1 xc_RF_94) ⟨xq_RF_checkKind.1, xq_RF_checkKind.2.1⟩ ⟨Nat.le_of_ble_eq_true rfl, Nat.le_of_ble_eq_true rfl, Nat.le_of_ble_eq_true rfl, Nat.le_of_ble_eq_true rfl⟩ (Nat.le_of_ble_eq_true rfl) m_checkKind rfl (fun c1 => ?_) (fun c1 => (by simp only [xif, c1, Classical.not_not, if_true, if_false, not_true_eq_false, not_false_eq_true, and_true, true_and, and_false, false_and, or_true, true_or, or_false, false_or, and_self, or_self] <;> rfl))
  refine J_aload_n d_RF_volume_4 rfl rfl ?_
  refine J_callO (xGo_v0 d_RF_volume_5 xc_RF_98 rfl rfl rfl) ⟨xq_RF_checkLogs.1, xq_RF_checkLogs.2.1⟩ ⟨Nat.le_of_ble_eq_true rfl, Nat.le_of_ble_eq_true rfl, Nat.le_of_ble_eq_true rfl, Nat.le_of_ble_eq_true rfl⟩ (Nat.le_of_ble_eq_true rfl) m_checkLogs rfl (fun c5 => ?_) (fun c5 => (by simp only [xif, c1, c5, Classical.not_not, if_true, if_false, not_true_eq_false, not_false_eq_true, and_true, true_and, and_false, false_and, or_true, true_or, or_false, false_or, and_self, or_self] <;> rfl))
  refine J_iload_n d_RF_volume_8 rfl rfl ?_
  refine J_if_eq (tgt := 23) d_RF_volume_9 (by decide) (fun c9 => ?_) (fun c9 => ?_)
  · skip
    refine J_aload_n d_RF_volume_23 rfl rfl ?_
    refine J_get d_RF_volume_24 xf_RF_24 rfl rfl ?_
    refine J_iload_n d_RF_volume_27 rfl rfl ?_
    refine J_callP (xGo_v1 d_RF_volume_28 xc_RF_101 rfl rfl rfl) ⟨xq_Pa_ofKind.1, xq_Pa_ofKind.2.1⟩ ⟨Nat.le_of_ble_eq_true rfl, Nat.le_of_ble_eq_true rfl, Nat.le_of_ble_eq_true rfl, Nat.le_of_ble_eq_true rfl⟩ (Nat.le_of_ble_eq_true rfl) (m_Pa_ofKind rfl) ?_
    exact J_lreturn d_RF_volume_31 rfl (by simp only [xif, c1, c5, c9, Classical.not_not, if_true, if_false, not_true_eq_false, not_false_eq_true, and_true, true_and, and_false, false_and, or_true, true_or, or_false, false_or, and_self, or_self] <;> rfl)
  · skip
    refine J_aload_n d_RF_volume_12 rfl rfl ?_
    refine J_get d_RF_volume_13 xf_RF_28 rfl rfl ?_
    refine J_iload_n d_RF_volume_16 rfl rfl ?_
    refine J_callP (xGo_v1 d_RF_volume_17 xc_RF_101 rfl rfl rfl) ⟨xq_Pa_ofKind.1, xq_Pa_ofKind.2.1⟩ ⟨Nat.le_of_ble_eq_true rfl, Nat.le_of_ble_eq_true rfl, Nat.le_of_ble_eq_true rfl, Nat.le_of_ble_eq_true rfl⟩ (Nat.le_of_ble_eq_true rfl) (m_Pa_ofKind rfl) ?_
    refine J_goto (tgt := 31) d_RF_volume_20 (by decide) ?_
    exact J_lreturn d_RF_volume_31 rfl (by simp only [xif, c1, c5, c9, Classical.not_not, if_true, if_false, not_true_eq_false, not_false_eq_true, and_true, true_and, and_false, false_and, or_true, true_or, or_false, false_or, and_self, or_self] <;> rfl)
set_option maxHeartbeats 4000000 in
set_option maxRecDepth 100000 in
theorem m_boards {a : Int32} : XM G Y_RF_boards [.ref 0, .int a] (1, ch sa sb lt tt lg bc gi go sh bn sc rw dy pt R) (xif (¬ lg = 0) (xif (a = 0) (.inl (some (.long lt.2.2.2.2)), (1, ch sa sb lt tt lg bc gi go sh bn sc rw dy pt R), 0, 0) (.inl (some (.long tt.2.2.2.2)), (1, ch sa sb lt tt lg bc gi go sh bn sc rw dy pt R), 0, 0)) (.inr "java/lang/IllegalStateException", (0, ch sa sb lt tt lg bc gi go sh bn sc rw dy pt R), 1, 6)) := by
  refine XM_of (by decide +kernel) (Nat.le_of_ble_eq_true rfl) (Or.inl rfl) ?_
  refine J_aload_n d_RF_boards_0 rfl rfl ?_
  refine J_callO (xGo_v0 d_RF_boards_1 xc_RF_98 rfl rfl rfl) ⟨xq_RF_checkLogs.1, xq_RF_checkLogs.2.1⟩ ⟨Nat.le_of_ble_eq_true rfl, Nat.le_of_ble_eq_true rfl, Nat.le_of_ble_eq_true rfl, Nat.le_of_ble_eq_true rfl⟩ (Nat.le_of_ble_eq_true rfl) m_checkLogs rfl (fun c1 => ?_) (fun c1 => (by simp only [xif, c1, Classical.not_not, if_true, if_false, not_true_eq_false, not_false_eq_true, and_true, true_and, and_false, false_and, or_true, true_or, or_false, false_or, and_self, or_self] <;> rfl))
  refine J_iload_n d_RF_boards_4 rfl rfl ?_
  refine J_if_eq (tgt := 18) d_RF_boards_5 (by decide) (fun c5 => ?_) (fun c5 => ?_)
  · skip
    refine J_aload_n d_RF_boards_18 rfl rfl ?_
    refine J_get d_RF_boards_19 xf_RF_24 rfl rfl ?_
    refine J_get d_RF_boards_22 xf_RF_105 rfl rfl ?_
    exact J_lreturn d_RF_boards_25 rfl (by simp only [xif, c1, c5, Classical.not_not, if_true, if_false, not_true_eq_false, not_false_eq_true, and_true, true_and, and_false, false_and, or_true, true_or, or_false, false_or, and_self, or_self] <;> rfl)
  · skip
    refine J_aload_n d_RF_boards_8 rfl rfl ?_
    refine J_get d_RF_boards_9 xf_RF_28 rfl rfl ?_
    refine J_get d_RF_boards_12 xf_RF_105 rfl rfl ?_
    refine J_goto (tgt := 25) d_RF_boards_15 (by decide) ?_
    exact J_lreturn d_RF_boards_25 rfl (by simp only [xif, c1, c5, Classical.not_not, if_true, if_false, not_true_eq_false, not_false_eq_true, and_true, true_and, and_false, false_and, or_true, true_or, or_false, false_or, and_self, or_self] <;> rfl)
theorem nb_lt {nb : Nat} (hn : nb ≤ 8) (h : nI nb < 8) : nb < 8 := by
  rcases Nat.lt_or_ge nb 8 with q | q
  · exact q
  · have : nb = 8 := by omega
    subst this
    exact absurd h (by decide)
set_option maxHeartbeats 4000000 in
set_option maxRecDepth 100000 in
theorem m_bin {k m : Int32} (hG : gTok G) {nb : Nat} (hb : bc = nI nb) (hn : nb ≤ 8) : XM G Y_RF_bin [.ref 0, .int k, .int m] (1, ch sa sb lt tt lg bc gi go sh bn sc rw dy pt R) (xif (okK k) (xif (¬ m < 1 ∧ m ≤ 1000000) (xif (bc < 8) (.inl (some (.int bc)), (0, ch sa sb lt tt lg (bc + 1) gi go sh (vf_upd bn nb (k, m, (bn nb).2.2)) sc rw dy pt R), 0, 0) (.inr "java/lang/IllegalStateException", (0, ch sa sb lt tt lg bc gi go sh bn sc rw dy pt R), 1, 6)) (.inr "java/lang/IllegalArgumentException", (0, ch sa sb lt tt lg bc gi go sh bn sc rw dy pt R), 1, 6)) (.inr "java/lang/IndexOutOfBoundsException", (0, ch sa sb lt tt lg bc gi go sh bn sc rw dy pt R), 1, 6)) := by
  refine XM_of (by decide +kernel) (Nat.le_of_ble_eq_true rfl) (Or.inl rfl) ?_
  refine J_iload_n d_RF_bin_0 rfl rfl ?_
  refine J_callO (xGo_s1 d_RF_bin_1 xc_RF_94) ⟨xq_RF_checkKind.1, xq_RF_checkKind.2.1⟩ ⟨Nat.le_of_ble_eq_true rfl, Nat.le_of_ble_eq_true rfl, Nat.le_of_ble_eq_true rfl, Nat.le_of_ble_eq_true rfl⟩ (Nat.le_of_ble_eq_true rfl) m_checkKind rfl (fun c1 => ?_) (fun c1 => (by simp only [xif, c1, Classical.not_not, if_true, if_false, not_true_eq_false, not_false_eq_true, and_true, true_and, and_false, false_and, or_true, true_or, or_false, false_or, and_self, or_self] <;> rfl))
  refine J_iload_n d_RF_bin_4 rfl rfl ?_
  refine J_iconst (v := 1) d_RF_bin_5 (by decide) ?_
  refine J_icmp_lt (tgt := 15) d_RF_bin_6 (by decide) (fun c6 => ?_) (fun c6 => ?_)
  · skip
    exact J_throw xh_RF_59 xs_RF_110 ⟨Nat.le_of_ble_eq_true rfl, Nat.le_of_ble_eq_true rfl, Nat.le_of_ble_eq_true rfl, Nat.le_of_ble_eq_true rfl⟩ rfl d_RF_bin_15 d_RF_bin_18 d_RF_bin_19 d_RF_bin_21 d_RF_bin_24 rfl rfl (by simp only [xif, c1, c6, Classical.not_not, if_true, if_false, not_true_eq_false, not_false_eq_true, and_true, true_and, and_false, false_and, or_true, true_or, or_false, false_or, and_self, or_self] <;> rfl)
  · skip
    refine J_iload_n d_RF_bin_9 rfl rfl ?_
    refine J_ldc d_RF_bin_10 xi_RF_109 ?_
    refine J_icmp_le (tgt := 25) d_RF_bin_12 (by decide) (fun c12 => ?_) (fun c12 => ?_)
    · skip
      refine J_aload_n d_RF_bin_25 rfl rfl ?_
      refine J_get d_RF_bin_26 xf_RF_112 rfl rfl ?_
      refine J_bipush (v := 8) d_RF_bin_29 (by decide) ?_
      refine J_icmp_lt (tgt := 44) d_RF_bin_31 (by decide) (fun c31 => ?_) (fun c31 => ?_)
      · skip
        refine J_aload_n d_RF_bin_44 rfl rfl ?_
        refine J_get d_RF_bin_45 xf_RF_112 rfl rfl ?_
        refine J_istore_n d_RF_bin_48 rfl (by decide) ?_
        refine J_aload_n d_RF_bin_49 rfl rfl ?_
        refine J_get d_RF_bin_50 xf_RF_33 rfl rfl ?_
        refine J_iload_n d_RF_bin_53 rfl rfl ?_
        refine J_aald d_RF_bin_54 (gt3' hG) rfl (by rw [hb]; exact vp_in_nI (nb_lt hn (hb ▸ c31)) (by decide)) (by rw [hb, nI_clamp (by omega)]; exact fB_at (nb_lt hn (hb ▸ c31))) ?_
        refine J_iload_n d_RF_bin_55 rfl rfl ?_
        refine J_put d_RF_bin_56 xf_RF_120 xt_Bi (fun _ _ _ h => by cases h; rfl) rfl rfl (ch_bin (nb_lt hn (hb ▸ c31))) (Nat.le_of_ble_eq_true rfl) ?_
        refine J_heap (ch_setb (v := (k, (bn nb).2)) (nb_lt hn (hb ▸ c31))) ?_
        refine J_aload_n d_RF_bin_59 rfl rfl ?_
        refine J_get d_RF_bin_60 xf_RF_33 rfl rfl ?_
        refine J_iload_n d_RF_bin_63 rfl rfl ?_
        refine J_aald d_RF_bin_64 (gt3' hG) rfl (by rw [hb]; exact vp_in_nI (nb_lt hn (hb ▸ c31)) (by decide)) (by rw [hb, nI_clamp (by omega)]; exact fB_at (nb_lt hn (hb ▸ c31))) ?_
        refine J_iload_n d_RF_bin_65 rfl rfl ?_
        refine J_put d_RF_bin_66 xf_RF_123 xt_Bi (fun _ _ _ h => by cases h; rfl) rfl rfl (ch_bin (nb_lt hn (hb ▸ c31))) (Nat.le_of_ble_eq_true rfl) ?_
        refine J_heap (ch_setb (v := ((vf_upd bn nb (k, (bn nb).2) nb).1, m, (vf_upd bn nb (k, (bn nb).2) nb).2.2)) (nb_lt hn (hb ▸ c31))) ?_
        simp only [vf_us, vf_uu]
        refine J_aload_n d_RF_bin_69 rfl rfl ?_
        refine J_dup d_RF_bin_70 ?_
        refine J_get d_RF_bin_71 xf_RF_112 rfl rfl ?_
        refine J_iconst (v := 1) d_RF_bin_74 (by decide) ?_
        refine J_iadd d_RF_bin_75 ?_
        refine J_put d_RF_bin_76 xf_RF_112 xt_RF (fun _ _ _ h => by cases h; rfl) rfl rfl rfl (Nat.le_of_ble_eq_true rfl) ?_
        refine J_iload_n d_RF_bin_79 rfl rfl ?_
        exact J_ireturn d_RF_bin_80 rfl (by simp only [xif, c1, c6, c12, c31, Classical.not_not, if_true, if_false, not_true_eq_false, not_false_eq_true, and_true, true_and, and_false, false_and, or_true, true_or, or_false, false_or, and_self, or_self] <;> rfl)
      · skip
        exact J_throw xh_RF_115 xs_RF_117 ⟨Nat.le_of_ble_eq_true rfl, Nat.le_of_ble_eq_true rfl, Nat.le_of_ble_eq_true rfl, Nat.le_of_ble_eq_true rfl⟩ rfl d_RF_bin_34 d_RF_bin_37 d_RF_bin_38 d_RF_bin_40 d_RF_bin_43 rfl rfl (by simp only [xif, c1, c6, c12, c31, Classical.not_not, if_true, if_false, not_true_eq_false, not_false_eq_true, and_true, true_and, and_false, false_and, or_true, true_or, or_false, false_or, and_self, or_self] <;> rfl)
    · skip
      exact J_throw xh_RF_59 xs_RF_110 ⟨Nat.le_of_ble_eq_true rfl, Nat.le_of_ble_eq_true rfl, Nat.le_of_ble_eq_true rfl, Nat.le_of_ble_eq_true rfl⟩ rfl d_RF_bin_15 d_RF_bin_18 d_RF_bin_19 d_RF_bin_21 d_RF_bin_24 rfl rfl (by simp only [xif, c1, c6, c12, Classical.not_not, if_true, if_false, not_true_eq_false, not_false_eq_true, and_true, true_and, and_false, false_and, or_true, true_or, or_false, false_or, and_self, or_self] <;> rfl)
def s_pi (b : cB) (k w : Int32) : cB := s_ch b (k.toInt64 * (1000 - w).toInt64) (k.toInt64 * w.toInt64)
def s_ta (b : cB) (d w : Int64) : cB := s_ch b (-d) (-w)
set_option maxHeartbeats 4000000 in
set_option maxRecDepth 100000 in
theorem m_pourInto {i : Nat} {k w : Int32} (hi : i < 8) : XM G Y_RF_pourInto [.ref 0, .ref (6 + i), .int k, .int w] (1, ch sa sb lt tt lg bc gi go sh bn sc rw dy pt R) (.inl (none), (0, ch sa sb lt tt lg bc (gi + k.toInt64 * 1000) go sh (vf_upd bn i (s_pi (bn i) k w)) sc rw dy pt R), 0, 0) := by
  refine XM_of (by decide +kernel) (Nat.le_of_ble_eq_true rfl) (Or.inl rfl) ?_
  refine J_aload_n d_RF_pourInto_0 rfl rfl ?_
  refine J_iload_n d_RF_pourInto_1 rfl rfl ?_
  refine J_i2l d_RF_pourInto_2 ?_
  refine J_sipush (v := 1000) d_RF_pourInto_3 (by decide) ?_
  refine J_iload_n d_RF_pourInto_6 rfl rfl ?_
  refine J_isub d_RF_pourInto_7 ?_
  refine J_i2l d_RF_pourInto_8 ?_
  refine J_lmul d_RF_pourInto_9 ?_
  refine J_iload_n d_RF_pourInto_10 rfl rfl ?_
  refine J_i2l d_RF_pourInto_11 ?_
  refine J_iload_n d_RF_pourInto_12 rfl rfl ?_
  refine J_i2l d_RF_pourInto_13 ?_
  refine J_lmul d_RF_pourInto_14 ?_
  refine J_callW (xGo_v2 d_RF_pourInto_15 xc_RF_274 (ch_bin hi) rfl rfl) ⟨xq_Bi_change.1, xq_Bi_change.2.1⟩ ⟨Nat.le_of_ble_eq_true rfl, Nat.le_of_ble_eq_true rfl, Nat.le_of_ble_eq_true rfl, Nat.le_of_ble_eq_true rfl⟩ (Nat.le_of_ble_eq_true rfl) (m_Bi_change (ch_bin hi)) ?_
  refine J_heap (ch_setb hi) ?_
  refine J_aload_n d_RF_pourInto_18 rfl rfl ?_
  refine J_dup d_RF_pourInto_19 ?_
  refine J_get d_RF_pourInto_20 xf_RF_199 rfl rfl ?_
  refine J_iload_n d_RF_pourInto_23 rfl rfl ?_
  refine J_i2l d_RF_pourInto_24 ?_
  refine J_ldc2_w d_RF_pourInto_25 xj_RF_290 ?_
  refine J_lmul d_RF_pourInto_28 ?_
  refine J_ladd d_RF_pourInto_29 ?_
  refine J_put d_RF_pourInto_30 xf_RF_199 xt_RF (fun _ _ _ h => by cases h; rfl) rfl rfl rfl (Nat.le_of_ble_eq_true rfl) ?_
  exact J_return d_RF_pourInto_33 rfl rfl
set_option maxHeartbeats 4000000 in
set_option maxRecDepth 100000 in
theorem m_takeAway {i : Nat} {d w : Int64} (hi : i < 8) : XM G Y_RF_takeAway [.ref 0, .ref (6 + i), .long d, .long w] (1, ch sa sb lt tt lg bc gi go sh bn sc rw dy pt R) (.inl (none), (0, ch sa sb lt tt lg bc gi (go + (d + w)) sh (vf_upd bn i (s_ta (bn i) d w)) sc rw dy pt R), 0, 0) := by
  refine XM_of (by decide +kernel) (Nat.le_of_ble_eq_true rfl) (Or.inl rfl) ?_
  refine J_aload_n d_RF_takeAway_0 rfl rfl ?_
  refine J_lload_n d_RF_takeAway_1 rfl rfl ?_
  refine J_lneg d_RF_takeAway_2 ?_
  refine J_lload d_RF_takeAway_3 rfl ?_
  refine J_lneg d_RF_takeAway_5 ?_
  refine J_callW (xGo_v2 d_RF_takeAway_6 xc_RF_274 (ch_bin hi) rfl rfl) ⟨xq_Bi_change.1, xq_Bi_change.2.1⟩ ⟨Nat.le_of_ble_eq_true rfl, Nat.le_of_ble_eq_true rfl, Nat.le_of_ble_eq_true rfl, Nat.le_of_ble_eq_true rfl⟩ (Nat.le_of_ble_eq_true rfl) (m_Bi_change (ch_bin hi)) ?_
  refine J_heap (ch_setb hi) ?_
  refine J_aload_n d_RF_takeAway_9 rfl rfl ?_
  refine J_dup d_RF_takeAway_10 ?_
  refine J_get d_RF_takeAway_11 xf_RF_202 rfl rfl ?_
  refine J_lload_n d_RF_takeAway_14 rfl rfl ?_
  refine J_lload d_RF_takeAway_15 rfl ?_
  refine J_ladd d_RF_takeAway_17 ?_
  refine J_ladd d_RF_takeAway_18 ?_
  refine J_put d_RF_takeAway_19 xf_RF_202 xt_RF (fun _ _ _ h => by cases h; rfl) rfl rfl rfl (Nat.le_of_ble_eq_true rfl) ?_
  exact J_return d_RF_takeAway_22 rfl rfl
set_option maxHeartbeats 4000000 in
set_option maxRecDepth 100000 in
theorem m_pour {n k w : Int32} (hG : gTok G) : XM G Y_RF_pour [.ref 0, .int n, .int k, .int w] (1, ch sa sb lt tt lg bc gi go sh bn sc rw dy pt R) (xif (okB bc n) (xif (okP k w) (xif (s_hr (bn n.toNatClampNeg) k = 0) (.inl (some (.int 0)), (1, ch sa sb lt tt lg bc gi go sh bn sc rw dy pt R), 0, 0) (.inl (some (.int 1)), (0, ch sa sb lt tt lg bc (gi + k.toInt64 * 1000) go sh (vf_upd bn n.toNatClampNeg (s_pi (bn n.toNatClampNeg) k w)) sc rw dy pt R), 0, 0)) (.inr "java/lang/IllegalArgumentException", (0, ch sa sb lt tt lg bc gi go sh bn sc rw dy pt R), 1, 6)) (.inr "java/lang/IndexOutOfBoundsException", (0, ch sa sb lt tt lg bc gi go sh bn sc rw dy pt R), 1, 6)) := by
  refine XM_of (by decide +kernel) (Nat.le_of_ble_eq_true rfl) (Or.inl rfl) ?_
  refine J_aload_n d_RF_pour_0 rfl rfl ?_
  refine J_iload_n d_RF_pour_1 rfl rfl ?_
  refine J_callO (xGo_v1 d_RF_pour_2 xc_RF_126 rfl rfl rfl) ⟨xq_RF_binAt.1, xq_RF_binAt.2.1⟩ ⟨Nat.le_of_ble_eq_true rfl, Nat.le_of_ble_eq_true rfl, Nat.le_of_ble_eq_true rfl, Nat.le_of_ble_eq_true rfl⟩ (Nat.le_of_ble_eq_true rfl) (m_binAt hG) rfl (fun c2 => ?_) (fun c2 => (by simp only [xif, c2, Classical.not_not, if_true, if_false, not_true_eq_false, not_false_eq_true, and_true, true_and, and_false, false_and, or_true, true_or, or_false, false_or, and_self, or_self] <;> rfl))
  have hi := (okB_lt c2).1
  refine J_astore d_RF_pour_5 (by decide) ?_
  refine J_iload_n d_RF_pour_7 rfl rfl ?_
  refine J_iload_n d_RF_pour_8 rfl rfl ?_
  refine J_callO (xGo_s2 d_RF_pour_9 xc_RF_130) ⟨xq_RF_checkPoured.1, xq_RF_checkPoured.2.1⟩ ⟨Nat.le_of_ble_eq_true rfl, Nat.le_of_ble_eq_true rfl, Nat.le_of_ble_eq_true rfl, Nat.le_of_ble_eq_true rfl⟩ (Nat.le_of_ble_eq_true rfl) m_checkPoured rfl (fun c9 => ?_) (fun c9 => (by simp only [xif, c2, c9, Classical.not_not, if_true, if_false, not_true_eq_false, not_false_eq_true, and_true, true_and, and_false, false_and, or_true, true_or, or_false, false_or, and_self, or_self] <;> rfl))
  refine J_aload d_RF_pour_12 rfl ?_
  refine J_iload_n d_RF_pour_14 rfl rfl ?_
  refine J_callP (xGo_v1 d_RF_pour_15 xc_RF_133 (ch_bin hi) rfl rfl) ⟨xq_Bi_hasRoom.1, xq_Bi_hasRoom.2.1⟩ ⟨Nat.le_of_ble_eq_true rfl, Nat.le_of_ble_eq_true rfl, Nat.le_of_ble_eq_true rfl, Nat.le_of_ble_eq_true rfl⟩ (Nat.le_of_ble_eq_true rfl) (m_Bi_hasRoom (ch_bin hi)) ?_
  refine J_if_ne (tgt := 23) d_RF_pour_18 (by decide) (fun c18 => ?_) (fun c18 => ?_)
  · skip
    refine J_aload_n d_RF_pour_23 rfl rfl ?_
    refine J_aload d_RF_pour_24 rfl ?_
    refine J_iload_n d_RF_pour_26 rfl rfl ?_
    refine J_iload_n d_RF_pour_27 rfl rfl ?_
    refine J_callW (xGo_v3 d_RF_pour_28 xc_RF_137 rfl rfl rfl) ⟨xq_RF_pourInto.1, xq_RF_pourInto.2.1⟩ ⟨Nat.le_of_ble_eq_true rfl, Nat.le_of_ble_eq_true rfl, Nat.le_of_ble_eq_true rfl, Nat.le_of_ble_eq_true rfl⟩ (Nat.le_of_ble_eq_true rfl) (m_pourInto hi) ?_
    refine J_iconst (v := 1) d_RF_pour_31 (by decide) ?_
    exact J_zreturn d_RF_pour_32 rfl rfl (by simp only [xif, c2, c9, c18, Classical.not_not, if_true, if_false, not_true_eq_false, not_false_eq_true, and_true, true_and, and_false, false_and, or_true, true_or, or_false, false_or, and_self, or_self] <;> rfl)
  · skip
    have c18 := Classical.not_not.mp c18
    refine J_iconst (v := 0) d_RF_pour_21 (by decide) ?_
    exact J_zreturn d_RF_pour_22 rfl rfl (by simp only [xif, c2, c9, c18, Classical.not_not, if_true, if_false, not_true_eq_false, not_false_eq_true, and_true, true_and, and_false, false_and, or_true, true_or, or_false, false_or, and_self, or_self] <;> rfl)
set_option maxHeartbeats 4000000 in
set_option maxRecDepth 100000 in
theorem m_about {n q : Int32} (hG : gTok G) : XM G Y_RF_about [.ref 0, .int n, .int q] (1, ch sa sb lt tt lg bc gi go sh bn sc rw dy pt R) (xif (okB bc n) (if q = 0 then (.inl (some (.long (bn n.toNatClampNeg).2.2.1)), (1, ch sa sb lt tt lg bc gi go sh bn sc rw dy pt R), 0, 0) else (if q = 1 then (.inl (some (.long (bn n.toNatClampNeg).2.2.2.1)), (1, ch sa sb lt tt lg bc gi go sh bn sc rw dy pt R), 0, 0) else (if q = 2 then (.inl (some (.long (bn n.toNatClampNeg).2.1.toInt64)), (1, ch sa sb lt tt lg bc gi go sh bn sc rw dy pt R), 0, 0) else (if q = 3 then (.inl (some (.long (bn n.toNatClampNeg).1.toInt64)), (1, ch sa sb lt tt lg bc gi go sh bn sc rw dy pt R), 0, 0) else (if q = 4 then (.inl (some (.long (bn n.toNatClampNeg).2.2.2.2.1)), (1, ch sa sb lt tt lg bc gi go sh bn sc rw dy pt R), 0, 0) else (if q = 5 then (.inl (some (.long (s_gr (bn n.toNatClampNeg)))), (1, ch sa sb lt tt lg bc gi go sh bn sc rw dy pt R), 0, 0) else (.inr "java/lang/IndexOutOfBoundsException", (0, ch sa sb lt tt lg bc gi go sh bn sc rw dy pt R), 1, 6))))))) (.inr "java/lang/IndexOutOfBoundsException", (0, ch sa sb lt tt lg bc gi go sh bn sc rw dy pt R), 1, 6)) := by
  refine XM_of (by decide +kernel) (Nat.le_of_ble_eq_true rfl) (Or.inl rfl) ?_
  refine J_aload_n d_RF_about_0 rfl rfl ?_
  refine J_iload_n d_RF_about_1 rfl rfl ?_
  refine J_callO (xGo_v1 d_RF_about_2 xc_RF_126 rfl rfl rfl) ⟨xq_RF_binAt.1, xq_RF_binAt.2.1⟩ ⟨Nat.le_of_ble_eq_true rfl, Nat.le_of_ble_eq_true rfl, Nat.le_of_ble_eq_true rfl, Nat.le_of_ble_eq_true rfl⟩ (Nat.le_of_ble_eq_true rfl) (m_binAt hG) rfl (fun c2 => ?_) (fun c2 => (by simp only [xif, c2, Classical.not_not, if_true, if_false, not_true_eq_false, not_false_eq_true, and_true, true_and, and_false, false_and, or_true, true_or, or_false, false_or, and_self, or_self] <;> rfl))
  have hi := (okB_lt c2).1
  refine J_astore_n d_RF_about_5 rfl (by decide) ?_
  refine J_iload_n d_RF_about_6 rfl rfl ?_
  by_cases e0 : q = 0
  · subst e0
    refine J_tableIn (tgt := 44) d_RF_about_7 (by decide) (by decide) rfl (by decide) ?_
    refine J_aload_n d_RF_about_44 rfl rfl ?_
    refine J_get d_RF_about_45 xf_RF_141 (ch_bin hi) rfl ?_
    exact J_lreturn d_RF_about_48 rfl (by simp only [xif, c2, if_true] <;> rfl)
  by_cases e1 : q = 1
  · subst e1
    refine J_tableIn (tgt := 49) d_RF_about_7 (by decide) (by decide) rfl (by decide) ?_
    refine J_aload_n d_RF_about_49 rfl rfl ?_
    refine J_get d_RF_about_50 xf_RF_144 (ch_bin hi) rfl ?_
    exact J_lreturn d_RF_about_53 rfl (by simp only [xif, c2, if_true] <;> rfl)
  by_cases e2 : q = 2
  · subst e2
    refine J_tableIn (tgt := 54) d_RF_about_7 (by decide) (by decide) rfl (by decide) ?_
    refine J_aload_n d_RF_about_54 rfl rfl ?_
    refine J_get d_RF_about_55 xf_RF_123 (ch_bin hi) rfl ?_
    refine J_i2l d_RF_about_58 ?_
    exact J_lreturn d_RF_about_59 rfl (by simp only [xif, c2, if_true] <;> rfl)
  by_cases e3 : q = 3
  · subst e3
    refine J_tableIn (tgt := 60) d_RF_about_7 (by decide) (by decide) rfl (by decide) ?_
    refine J_aload_n d_RF_about_60 rfl rfl ?_
    refine J_get d_RF_about_61 xf_RF_120 (ch_bin hi) rfl ?_
    refine J_i2l d_RF_about_64 ?_
    exact J_lreturn d_RF_about_65 rfl (by simp only [xif, c2, if_true] <;> rfl)
  by_cases e4 : q = 4
  · subst e4
    refine J_tableIn (tgt := 66) d_RF_about_7 (by decide) (by decide) rfl (by decide) ?_
    refine J_aload_n d_RF_about_66 rfl rfl ?_
    refine J_get d_RF_about_67 xf_RF_147 (ch_bin hi) rfl ?_
    exact J_lreturn d_RF_about_70 rfl (by simp only [xif, c2, if_true] <;> rfl)
  by_cases e5 : q = 5
  · subst e5
    refine J_tableIn (tgt := 71) d_RF_about_7 (by decide) (by decide) rfl (by decide) ?_
    refine J_aload_n d_RF_about_71 rfl rfl ?_
    refine J_callP (xGo_v0 d_RF_about_72 xc_RF_150 (ch_bin hi) rfl rfl) ⟨xq_Bi_grams.1, xq_Bi_grams.2.1⟩ ⟨Nat.le_of_ble_eq_true rfl, Nat.le_of_ble_eq_true rfl, Nat.le_of_ble_eq_true rfl, Nat.le_of_ble_eq_true rfl⟩ (Nat.le_of_ble_eq_true rfl) (m_Bi_grams (ch_bin hi)) ?_
    exact J_lreturn d_RF_about_75 rfl (by simp only [xif, c2, if_true] <;> rfl)
  refine J_tableOut (tgt := 76) d_RF_about_7 (by have q0 := ti (n := 0) 0 (by decide) e0; have q1 := ti (n := 1) 1 (by decide) e1; have q2 := ti (n := 2) 2 (by decide) e2; have q3 := ti (n := 3) 3 (by decide) e3; have q4 := ti (n := 4) 4 (by decide) e4; have q5 := ti (n := 5) 5 (by decide) e5; omega) (by decide) ?_
  exact J_throw xh_RF_52 xs_RF_154 ⟨Nat.le_of_ble_eq_true rfl, Nat.le_of_ble_eq_true rfl, Nat.le_of_ble_eq_true rfl, Nat.le_of_ble_eq_true rfl⟩ rfl d_RF_about_76 d_RF_about_79 d_RF_about_80 d_RF_about_82 d_RF_about_85 rfl rfl (by simp only [xif, c2, e0, e1, e2, e3, e4, e5, Classical.not_not, if_true, if_false, not_true_eq_false, not_false_eq_true, and_true, true_and, and_false, false_and, or_true, true_or, or_false, false_or, and_self, or_self] <;> rfl)
set_option maxHeartbeats 4000000 in
set_option maxRecDepth 100000 in
theorem m_scale {n : Int32} {g : Int64} (hG : gTok G) : XM G Y_RF_scale [.ref 0, .int n, .long g] (1, ch sa sb lt tt lg bc gi go sh bn sc rw dy pt R) (xif (okB bc n) (xif (¬ g < 0 ∧ g ≤ 1000000000000) (.inl (none), (0, ch sa sb lt tt lg bc gi go sh (vf_upd bn n.toNatClampNeg ((bn n.toNatClampNeg).1, (bn n.toNatClampNeg).2.1, (bn n.toNatClampNeg).2.2.1, (bn n.toNatClampNeg).2.2.2.1, g, (bn n.toNatClampNeg).2.2.2.2.2)) sc rw dy pt R), 0, 0) (.inr "java/lang/IllegalArgumentException", (0, ch sa sb lt tt lg bc gi go sh bn sc rw dy pt R), 1, 6)) (.inr "java/lang/IndexOutOfBoundsException", (0, ch sa sb lt tt lg bc gi go sh bn sc rw dy pt R), 1, 6)) := by
  refine XM_of (by decide +kernel) (Nat.le_of_ble_eq_true rfl) (Or.inl rfl) ?_
  refine J_aload_n d_RF_scale_0 rfl rfl ?_
  refine J_iload_n d_RF_scale_1 rfl rfl ?_
  refine J_callO (xGo_v1 d_RF_scale_2 xc_RF_126 rfl rfl rfl) ⟨xq_RF_binAt.1, xq_RF_binAt.2.1⟩ ⟨Nat.le_of_ble_eq_true rfl, Nat.le_of_ble_eq_true rfl, Nat.le_of_ble_eq_true rfl, Nat.le_of_ble_eq_true rfl⟩ (Nat.le_of_ble_eq_true rfl) (m_binAt hG) rfl (fun c2 => ?_) (fun c2 => (by simp only [xif, c2, Classical.not_not, if_true, if_false, not_true_eq_false, not_false_eq_true, and_true, true_and, and_false, false_and, or_true, true_or, or_false, false_or, and_self, or_self] <;> rfl))
  have hi := (okB_lt c2).1
  refine J_astore d_RF_scale_5 (by decide) ?_
  refine J_lload_n d_RF_scale_7 rfl rfl ?_
  refine J_lconst (v := 0) d_RF_scale_8 (by decide) ?_
  refine J_lcmp d_RF_scale_9 ?_
  refine J_lif_lt (tgt := 21) d_RF_scale_10 (by decide) (fun c10 => ?_) (fun c10 => ?_)
  · skip
    exact J_throw xh_RF_59 xs_RF_194 ⟨Nat.le_of_ble_eq_true rfl, Nat.le_of_ble_eq_true rfl, Nat.le_of_ble_eq_true rfl, Nat.le_of_ble_eq_true rfl⟩ rfl d_RF_scale_21 d_RF_scale_24 d_RF_scale_25 d_RF_scale_27 d_RF_scale_30 rfl rfl (by simp only [xif, c2, c10, Classical.not_not, if_true, if_false, not_true_eq_false, not_false_eq_true, and_true, true_and, and_false, false_and, or_true, true_or, or_false, false_or, and_self, or_self] <;> rfl)
  · skip
    refine J_lload_n d_RF_scale_13 rfl rfl ?_
    refine J_ldc2_w d_RF_scale_14 xj_RF_192 ?_
    refine J_lcmp d_RF_scale_17 ?_
    refine J_lif_le (tgt := 31) d_RF_scale_18 (by decide) (fun c18 => ?_) (fun c18 => ?_)
    · skip
      refine J_aload d_RF_scale_31 rfl ?_
      refine J_lload_n d_RF_scale_33 rfl rfl ?_
      refine J_put d_RF_scale_34 xf_RF_147 xt_Bi (fun _ _ _ h => by cases h; rfl) rfl rfl (ch_bin hi) (Nat.le_of_ble_eq_true rfl) ?_
      refine J_heap (ch_setb (v := ((bn n.toNatClampNeg).1, (bn n.toNatClampNeg).2.1, (bn n.toNatClampNeg).2.2.1, (bn n.toNatClampNeg).2.2.2.1, g, (bn n.toNatClampNeg).2.2.2.2.2)) hi) ?_
      exact J_return d_RF_scale_37 rfl (by simp only [xif, c2, c10, c18, Classical.not_not, if_true, if_false, not_true_eq_false, not_false_eq_true, and_true, true_and, and_false, false_and, or_true, true_or, or_false, false_or, and_self, or_self] <;> rfl)
    · skip
      exact J_throw xh_RF_59 xs_RF_194 ⟨Nat.le_of_ble_eq_true rfl, Nat.le_of_ble_eq_true rfl, Nat.le_of_ble_eq_true rfl, Nat.le_of_ble_eq_true rfl⟩ rfl d_RF_scale_21 d_RF_scale_24 d_RF_scale_25 d_RF_scale_27 d_RF_scale_30 rfl rfl (by simp only [xif, c2, c10, c18, Classical.not_not, if_true, if_false, not_true_eq_false, not_false_eq_true, and_true, true_and, and_false, false_and, or_true, true_or, or_false, false_or, and_self, or_self] <;> rfl)
set_option maxHeartbeats 4000000 in
set_option maxRecDepth 100000 in
theorem m_span {n lo up : Int32} (hG : gTok G) : XM G Y_RF_span [.ref 0, .int n, .int lo, .int up] (1, ch sa sb lt tt lg bc gi go sh bn sc rw dy pt R) (xif (okB bc n) (xif (¬ lo < 0 ∧ ¬ up < lo ∧ up ≤ 1000) (.inl (none), (0, ch sa sb lt tt lg bc gi go sh (vf_upd bn n.toNatClampNeg ((bn n.toNatClampNeg).1, (bn n.toNatClampNeg).2.1, (bn n.toNatClampNeg).2.2.1, (bn n.toNatClampNeg).2.2.2.1, (bn n.toNatClampNeg).2.2.2.2.1, lo, up)) sc rw dy pt R), 0, 0) (.inr "java/lang/IllegalArgumentException", (0, ch sa sb lt tt lg bc gi go sh bn sc rw dy pt R), 1, 6)) (.inr "java/lang/IndexOutOfBoundsException", (0, ch sa sb lt tt lg bc gi go sh bn sc rw dy pt R), 1, 6)) := by
  refine XM_of (by decide +kernel) (Nat.le_of_ble_eq_true rfl) (Or.inl rfl) ?_
  refine J_aload_n d_RF_span_0 rfl rfl ?_
  refine J_iload_n d_RF_span_1 rfl rfl ?_
  refine J_callO (xGo_v1 d_RF_span_2 xc_RF_126 rfl rfl rfl) ⟨xq_RF_binAt.1, xq_RF_binAt.2.1⟩ ⟨Nat.le_of_ble_eq_true rfl, Nat.le_of_ble_eq_true rfl, Nat.le_of_ble_eq_true rfl, Nat.le_of_ble_eq_true rfl⟩ (Nat.le_of_ble_eq_true rfl) (m_binAt hG) rfl (fun c2 => ?_) (fun c2 => (by simp only [xif, c2, Classical.not_not, if_true, if_false, not_true_eq_false, not_false_eq_true, and_true, true_and, and_false, false_and, or_true, true_or, or_false, false_or, and_self, or_self] <;> rfl))
  have hi := (okB_lt c2).1
  refine J_astore d_RF_span_5 (by decide) ?_
  refine J_iload_n d_RF_span_7 rfl rfl ?_
  refine J_if_lt (tgt := 23) d_RF_span_8 (by decide) (fun c8 => ?_) (fun c8 => ?_)
  · skip
    exact J_throwW xh_RF_59 xs_RF_260 ⟨Nat.le_of_ble_eq_true rfl, Nat.le_of_ble_eq_true rfl, Nat.le_of_ble_eq_true rfl, Nat.le_of_ble_eq_true rfl⟩ rfl d_RF_span_23 d_RF_span_26 d_RF_span_27 d_RF_span_30 d_RF_span_33 rfl rfl (by simp only [xif, c2, c8, Classical.not_not, if_true, if_false, not_true_eq_false, not_false_eq_true, and_true, true_and, and_false, false_and, or_true, true_or, or_false, false_or, and_self, or_self] <;> rfl)
  · skip
    refine J_iload_n d_RF_span_11 rfl rfl ?_
    refine J_iload_n d_RF_span_12 rfl rfl ?_
    refine J_icmp_lt (tgt := 23) d_RF_span_13 (by decide) (fun c13 => ?_) (fun c13 => ?_)
    · skip
      exact J_throwW xh_RF_59 xs_RF_260 ⟨Nat.le_of_ble_eq_true rfl, Nat.le_of_ble_eq_true rfl, Nat.le_of_ble_eq_true rfl, Nat.le_of_ble_eq_true rfl⟩ rfl d_RF_span_23 d_RF_span_26 d_RF_span_27 d_RF_span_30 d_RF_span_33 rfl rfl (by simp only [xif, c2, c8, c13, Classical.not_not, if_true, if_false, not_true_eq_false, not_false_eq_true, and_true, true_and, and_false, false_and, or_true, true_or, or_false, false_or, and_self, or_self] <;> rfl)
    · skip
      refine J_iload_n d_RF_span_16 rfl rfl ?_
      refine J_sipush (v := 1000) d_RF_span_17 (by decide) ?_
      refine J_icmp_le (tgt := 34) d_RF_span_20 (by decide) (fun c20 => ?_) (fun c20 => ?_)
      · skip
        refine J_aload d_RF_span_34 rfl ?_
        refine J_iload_n d_RF_span_36 rfl rfl ?_
        refine J_put d_RF_span_37 xf_RF_262 xt_Bi (fun _ _ _ h => by cases h; rfl) rfl rfl (ch_bin hi) (Nat.le_of_ble_eq_true rfl) ?_
        refine J_heap (ch_setb (v := ((bn n.toNatClampNeg).1, (bn n.toNatClampNeg).2.1, (bn n.toNatClampNeg).2.2.1, (bn n.toNatClampNeg).2.2.2.1, (bn n.toNatClampNeg).2.2.2.2.1, lo, (bn n.toNatClampNeg).2.2.2.2.2.2)) hi) ?_
        refine J_aload d_RF_span_40 rfl ?_
        refine J_iload_n d_RF_span_42 rfl rfl ?_
        refine J_put d_RF_span_43 xf_RF_265 xt_Bi (fun _ _ _ h => by cases h; rfl) rfl rfl (ch_bin hi) (Nat.le_of_ble_eq_true rfl) ?_
        refine J_heap (ch_setb (v := ((vf_upd bn n.toNatClampNeg ((bn n.toNatClampNeg).1, (bn n.toNatClampNeg).2.1, (bn n.toNatClampNeg).2.2.1, (bn n.toNatClampNeg).2.2.2.1, (bn n.toNatClampNeg).2.2.2.2.1, lo, (bn n.toNatClampNeg).2.2.2.2.2.2) n.toNatClampNeg).1, (vf_upd bn n.toNatClampNeg ((bn n.toNatClampNeg).1, (bn n.toNatClampNeg).2.1, (bn n.toNatClampNeg).2.2.1, (bn n.toNatClampNeg).2.2.2.1, (bn n.toNatClampNeg).2.2.2.2.1, lo, (bn n.toNatClampNeg).2.2.2.2.2.2) n.toNatClampNeg).2.1, (vf_upd bn n.toNatClampNeg ((bn n.toNatClampNeg).1, (bn n.toNatClampNeg).2.1, (bn n.toNatClampNeg).2.2.1, (bn n.toNatClampNeg).2.2.2.1, (bn n.toNatClampNeg).2.2.2.2.1, lo, (bn n.toNatClampNeg).2.2.2.2.2.2) n.toNatClampNeg).2.2.1, (vf_upd bn n.toNatClampNeg ((bn n.toNatClampNeg).1, (bn n.toNatClampNeg).2.1, (bn n.toNatClampNeg).2.2.1, (bn n.toNatClampNeg).2.2.2.1, (bn n.toNatClampNeg).2.2.2.2.1, lo, (bn n.toNatClampNeg).2.2.2.2.2.2) n.toNatClampNeg).2.2.2.1, (vf_upd bn n.toNatClampNeg ((bn n.toNatClampNeg).1, (bn n.toNatClampNeg).2.1, (bn n.toNatClampNeg).2.2.1, (bn n.toNatClampNeg).2.2.2.1, (bn n.toNatClampNeg).2.2.2.2.1, lo, (bn n.toNatClampNeg).2.2.2.2.2.2) n.toNatClampNeg).2.2.2.2.1, (vf_upd bn n.toNatClampNeg ((bn n.toNatClampNeg).1, (bn n.toNatClampNeg).2.1, (bn n.toNatClampNeg).2.2.1, (bn n.toNatClampNeg).2.2.2.1, (bn n.toNatClampNeg).2.2.2.2.1, lo, (bn n.toNatClampNeg).2.2.2.2.2.2) n.toNatClampNeg).2.2.2.2.2.1, up)) hi) ?_
        simp only [vf_us, vf_uu]
        exact J_return d_RF_span_46 rfl (by simp only [xif, c2, c8, c13, c20, Classical.not_not, if_true, if_false, not_true_eq_false, not_false_eq_true, and_true, true_and, and_false, false_and, or_true, true_or, or_false, false_or, and_self, or_self] <;> rfl)
      · skip
        exact J_throwW xh_RF_59 xs_RF_260 ⟨Nat.le_of_ble_eq_true rfl, Nat.le_of_ble_eq_true rfl, Nat.le_of_ble_eq_true rfl, Nat.le_of_ble_eq_true rfl⟩ rfl d_RF_span_23 d_RF_span_26 d_RF_span_27 d_RF_span_30 d_RF_span_33 rfl rfl (by simp only [xif, c2, c8, c13, c20, Classical.not_not, if_true, if_false, not_true_eq_false, not_false_eq_true, and_true, true_and, and_false, false_and, or_true, true_or, or_false, false_or, and_self, or_self] <;> rfl)
def s_gl (bn : Nat → cB) : Nat → Nat → Int64 → Int64
  | 0, _, acc => acc
  | n + 1, i, acc => s_gl bn n (i + 1) (if (bn i).2.2.2.2.1 = -1 then acc else acc + (s_gr (bn i) - (bn i).2.2.2.2.1))
def s_su (bn : Nat → cB) : Nat → Nat → Int64 → Int64
  | 0, _, acc => acc
  | n + 1, i, acc => s_su bn n (i + 1) (acc + (bn i).2.2.1)
def s_be (b : cB) : cB := (b.1, b.2.1, b.2.2.1, b.2.2.2.1, -1, b.2.2.2.2.2)
set_option maxHeartbeats 4000000 in
set_option maxRecDepth 100000 in
theorem m_begin (hG : gTok G) : XM G Y_RF_begin [.ref 0] (1, ch sa sb lt tt lg bc gi go sh bn sc rw dy pt R) (.inl (none), (0, ch sa sb lt tt lg bc 0 0 (sh + 1) (fun i => s_be (bn i)) sc rw dy pt R), 0, 0) := by
  refine XM_of (by decide +kernel) (Nat.le_of_ble_eq_true rfl) (Or.inl rfl) ?_
  refine J_iconst (v := 0) d_RF_begin_0 (by decide) ?_
  refine J_istore_n d_RF_begin_1 rfl (by decide) ?_
  refine J_iload_n d_RF_begin_2 rfl rfl ?_
  refine J_bipush (v := 8) d_RF_begin_3 (by decide) ?_
  refine J_icmp_ge (tgt := 26) d_RF_begin_5 (by decide) (fun q => absurd q (by decide)) (fun _ => ?_)
  refine J_aload_n d_RF_begin_8 rfl rfl ?_
  refine J_get d_RF_begin_9 xf_RF_33 rfl rfl ?_
  refine J_iload_n d_RF_begin_12 rfl rfl ?_
  refine J_aald d_RF_begin_13 (gt3' hG) rfl (vp_in_nI (n := 0) (by decide) (by decide)) rfl ?_
  refine J_ldc2_w d_RF_begin_14 xj_RF_210 ?_
  refine J_put d_RF_begin_17 xf_RF_147 xt_Bi (fun _ _ _ h => by cases h; rfl) rfl rfl rfl (Nat.le_of_ble_eq_true rfl) ?_
  refine J_iinc (v := 1) d_RF_begin_20 rfl (by decide) (by decide) ?_
  refine J_goto (tgt := 2) d_RF_begin_23 (by decide) ?_
  refine J_iload_n d_RF_begin_2 rfl rfl ?_
  refine J_bipush (v := 8) d_RF_begin_3 (by decide) ?_
  refine J_icmp_ge (tgt := 26) d_RF_begin_5 (by decide) (fun q => absurd q (by decide)) (fun _ => ?_)
  refine J_aload_n d_RF_begin_8 rfl rfl ?_
  refine J_get d_RF_begin_9 xf_RF_33 rfl rfl ?_
  refine J_iload_n d_RF_begin_12 rfl rfl ?_
  refine J_aald d_RF_begin_13 (gt3' hG) rfl (vp_in_nI (n := 1) (by decide) (by decide)) rfl ?_
  refine J_ldc2_w d_RF_begin_14 xj_RF_210 ?_
  refine J_put d_RF_begin_17 xf_RF_147 xt_Bi (fun _ _ _ h => by cases h; rfl) rfl rfl rfl (Nat.le_of_ble_eq_true rfl) ?_
  refine J_iinc (v := 2) d_RF_begin_20 rfl (by decide) (by decide) ?_
  refine J_goto (tgt := 2) d_RF_begin_23 (by decide) ?_
  refine J_iload_n d_RF_begin_2 rfl rfl ?_
  refine J_bipush (v := 8) d_RF_begin_3 (by decide) ?_
  refine J_icmp_ge (tgt := 26) d_RF_begin_5 (by decide) (fun q => absurd q (by decide)) (fun _ => ?_)
  refine J_aload_n d_RF_begin_8 rfl rfl ?_
  refine J_get d_RF_begin_9 xf_RF_33 rfl rfl ?_
  refine J_iload_n d_RF_begin_12 rfl rfl ?_
  refine J_aald d_RF_begin_13 (gt3' hG) rfl (vp_in_nI (n := 2) (by decide) (by decide)) rfl ?_
  refine J_ldc2_w d_RF_begin_14 xj_RF_210 ?_
  refine J_put d_RF_begin_17 xf_RF_147 xt_Bi (fun _ _ _ h => by cases h; rfl) rfl rfl rfl (Nat.le_of_ble_eq_true rfl) ?_
  refine J_iinc (v := 3) d_RF_begin_20 rfl (by decide) (by decide) ?_
  refine J_goto (tgt := 2) d_RF_begin_23 (by decide) ?_
  refine J_iload_n d_RF_begin_2 rfl rfl ?_
  refine J_bipush (v := 8) d_RF_begin_3 (by decide) ?_
  refine J_icmp_ge (tgt := 26) d_RF_begin_5 (by decide) (fun q => absurd q (by decide)) (fun _ => ?_)
  refine J_aload_n d_RF_begin_8 rfl rfl ?_
  refine J_get d_RF_begin_9 xf_RF_33 rfl rfl ?_
  refine J_iload_n d_RF_begin_12 rfl rfl ?_
  refine J_aald d_RF_begin_13 (gt3' hG) rfl (vp_in_nI (n := 3) (by decide) (by decide)) rfl ?_
  refine J_ldc2_w d_RF_begin_14 xj_RF_210 ?_
  refine J_put d_RF_begin_17 xf_RF_147 xt_Bi (fun _ _ _ h => by cases h; rfl) rfl rfl rfl (Nat.le_of_ble_eq_true rfl) ?_
  refine J_iinc (v := 4) d_RF_begin_20 rfl (by decide) (by decide) ?_
  refine J_goto (tgt := 2) d_RF_begin_23 (by decide) ?_
  refine J_iload_n d_RF_begin_2 rfl rfl ?_
  refine J_bipush (v := 8) d_RF_begin_3 (by decide) ?_
  refine J_icmp_ge (tgt := 26) d_RF_begin_5 (by decide) (fun q => absurd q (by decide)) (fun _ => ?_)
  refine J_aload_n d_RF_begin_8 rfl rfl ?_
  refine J_get d_RF_begin_9 xf_RF_33 rfl rfl ?_
  refine J_iload_n d_RF_begin_12 rfl rfl ?_
  refine J_aald d_RF_begin_13 (gt3' hG) rfl (vp_in_nI (n := 4) (by decide) (by decide)) rfl ?_
  refine J_ldc2_w d_RF_begin_14 xj_RF_210 ?_
  refine J_put d_RF_begin_17 xf_RF_147 xt_Bi (fun _ _ _ h => by cases h; rfl) rfl rfl rfl (Nat.le_of_ble_eq_true rfl) ?_
  refine J_iinc (v := 5) d_RF_begin_20 rfl (by decide) (by decide) ?_
  refine J_goto (tgt := 2) d_RF_begin_23 (by decide) ?_
  refine J_iload_n d_RF_begin_2 rfl rfl ?_
  refine J_bipush (v := 8) d_RF_begin_3 (by decide) ?_
  refine J_icmp_ge (tgt := 26) d_RF_begin_5 (by decide) (fun q => absurd q (by decide)) (fun _ => ?_)
  refine J_aload_n d_RF_begin_8 rfl rfl ?_
  refine J_get d_RF_begin_9 xf_RF_33 rfl rfl ?_
  refine J_iload_n d_RF_begin_12 rfl rfl ?_
  refine J_aald d_RF_begin_13 (gt3' hG) rfl (vp_in_nI (n := 5) (by decide) (by decide)) rfl ?_
  refine J_ldc2_w d_RF_begin_14 xj_RF_210 ?_
  refine J_put d_RF_begin_17 xf_RF_147 xt_Bi (fun _ _ _ h => by cases h; rfl) rfl rfl rfl (Nat.le_of_ble_eq_true rfl) ?_
  refine J_iinc (v := 6) d_RF_begin_20 rfl (by decide) (by decide) ?_
  refine J_goto (tgt := 2) d_RF_begin_23 (by decide) ?_
  refine J_iload_n d_RF_begin_2 rfl rfl ?_
  refine J_bipush (v := 8) d_RF_begin_3 (by decide) ?_
  refine J_icmp_ge (tgt := 26) d_RF_begin_5 (by decide) (fun q => absurd q (by decide)) (fun _ => ?_)
  refine J_aload_n d_RF_begin_8 rfl rfl ?_
  refine J_get d_RF_begin_9 xf_RF_33 rfl rfl ?_
  refine J_iload_n d_RF_begin_12 rfl rfl ?_
  refine J_aald d_RF_begin_13 (gt3' hG) rfl (vp_in_nI (n := 6) (by decide) (by decide)) rfl ?_
  refine J_ldc2_w d_RF_begin_14 xj_RF_210 ?_
  refine J_put d_RF_begin_17 xf_RF_147 xt_Bi (fun _ _ _ h => by cases h; rfl) rfl rfl rfl (Nat.le_of_ble_eq_true rfl) ?_
  refine J_iinc (v := 7) d_RF_begin_20 rfl (by decide) (by decide) ?_
  refine J_goto (tgt := 2) d_RF_begin_23 (by decide) ?_
  refine J_iload_n d_RF_begin_2 rfl rfl ?_
  refine J_bipush (v := 8) d_RF_begin_3 (by decide) ?_
  refine J_icmp_ge (tgt := 26) d_RF_begin_5 (by decide) (fun q => absurd q (by decide)) (fun _ => ?_)
  refine J_aload_n d_RF_begin_8 rfl rfl ?_
  refine J_get d_RF_begin_9 xf_RF_33 rfl rfl ?_
  refine J_iload_n d_RF_begin_12 rfl rfl ?_
  refine J_aald d_RF_begin_13 (gt3' hG) rfl (vp_in_nI (n := 7) (by decide) (by decide)) rfl ?_
  refine J_ldc2_w d_RF_begin_14 xj_RF_210 ?_
  refine J_put d_RF_begin_17 xf_RF_147 xt_Bi (fun _ _ _ h => by cases h; rfl) rfl rfl rfl (Nat.le_of_ble_eq_true rfl) ?_
  refine J_iinc (v := 8) d_RF_begin_20 rfl (by decide) (by decide) ?_
  refine J_goto (tgt := 2) d_RF_begin_23 (by decide) ?_
  refine J_iload_n d_RF_begin_2 rfl rfl ?_
  refine J_bipush (v := 8) d_RF_begin_3 (by decide) ?_
  refine J_icmp_ge (tgt := 26) d_RF_begin_5 (by decide) (fun _ => ?_) (fun q => absurd (by decide) q)
  refine J_aload_n d_RF_begin_26 rfl rfl ?_
  refine J_lconst (v := 0) d_RF_begin_27 (by decide) ?_
  refine J_put d_RF_begin_28 xf_RF_199 xt_RF (fun _ _ _ h => by cases h; rfl) rfl rfl rfl (Nat.le_of_ble_eq_true rfl) ?_
  refine J_aload_n d_RF_begin_31 rfl rfl ?_
  refine J_lconst (v := 0) d_RF_begin_32 (by decide) ?_
  refine J_put d_RF_begin_33 xf_RF_202 xt_RF (fun _ _ _ h => by cases h; rfl) rfl rfl rfl (Nat.le_of_ble_eq_true rfl) ?_
  refine J_aload_n d_RF_begin_36 rfl rfl ?_
  refine J_dup d_RF_begin_37 ?_
  refine J_get d_RF_begin_38 xf_RF_205 rfl rfl ?_
  refine J_iconst (v := 1) d_RF_begin_41 (by decide) ?_
  refine J_iadd d_RF_begin_42 ?_
  refine J_put d_RF_begin_43 xf_RF_205 xt_RF (fun _ _ _ h => by cases h; rfl) rfl rfl rfl (Nat.le_of_ble_eq_true rfl) ?_
  exact J_return d_RF_begin_46 rfl rfl
set_option maxHeartbeats 4000000 in
set_option maxRecDepth 100000 in
theorem m_carbon (hG : gTok G) : XM G Y_RF_carbon [.ref 0] (1, ch sa sb lt tt lg bc gi go sh bn sc rw dy pt R) (.inl (some (.long (s_su bn 8 0 0 / 2))), (1, ch sa sb lt tt lg bc gi go sh bn sc rw dy pt R), 0, 0) := by
  refine XM_of (by decide +kernel) (Nat.le_of_ble_eq_true rfl) (Or.inl rfl) ?_
  refine J_lconst (v := 0) d_RF_carbon_0 (by decide) ?_
  refine J_lstore_n d_RF_carbon_1 rfl (by decide) ?_
  refine J_iconst (v := 0) d_RF_carbon_2 (by decide) ?_
  refine J_istore_n d_RF_carbon_3 rfl (by decide) ?_
  refine J_iload_n d_RF_carbon_4 rfl rfl ?_
  refine J_bipush (v := 8) d_RF_carbon_5 (by decide) ?_
  refine J_icmp_ge (tgt := 28) d_RF_carbon_7 (by decide) (fun q => absurd q (by decide)) (fun _ => ?_)
  refine J_lload_n d_RF_carbon_10 rfl rfl ?_
  refine J_aload_n d_RF_carbon_11 rfl rfl ?_
  refine J_get d_RF_carbon_12 xf_RF_33 rfl rfl ?_
  refine J_iload_n d_RF_carbon_15 rfl rfl ?_
  refine J_aald d_RF_carbon_16 (gt3' hG) rfl (vp_in_nI (n := 0) (by decide) (by decide)) rfl ?_
  refine J_get d_RF_carbon_17 xf_RF_141 rfl rfl ?_
  refine J_ladd d_RF_carbon_20 ?_
  refine J_lstore_n d_RF_carbon_21 rfl (by decide) ?_
  refine J_iinc (v := 1) d_RF_carbon_22 rfl (by decide) (by decide) ?_
  refine J_goto (tgt := 4) d_RF_carbon_25 (by decide) ?_
  refine J_iload_n d_RF_carbon_4 rfl rfl ?_
  refine J_bipush (v := 8) d_RF_carbon_5 (by decide) ?_
  refine J_icmp_ge (tgt := 28) d_RF_carbon_7 (by decide) (fun q => absurd q (by decide)) (fun _ => ?_)
  refine J_lload_n d_RF_carbon_10 rfl rfl ?_
  refine J_aload_n d_RF_carbon_11 rfl rfl ?_
  refine J_get d_RF_carbon_12 xf_RF_33 rfl rfl ?_
  refine J_iload_n d_RF_carbon_15 rfl rfl ?_
  refine J_aald d_RF_carbon_16 (gt3' hG) rfl (vp_in_nI (n := 1) (by decide) (by decide)) rfl ?_
  refine J_get d_RF_carbon_17 xf_RF_141 rfl rfl ?_
  refine J_ladd d_RF_carbon_20 ?_
  refine J_lstore_n d_RF_carbon_21 rfl (by decide) ?_
  refine J_iinc (v := 2) d_RF_carbon_22 rfl (by decide) (by decide) ?_
  refine J_goto (tgt := 4) d_RF_carbon_25 (by decide) ?_
  refine J_iload_n d_RF_carbon_4 rfl rfl ?_
  refine J_bipush (v := 8) d_RF_carbon_5 (by decide) ?_
  refine J_icmp_ge (tgt := 28) d_RF_carbon_7 (by decide) (fun q => absurd q (by decide)) (fun _ => ?_)
  refine J_lload_n d_RF_carbon_10 rfl rfl ?_
  refine J_aload_n d_RF_carbon_11 rfl rfl ?_
  refine J_get d_RF_carbon_12 xf_RF_33 rfl rfl ?_
  refine J_iload_n d_RF_carbon_15 rfl rfl ?_
  refine J_aald d_RF_carbon_16 (gt3' hG) rfl (vp_in_nI (n := 2) (by decide) (by decide)) rfl ?_
  refine J_get d_RF_carbon_17 xf_RF_141 rfl rfl ?_
  refine J_ladd d_RF_carbon_20 ?_
  refine J_lstore_n d_RF_carbon_21 rfl (by decide) ?_
  refine J_iinc (v := 3) d_RF_carbon_22 rfl (by decide) (by decide) ?_
  refine J_goto (tgt := 4) d_RF_carbon_25 (by decide) ?_
  refine J_iload_n d_RF_carbon_4 rfl rfl ?_
  refine J_bipush (v := 8) d_RF_carbon_5 (by decide) ?_
  refine J_icmp_ge (tgt := 28) d_RF_carbon_7 (by decide) (fun q => absurd q (by decide)) (fun _ => ?_)
  refine J_lload_n d_RF_carbon_10 rfl rfl ?_
  refine J_aload_n d_RF_carbon_11 rfl rfl ?_
  refine J_get d_RF_carbon_12 xf_RF_33 rfl rfl ?_
  refine J_iload_n d_RF_carbon_15 rfl rfl ?_
  refine J_aald d_RF_carbon_16 (gt3' hG) rfl (vp_in_nI (n := 3) (by decide) (by decide)) rfl ?_
  refine J_get d_RF_carbon_17 xf_RF_141 rfl rfl ?_
  refine J_ladd d_RF_carbon_20 ?_
  refine J_lstore_n d_RF_carbon_21 rfl (by decide) ?_
  refine J_iinc (v := 4) d_RF_carbon_22 rfl (by decide) (by decide) ?_
  refine J_goto (tgt := 4) d_RF_carbon_25 (by decide) ?_
  refine J_iload_n d_RF_carbon_4 rfl rfl ?_
  refine J_bipush (v := 8) d_RF_carbon_5 (by decide) ?_
  refine J_icmp_ge (tgt := 28) d_RF_carbon_7 (by decide) (fun q => absurd q (by decide)) (fun _ => ?_)
  refine J_lload_n d_RF_carbon_10 rfl rfl ?_
  refine J_aload_n d_RF_carbon_11 rfl rfl ?_
  refine J_get d_RF_carbon_12 xf_RF_33 rfl rfl ?_
  refine J_iload_n d_RF_carbon_15 rfl rfl ?_
  refine J_aald d_RF_carbon_16 (gt3' hG) rfl (vp_in_nI (n := 4) (by decide) (by decide)) rfl ?_
  refine J_get d_RF_carbon_17 xf_RF_141 rfl rfl ?_
  refine J_ladd d_RF_carbon_20 ?_
  refine J_lstore_n d_RF_carbon_21 rfl (by decide) ?_
  refine J_iinc (v := 5) d_RF_carbon_22 rfl (by decide) (by decide) ?_
  refine J_goto (tgt := 4) d_RF_carbon_25 (by decide) ?_
  refine J_iload_n d_RF_carbon_4 rfl rfl ?_
  refine J_bipush (v := 8) d_RF_carbon_5 (by decide) ?_
  refine J_icmp_ge (tgt := 28) d_RF_carbon_7 (by decide) (fun q => absurd q (by decide)) (fun _ => ?_)
  refine J_lload_n d_RF_carbon_10 rfl rfl ?_
  refine J_aload_n d_RF_carbon_11 rfl rfl ?_
  refine J_get d_RF_carbon_12 xf_RF_33 rfl rfl ?_
  refine J_iload_n d_RF_carbon_15 rfl rfl ?_
  refine J_aald d_RF_carbon_16 (gt3' hG) rfl (vp_in_nI (n := 5) (by decide) (by decide)) rfl ?_
  refine J_get d_RF_carbon_17 xf_RF_141 rfl rfl ?_
  refine J_ladd d_RF_carbon_20 ?_
  refine J_lstore_n d_RF_carbon_21 rfl (by decide) ?_
  refine J_iinc (v := 6) d_RF_carbon_22 rfl (by decide) (by decide) ?_
  refine J_goto (tgt := 4) d_RF_carbon_25 (by decide) ?_
  refine J_iload_n d_RF_carbon_4 rfl rfl ?_
  refine J_bipush (v := 8) d_RF_carbon_5 (by decide) ?_
  refine J_icmp_ge (tgt := 28) d_RF_carbon_7 (by decide) (fun q => absurd q (by decide)) (fun _ => ?_)
  refine J_lload_n d_RF_carbon_10 rfl rfl ?_
  refine J_aload_n d_RF_carbon_11 rfl rfl ?_
  refine J_get d_RF_carbon_12 xf_RF_33 rfl rfl ?_
  refine J_iload_n d_RF_carbon_15 rfl rfl ?_
  refine J_aald d_RF_carbon_16 (gt3' hG) rfl (vp_in_nI (n := 6) (by decide) (by decide)) rfl ?_
  refine J_get d_RF_carbon_17 xf_RF_141 rfl rfl ?_
  refine J_ladd d_RF_carbon_20 ?_
  refine J_lstore_n d_RF_carbon_21 rfl (by decide) ?_
  refine J_iinc (v := 7) d_RF_carbon_22 rfl (by decide) (by decide) ?_
  refine J_goto (tgt := 4) d_RF_carbon_25 (by decide) ?_
  refine J_iload_n d_RF_carbon_4 rfl rfl ?_
  refine J_bipush (v := 8) d_RF_carbon_5 (by decide) ?_
  refine J_icmp_ge (tgt := 28) d_RF_carbon_7 (by decide) (fun q => absurd q (by decide)) (fun _ => ?_)
  refine J_lload_n d_RF_carbon_10 rfl rfl ?_
  refine J_aload_n d_RF_carbon_11 rfl rfl ?_
  refine J_get d_RF_carbon_12 xf_RF_33 rfl rfl ?_
  refine J_iload_n d_RF_carbon_15 rfl rfl ?_
  refine J_aald d_RF_carbon_16 (gt3' hG) rfl (vp_in_nI (n := 7) (by decide) (by decide)) rfl ?_
  refine J_get d_RF_carbon_17 xf_RF_141 rfl rfl ?_
  refine J_ladd d_RF_carbon_20 ?_
  refine J_lstore_n d_RF_carbon_21 rfl (by decide) ?_
  refine J_iinc (v := 8) d_RF_carbon_22 rfl (by decide) (by decide) ?_
  refine J_goto (tgt := 4) d_RF_carbon_25 (by decide) ?_
  refine J_iload_n d_RF_carbon_4 rfl rfl ?_
  refine J_bipush (v := 8) d_RF_carbon_5 (by decide) ?_
  refine J_icmp_ge (tgt := 28) d_RF_carbon_7 (by decide) (fun _ => ?_) (fun q => absurd (by decide) q)
  refine J_lload_n d_RF_carbon_28 rfl rfl ?_
  refine J_ldc2_w d_RF_carbon_29 xj_RF_278 ?_
  refine J_ldiv d_RF_carbon_32 (by decide) ?_
  exact J_lreturn d_RF_carbon_33 rfl rfl
theorem J_loc {k : Nat × Nat} {y : xY} {pc : Nat} {L L2 : List (Nat × Value)} {st : List Value} {w : xH} {r : xR} (e : L = L2) (h : JW G y k pc L2 st w r) : JW G y k pc L st w r := by
  subst e
  exact h
theorem J_res {k : Nat × Nat} {y : xY} {pc : Nat} {L : List (Nat × Value)} {st : List Value} {w : xH} {r r2 : xR} (e : r2 = r) (h : JW G y k pc L st w r2) : JW G y k pc L st w r := by
  subst e
  exact h
set_option maxHeartbeats 4000000 in
set_option maxRecDepth 100000 in
theorem l_gramsLost (hG : gTok G) : ∀ (m i : Nat) (acc : Int64), i + m = 8 → JW G Y_RF_gramsLost (0, 0) 4 [(3, .int (nI i)), (1, .long acc), (0, .ref 0)] [] (1, ch sa sb lt tt lg bc gi go sh bn sc rw dy pt R) (.inl (some (.long (s_gl bn m i acc))), (1, ch sa sb lt tt lg bc gi go sh bn sc rw dy pt R), 0, 0) := by
  intro m
  induction m with
  | zero =>
    intro i acc hi
    have hi : i = 8 := by omega
    subst hi
    refine J_iload_n d_RF_gramsLost_4 rfl rfl ?_
    refine J_bipush (v := 8) d_RF_gramsLost_5 (by decide) ?_
    refine J_icmp_ge (tgt := 54) d_RF_gramsLost_7 (by decide) (fun _ => ?_) (fun q => absurd (by decide) q)
    refine J_lload_n d_RF_gramsLost_54 rfl rfl ?_
    exact J_lreturn d_RF_gramsLost_55 rfl rfl
  | succ m ih =>
    intro i acc hi
    have hi8 : i < 8 := by omega
    refine J_iload_n d_RF_gramsLost_4 rfl rfl ?_
    refine J_bipush (v := 8) d_RF_gramsLost_5 (by decide) ?_
    refine J_icmp_ge (tgt := 54) d_RF_gramsLost_7 (by decide) (fun c7 => ?_) (fun c7 => ?_)
    · skip
      exact absurd c7 (nI_ge hi8 (by decide))
    · skip
      refine J_aload_n d_RF_gramsLost_10 rfl rfl ?_
      refine J_get d_RF_gramsLost_11 xf_RF_33 rfl rfl ?_
      refine J_iload_n d_RF_gramsLost_14 rfl rfl ?_
      refine J_aald d_RF_gramsLost_15 (gt3' hG) rfl (vp_in_nI hi8 (by decide)) (by rw [nI_clamp (by omega)]; exact fB_at hi8) ?_
      refine J_get d_RF_gramsLost_16 xf_RF_147 (ch_bin hi8) rfl ?_
      refine J_ldc2_w d_RF_gramsLost_19 xj_RF_210 ?_
      refine J_lcmp d_RF_gramsLost_22 ?_
      refine J_lif_eq (tgt := 48) d_RF_gramsLost_23 (by decide) (fun c23 => ?_) (fun c23 => ?_)
      · skip
        refine J_iinc (v := nI (i + 1)) d_RF_gramsLost_48 rfl (nI_1 i) (by decide) ?_
        refine J_goto (tgt := 4) d_RF_gramsLost_51 (by decide) ?_
        refine J_loc (L2 := [(3, .int (nI (i + 1))), (1, .long acc), (0, .ref 0)]) rfl ?_
        refine J_res (r2 := (.inl (some (.long (s_gl bn m (i + 1) acc))), (1, ch sa sb lt tt lg bc gi go sh bn sc rw dy pt R), 0, 0)) (by simp only [s_gl, c23, if_true, if_false]) ?_
        exact ih (i + 1) _ (by omega)
      · skip
        refine J_lload_n d_RF_gramsLost_26 rfl rfl ?_
        refine J_aload_n d_RF_gramsLost_27 rfl rfl ?_
        refine J_get d_RF_gramsLost_28 xf_RF_33 rfl rfl ?_
        refine J_iload_n d_RF_gramsLost_31 rfl rfl ?_
        refine J_aald d_RF_gramsLost_32 (gt3' hG) rfl (vp_in_nI hi8 (by decide)) (by rw [nI_clamp (by omega)]; exact fB_at hi8) ?_
        refine J_callP (xGo_v0 d_RF_gramsLost_33 xc_RF_150 (ch_bin hi8) rfl rfl) ⟨xq_Bi_grams.1, xq_Bi_grams.2.1⟩ ⟨Nat.le_of_ble_eq_true rfl, Nat.le_of_ble_eq_true rfl, Nat.le_of_ble_eq_true rfl, Nat.le_of_ble_eq_true rfl⟩ (Nat.le_of_ble_eq_true rfl) (m_Bi_grams (ch_bin hi8)) ?_
        refine J_aload_n d_RF_gramsLost_36 rfl rfl ?_
        refine J_get d_RF_gramsLost_37 xf_RF_33 rfl rfl ?_
        refine J_iload_n d_RF_gramsLost_40 rfl rfl ?_
        refine J_aald d_RF_gramsLost_41 (gt3' hG) rfl (vp_in_nI hi8 (by decide)) (by rw [nI_clamp (by omega)]; exact fB_at hi8) ?_
        refine J_get d_RF_gramsLost_42 xf_RF_147 (ch_bin hi8) rfl ?_
        refine J_lsub d_RF_gramsLost_45 ?_
        refine J_ladd d_RF_gramsLost_46 ?_
        refine J_lstore_n d_RF_gramsLost_47 rfl (by decide) ?_
        refine J_iinc (v := nI (i + 1)) d_RF_gramsLost_48 rfl (nI_1 i) (by decide) ?_
        refine J_goto (tgt := 4) d_RF_gramsLost_51 (by decide) ?_
        refine J_loc (L2 := [(3, .int (nI (i + 1))), (1, .long (acc + (s_gr (bn i) - (bn i).2.2.2.2.1))), (0, .ref 0)]) rfl ?_
        refine J_res (r2 := (.inl (some (.long (s_gl bn m (i + 1) (acc + (s_gr (bn i) - (bn i).2.2.2.2.1))))), (1, ch sa sb lt tt lg bc gi go sh bn sc rw dy pt R), 0, 0)) (by simp only [s_gl, c23, if_true, if_false]) ?_
        exact ih (i + 1) _ (by omega)
set_option maxHeartbeats 4000000 in
set_option maxRecDepth 100000 in
theorem m_gramsLost (hG : gTok G) : XM G Y_RF_gramsLost [.ref 0] (1, ch sa sb lt tt lg bc gi go sh bn sc rw dy pt R) (.inl (some (.long (s_gl bn 8 0 0))), (1, ch sa sb lt tt lg bc gi go sh bn sc rw dy pt R), 0, 0) := by
  refine XM_of (by decide +kernel) (Nat.le_of_ble_eq_true rfl) (Or.inl rfl) ?_
  refine J_lconst (v := 0) d_RF_gramsLost_0 (by decide) ?_
  refine J_lstore_n d_RF_gramsLost_1 rfl (by decide) ?_
  refine J_iconst (v := 0) d_RF_gramsLost_2 (by decide) ?_
  refine J_istore_n d_RF_gramsLost_3 rfl (by decide) ?_
  exact J_loc rfl (l_gramsLost hG 8 0 0 rfl)
set_option maxHeartbeats 4000000 in
set_option maxRecDepth 100000 in
theorem m_shift {q : Int32} (hG : gTok G) : XM G Y_RF_shift [.ref 0, .int q] (1, ch sa sb lt tt lg bc gi go sh bn sc rw dy pt R) (if q = 0 then (.inl (some (.long (s_gl bn 8 0 0))), (1, ch sa sb lt tt lg bc gi go sh bn sc rw dy pt R), 0, 0) else (if q = 1 then (.inl (some (.long (gi))), (1, ch sa sb lt tt lg bc gi go sh bn sc rw dy pt R), 0, 0) else (if q = 2 then (.inl (some (.long (go))), (1, ch sa sb lt tt lg bc gi go sh bn sc rw dy pt R), 0, 0) else (if q = 3 then (.inl (some (.long (sh.toInt64))), (1, ch sa sb lt tt lg bc gi go sh bn sc rw dy pt R), 0, 0) else (.inr "java/lang/IndexOutOfBoundsException", (0, ch sa sb lt tt lg bc gi go sh bn sc rw dy pt R), 1, 6))))) := by
  refine XM_of (by decide +kernel) (Nat.le_of_ble_eq_true rfl) (Or.inl rfl) ?_
  refine J_iload_n d_RF_shift_0 rfl rfl ?_
  by_cases e0 : q = 0
  · subst e0
    refine J_tableIn (tgt := 32) d_RF_shift_1 (by decide) (by decide) rfl (by decide) ?_
    refine J_aload_n d_RF_shift_32 rfl rfl ?_
    refine J_callP (xGo_v0 d_RF_shift_33 xc_RF_196 rfl rfl rfl) ⟨xq_RF_gramsLost.1, xq_RF_gramsLost.2.1⟩ ⟨Nat.le_of_ble_eq_true rfl, Nat.le_of_ble_eq_true rfl, Nat.le_of_ble_eq_true rfl, Nat.le_of_ble_eq_true rfl⟩ (Nat.le_of_ble_eq_true rfl) (m_gramsLost hG) ?_
    exact J_lreturn d_RF_shift_36 rfl rfl
  by_cases e1 : q = 1
  · subst e1
    refine J_tableIn (tgt := 37) d_RF_shift_1 (by decide) (by decide) rfl (by decide) ?_
    refine J_aload_n d_RF_shift_37 rfl rfl ?_
    refine J_get d_RF_shift_38 xf_RF_199 rfl rfl ?_
    exact J_lreturn d_RF_shift_41 rfl rfl
  by_cases e2 : q = 2
  · subst e2
    refine J_tableIn (tgt := 42) d_RF_shift_1 (by decide) (by decide) rfl (by decide) ?_
    refine J_aload_n d_RF_shift_42 rfl rfl ?_
    refine J_get d_RF_shift_43 xf_RF_202 rfl rfl ?_
    exact J_lreturn d_RF_shift_46 rfl rfl
  by_cases e3 : q = 3
  · subst e3
    refine J_tableIn (tgt := 47) d_RF_shift_1 (by decide) (by decide) rfl (by decide) ?_
    refine J_aload_n d_RF_shift_47 rfl rfl ?_
    refine J_get d_RF_shift_48 xf_RF_205 rfl rfl ?_
    refine J_i2l d_RF_shift_51 ?_
    exact J_lreturn d_RF_shift_52 rfl rfl
  refine J_tableOut (tgt := 53) d_RF_shift_1 (by have q0 := ti (n := 0) 0 (by decide) e0; have q1 := ti (n := 1) 1 (by decide) e1; have q2 := ti (n := 2) 2 (by decide) e2; have q3 := ti (n := 3) 3 (by decide) e3; omega) (by decide) ?_
  exact J_throw xh_RF_52 xs_RF_208 ⟨Nat.le_of_ble_eq_true rfl, Nat.le_of_ble_eq_true rfl, Nat.le_of_ble_eq_true rfl, Nat.le_of_ble_eq_true rfl⟩ rfl d_RF_shift_53 d_RF_shift_56 d_RF_shift_57 d_RF_shift_59 d_RF_shift_62 rfl rfl (by simp only [e0, e1, e2, e3, if_false])
end XC2
