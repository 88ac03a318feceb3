section XW2
variable {G : xG}
theorem ix_in {j c N : Nat} (hc : c < 7) (hN : N ≤ 3584) (h : 7 * j + 7 ≤ N) : vp_in (nI (7 * j) + nI c) N := by
  rw [nI_add]
  exact vp_in_nI (by omega) (by omega)
theorem ix_lt {j N : Nat} (hj : j ≤ 512) (hN : N ≤ 3584) (h : ¬ Int32.ofNat N - 7 < nI (7 * j)) : 7 * j + 7 ≤ N := by
  have e0 : (Int32.ofNat N).toInt = (N : Int) := nI_ti (n := N) (by omega)
  have e7 : (7 : Int32).toInt = 7 := by decide
  rw [Int32.lt_iff_toInt_lt, nI_ti (by omega), Jvm.Kit.i32_sub (by rw [e0, e7]; omega) (by rw [e0, e7]; omega), e0, e7] at h
  omega
theorem Inv_up {j : Nat} {h : List va_E} (hI : Inv j h) : Inv (j + 1) h := by
  obtain ⟨th, ab, be, lg, lt, sm, nb, kd, ms, dr, wa, re, lo, hi, scm, ou, sr, gi, go, ns, nr, dy, pt, td, tw, o, hP, rfl⟩ := hI
  exact ⟨th, ab, be, lg, lt, sm, nb, kd, ms, dr, wa, re, lo, hi, scm, ou, sr, gi, go, ns, nr, dy, pt, td, tw, o, PI_up (Nat.le_succ j) hP, rfl⟩
set_option maxHeartbeats 4000000 in
set_option maxRecDepth 100000 in
theorem law_round {j : Nat} {h : List va_E} (hG : gTok G) (hN : gN G ≤ 3584) (hj : j ≤ 512) (hI : Inv j h) (nxt : 7 * j + 7 ≤ gN G → ∀ h2, Inv (j + 1) h2 → JW G Y_La_law (40 + j + 1, 277 + 6 * j + 6) 1362 (LL (nI (7 * j))) [] (0, h2) (.inl (some (.int 1)), (0, []), 552, 3349)) : JW G Y_La_law (40 + j, 277 + 6 * j) 23 (LL (nI (7 * j))) [] (0, h) (.inl (some (.int 1)), (0, []), 552, 3349) := by
    unfold LL
    refine J_iload d_La_law_23 rfl ?_
    refine J_sload_n d_La_law_25 rfl rfl ?_
    refine J_slen d_La_law_26 ?_
    refine J_bipush (v := 7) d_La_law_27 (by decide) ?_
    refine J_isub d_La_law_29 ?_
    refine J_icmp_gt (tgt := 1368) d_La_law_30 (by decide) (fun c30 => ?_) (fun c30 => ?_)
    · skip
      refine J_nil ?_
      refine J_widen (k2 := (552, 3349)) (show 40 + j ≤ 552 by omega) (show 277 + 6 * j ≤ 3349 by omega) (show ¬ (0 : Nat) = 2 by decide) ?_
      refine J_iconst (v := 1) d_La_law_1368 (by decide) ?_
      exact J_zreturn d_La_law_1369 rfl rfl rfl
    · skip
      have hlt := ix_lt hj hN c30
      have hx0 : vp_in (nI (7 * j)) (gN G) := by
        have := ix_in (c := 0) (by decide) hN hlt
        rw [show nI (7 * j) + nI 0 = nI (7 * j) from Int32.add_zero _] at this
        exact this
      have nx := nxt hlt
      refine J_sload_n d_La_law_33 rfl rfl ?_
      refine J_iload d_La_law_34 rfl ?_
      refine J_sald d_La_law_36 hx0 ?_
      refine J_bipush (v := 31) d_La_law_37 (by decide) ?_
      refine J_iand d_La_law_39 ?_
      by_cases e0 : (gx G (nI (7 * j)).toNatClampNeg &&& 31).toInt = 0
      · exact J_tableIn (tgt := 128) d_La_law_40 (by omega) (by omega) (by rw [e0]; rfl) (by decide) (law_share hG (by omega) hI (by omega) (by omega) (ix_in (c := 1) (by decide) hN hlt) (ix_in (c := 2) (by decide) hN hlt) (ix_in (c := 3) (by decide) hN hlt) (ix_in (c := 4) (by decide) hN hlt) (ix_in (c := 5) (by decide) hN hlt) (ix_in (c := 6) (by decide) hN hlt) nx)
      by_cases e1 : (gx G (nI (7 * j)).toNatClampNeg &&& 31).toInt = 1
      · exact J_tableIn (tgt := 188) d_La_law_40 (by omega) (by omega) (by rw [e1]; rfl) (by decide) (law_log hG (by omega) hI (by omega) (by omega) (ix_in (c := 1) (by decide) hN hlt) (ix_in (c := 2) (by decide) hN hlt) (ix_in (c := 3) (by decide) hN hlt) (ix_in (c := 4) (by decide) hN hlt) (ix_in (c := 5) (by decide) hN hlt) (ix_in (c := 6) (by decide) hN hlt) nx)
      by_cases e2 : (gx G (nI (7 * j)).toNatClampNeg &&& 31).toInt = 2
      · exact J_tableIn (tgt := 268) d_La_law_40 (by omega) (by omega) (by rw [e2]; rfl) (by decide) (law_volume hG (by omega) hI (by omega) (by omega) (ix_in (c := 1) (by decide) hN hlt) (ix_in (c := 2) (by decide) hN hlt) (ix_in (c := 3) (by decide) hN hlt) (ix_in (c := 4) (by decide) hN hlt) (ix_in (c := 5) (by decide) hN hlt) (ix_in (c := 6) (by decide) hN hlt) nx)
      by_cases e3 : (gx G (nI (7 * j)).toNatClampNeg &&& 31).toInt = 3
      · exact J_tableIn (tgt := 351) d_La_law_40 (by omega) (by omega) (by rw [e3]; rfl) (by decide) (law_boards hG (by omega) hI (by omega) (by omega) (ix_in (c := 1) (by decide) hN hlt) (ix_in (c := 2) (by decide) hN hlt) (ix_in (c := 3) (by decide) hN hlt) (ix_in (c := 4) (by decide) hN hlt) (ix_in (c := 5) (by decide) hN hlt) (ix_in (c := 6) (by decide) hN hlt) nx)
      by_cases e4 : (gx G (nI (7 * j)).toNatClampNeg &&& 31).toInt = 4
      · exact J_tableIn (tgt := 422) d_La_law_40 (by omega) (by omega) (by rw [e4]; rfl) (by decide) (law_bin hG (by omega) hI (by omega) (by omega) (ix_in (c := 1) (by decide) hN hlt) (ix_in (c := 2) (by decide) hN hlt) (ix_in (c := 3) (by decide) hN hlt) (ix_in (c := 4) (by decide) hN hlt) (ix_in (c := 5) (by decide) hN hlt) (ix_in (c := 6) (by decide) hN hlt) nx)
      by_cases e5 : (gx G (nI (7 * j)).toNatClampNeg &&& 31).toInt = 5
      · exact J_tableIn (tgt := 490) d_La_law_40 (by omega) (by omega) (by rw [e5]; rfl) (by decide) (law_pour hG (by omega) hI (by omega) (by omega) (ix_in (c := 1) (by decide) hN hlt) (ix_in (c := 2) (by decide) hN hlt) (ix_in (c := 3) (by decide) hN hlt) (ix_in (c := 4) (by decide) hN hlt) (ix_in (c := 5) (by decide) hN hlt) (ix_in (c := 6) (by decide) hN hlt) nx)
      by_cases e6 : (gx G (nI (7 * j)).toNatClampNeg &&& 31).toInt = 6
      · exact J_tableIn (tgt := 577) d_La_law_40 (by omega) (by omega) (by rw [e6]; rfl) (by decide) (law_about hG (by omega) hI (by omega) (by omega) (ix_in (c := 1) (by decide) hN hlt) (ix_in (c := 2) (by decide) hN hlt) (ix_in (c := 3) (by decide) hN hlt) (ix_in (c := 4) (by decide) hN hlt) (ix_in (c := 5) (by decide) hN hlt) (ix_in (c := 6) (by decide) hN hlt) nx)
      by_cases e7 : (gx G (nI (7 * j)).toNatClampNeg &&& 31).toInt = 7
      · exact J_tableIn (tgt := 644) d_La_law_40 (by omega) (by omega) (by rw [e7]; rfl) (by decide) (law_screen hG (by omega) hI (by omega) (by omega) (ix_in (c := 1) (by decide) hN hlt) (ix_in (c := 2) (by decide) hN hlt) (ix_in (c := 3) (by decide) hN hlt) (ix_in (c := 4) (by decide) hN hlt) (ix_in (c := 5) (by decide) hN hlt) (ix_in (c := 6) (by decide) hN hlt) nx)
      by_cases e8 : (gx G (nI (7 * j)).toNatClampNeg &&& 31).toInt = 8
      · exact J_tableIn (tgt := 742) d_La_law_40 (by omega) (by omega) (by rw [e8]; rfl) (by decide) (law_send hG (by omega) hI (by omega) (by omega) (ix_in (c := 1) (by decide) hN hlt) (ix_in (c := 2) (by decide) hN hlt) (ix_in (c := 3) (by decide) hN hlt) (ix_in (c := 4) (by decide) hN hlt) (ix_in (c := 5) (by decide) hN hlt) (ix_in (c := 6) (by decide) hN hlt) nx)
      by_cases e9 : (gx G (nI (7 * j)).toNatClampNeg &&& 31).toInt = 9
      · exact J_tableIn (tgt := 829) d_La_law_40 (by omega) (by omega) (by rw [e9]; rfl) (by decide) (law_scale hG (by omega) hI (by omega) (by omega) (ix_in (c := 1) (by decide) hN hlt) (ix_in (c := 2) (by decide) hN hlt) (ix_in (c := 3) (by decide) hN hlt) (ix_in (c := 4) (by decide) hN hlt) (ix_in (c := 5) (by decide) hN hlt) (ix_in (c := 6) (by decide) hN hlt) nx)
      by_cases e10 : (gx G (nI (7 * j)).toNatClampNeg &&& 31).toInt = 10
      · exact J_tableIn (tgt := 909) d_La_law_40 (by omega) (by omega) (by rw [e10]; rfl) (by decide) (law_shift hG (by omega) hI (by omega) (by omega) (ix_in (c := 1) (by decide) hN hlt) (ix_in (c := 2) (by decide) hN hlt) (ix_in (c := 3) (by decide) hN hlt) (ix_in (c := 4) (by decide) hN hlt) (ix_in (c := 5) (by decide) hN hlt) (ix_in (c := 6) (by decide) hN hlt) nx)
      by_cases e11 : (gx G (nI (7 * j)).toNatClampNeg &&& 31).toInt = 11
      · exact J_tableIn (tgt := 964) d_La_law_40 (by omega) (by omega) (by rw [e11]; rfl) (by decide) (law_begin hG (by omega) hI (by omega) (by omega) (ix_in (c := 1) (by decide) hN hlt) (ix_in (c := 2) (by decide) hN hlt) (ix_in (c := 3) (by decide) hN hlt) (ix_in (c := 4) (by decide) hN hlt) (ix_in (c := 5) (by decide) hN hlt) (ix_in (c := 6) (by decide) hN hlt) nx)
      by_cases e12 : (gx G (nI (7 * j)).toNatClampNeg &&& 31).toInt = 12
      · exact J_tableIn (tgt := 975) d_La_law_40 (by omega) (by omega) (by rw [e12]; rfl) (by decide) (law_row hG (by omega) hI (by omega) (by omega) (ix_in (c := 1) (by decide) hN hlt) (ix_in (c := 2) (by decide) hN hlt) (ix_in (c := 3) (by decide) hN hlt) (ix_in (c := 4) (by decide) hN hlt) (ix_in (c := 5) (by decide) hN hlt) (ix_in (c := 6) (by decide) hN hlt) nx)
      by_cases e13 : (gx G (nI (7 * j)).toNatClampNeg &&& 31).toInt = 13
      · exact J_tableIn (tgt := 1043) d_La_law_40 (by omega) (by omega) (by rw [e13]; rfl) (by decide) (law_burn hG (by omega) hI (by omega) (by omega) (ix_in (c := 1) (by decide) hN hlt) (ix_in (c := 2) (by decide) hN hlt) (ix_in (c := 3) (by decide) hN hlt) (ix_in (c := 4) (by decide) hN hlt) (ix_in (c := 5) (by decide) hN hlt) (ix_in (c := 6) (by decide) hN hlt) nx)
      by_cases e14 : (gx G (nI (7 * j)).toNatClampNeg &&& 31).toInt = 14
      · exact J_tableIn (tgt := 1122) d_La_law_40 (by omega) (by omega) (by rw [e14]; rfl) (by decide) (law_sell hG (by omega) hI (by omega) (by omega) (ix_in (c := 1) (by decide) hN hlt) (ix_in (c := 2) (by decide) hN hlt) (ix_in (c := 3) (by decide) hN hlt) (ix_in (c := 4) (by decide) hN hlt) (ix_in (c := 5) (by decide) hN hlt) (ix_in (c := 6) (by decide) hN hlt) nx)
      by_cases e15 : (gx G (nI (7 * j)).toNatClampNeg &&& 31).toInt = 15
      · exact J_tableIn (tgt := 1201) d_La_law_40 (by omega) (by omega) (by rw [e15]; rfl) (by decide) (law_span hG (by omega) hI (by omega) (by omega) (ix_in (c := 1) (by decide) hN hlt) (ix_in (c := 2) (by decide) hN hlt) (ix_in (c := 3) (by decide) hN hlt) (ix_in (c := 4) (by decide) hN hlt) (ix_in (c := 5) (by decide) hN hlt) (ix_in (c := 6) (by decide) hN hlt) nx)
      by_cases e16 : (gx G (nI (7 * j)).toNatClampNeg &&& 31).toInt = 16
      · exact J_tableIn (tgt := 1261) d_La_law_40 (by omega) (by omega) (by rw [e16]; rfl) (by decide) (law_mix hG (by omega) hI (by omega) (by omega) (ix_in (c := 1) (by decide) hN hlt) (ix_in (c := 2) (by decide) hN hlt) (ix_in (c := 3) (by decide) hN hlt) (ix_in (c := 4) (by decide) hN hlt) (ix_in (c := 5) (by decide) hN hlt) (ix_in (c := 6) (by decide) hN hlt) nx)
      by_cases e17 : (gx G (nI (7 * j)).toNatClampNeg &&& 31).toInt = 17
      · exact J_tableIn (tgt := 1348) d_La_law_40 (by omega) (by omega) (by rw [e17]; rfl) (by decide) (law_carbon hG (by omega) hI (by omega) (by omega) (ix_in (c := 1) (by decide) hN hlt) (ix_in (c := 2) (by decide) hN hlt) (ix_in (c := 3) (by decide) hN hlt) (ix_in (c := 4) (by decide) hN hlt) (ix_in (c := 5) (by decide) hN hlt) (ix_in (c := 6) (by decide) hN hlt) nx)
      refine J_tableOut (tgt := 1362) d_La_law_40 (by omega) (by decide) ?_
      refine J_widen (k2 := (40 + j + 1, 277 + 6 * j + 6)) (Nat.le_add_right _ _) (Nat.le_add_right _ _) (show ¬ (0 : Nat) = 2 by decide) ?_
      exact nx _ (Inv_up hI)
set_option maxHeartbeats 4000000 in
theorem law_loop (hG : gTok G) (hN : gN G ≤ 3584) : ∀ (n j : Nat) (h : List va_E), gN G ≤ 7 * j + n → j ≤ 512 → Inv j h → JW G Y_La_law (40 + j, 277 + 6 * j) 23 (LL (nI (7 * j))) [] (0, h) (.inl (some (.int 1)), (0, []), 552, 3349) := by
  intro n
  induction n with
  | zero =>
    intro j h hn hj hI
    exact law_round hG hN hj hI (fun q => absurd q (by omega))
  | succ n ih =>
    intro j h hn hj hI
    refine law_round hG hN hj hI (fun q h2 hI2 => ?_)
    have e : nI (7 * j) + Int32.ofInt 7 = nI (7 * (j + 1)) := by
      rw [show Int32.ofInt 7 = nI 7 from rfl, nI_add]
      rfl
    refine J_iinc d_La_law_1362 rfl e (by decide) ?_
    refine J_back rfl rfl rfl rfl rfl ?_
    refine J_goto (tgt := 23) d_La_law_1365 (by decide) ?_
    exact J_widen (k2 := (40 + (j + 1), 277 + 6 * (j + 1))) (show 40 + j + 1 ≤ 40 + (j + 1) by omega) (show 277 + 6 * j + 6 ≤ 277 + 6 * (j + 1) by omega) (show ¬ (0 : Nat) = 2 by decide) (ih (j + 1) h2 (by omega) (by omega) hI2)
end XW2
