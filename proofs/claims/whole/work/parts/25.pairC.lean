section XP3
variable {G : xG} {j : Nat} {h : List va_E}
theorem s3c {t c : Nat} (ht : t < 4) (hc : c < 3) : (3 * nI t + nI c).toNatClampNeg = 3 * t + c := by
  rw [show (3 : Int32) = nI 3 from rfl, pk_mul, nI_add]
  exact nI_clamp (by omega)
theorem s3z {t : Nat} (ht : t < 4) : (3 * nI t).toNatClampNeg = 3 * t := by
  rw [show (3 : Int32) = nI 3 from rfl, pk_mul]
  exact nI_clamp (by omega)
theorem s30 {t : Nat} (ht : t < 4) : (3 * nI t + 0).toNatClampNeg = 3 * t := s3c (c := 0) ht (by decide)
theorem s31 {t : Nat} (ht : t < 4) : (3 * nI t + 1).toNatClampNeg = 3 * t + 1 := s3c (c := 1) ht (by decide)
theorem s32 {t : Nat} (ht : t < 4) : (3 * nI t + 2).toNatClampNeg = 3 * t + 2 := s3c (c := 2) ht (by decide)
theorem okS_n {t : Nat} (ht : t < 4) : okS (nI t) := by
  unfold okS
  rw [Int32.lt_iff_toInt_lt, Int32.lt_iff_toInt_lt, nI_ti (by omega), l0, l4]
  omega
theorem of_okS {n : Int32} (h : okS n) : ∃ t, t < 4 ∧ n = nI t := ⟨_, (okS_lt h).1, (okS_lt h).2.1⟩
theorem u3a {f : Nat → Int32} {t : Nat} {x y z : Int32} : upd (upd (upd f (3 * t) x) (3 * t + 1) y) (3 * t + 2) z (3 * t) = x := by
  unfold upd; rw [if_neg (by omega), if_neg (by omega), if_pos rfl]
theorem u3b {f : Nat → Int32} {t : Nat} {x y z : Int32} : upd (upd (upd f (3 * t) x) (3 * t + 1) y) (3 * t + 2) z (3 * t + 1) = y := by
  unfold upd; rw [if_neg (by omega), if_pos rfl]
theorem u3c {f : Nat → Int32} {t : Nat} {x y z : Int32} : upd (upd (upd f (3 * t) x) (3 * t + 1) y) (3 * t + 2) z (3 * t + 2) = z := by
  unfold upd; rw [if_pos rfl]
theorem u3n0 {f : Nat → Int32} {t i : Nat} {x y z : Int32} (hi : ¬ i = t) : upd (upd (upd f (3 * t) x) (3 * t + 1) y) (3 * t + 2) z (3 * i) = f (3 * i) := by
  unfold upd; rw [if_neg (by omega), if_neg (by omega), if_neg (by omega)]
theorem u3n1 {f : Nat → Int32} {t i : Nat} {x y z : Int32} (hi : ¬ i = t) : upd (upd (upd f (3 * t) x) (3 * t + 1) y) (3 * t + 2) z (3 * i + 1) = f (3 * i + 1) := by
  unfold upd; rw [if_neg (by omega), if_neg (by omega), if_neg (by omega)]
theorem u3n2 {f : Nat → Int32} {t i : Nat} {x y z : Int32} (hi : ¬ i = t) : upd (upd (upd f (3 * t) x) (3 * t + 1) y) (3 * t + 2) z (3 * i + 2) = f (3 * i + 2) := by
  unfold upd; rw [if_neg (by omega), if_neg (by omega), if_neg (by omega)]
theorem e_sc {scm ou sr : Nat → Int32} {t : Nat} {b0 b1 b2 a0 a1 a2 : Int32} (i : Nat) : vf_upd (fun i => ((scm i, ou (3 * i), ou (3 * i + 1), ou (3 * i + 2), sr (3 * i + 1), sr (3 * i + 2)) : cS)) t (1, b0, b1, b2, a1, a2) i = (upd scm t 1 i, upd (upd (upd ou (3 * t) b0) (3 * t + 1) b1) (3 * t + 2) b2 (3 * i), upd (upd (upd ou (3 * t) b0) (3 * t + 1) b1) (3 * t + 2) b2 (3 * i + 1), upd (upd (upd ou (3 * t) b0) (3 * t + 1) b1) (3 * t + 2) b2 (3 * i + 2), upd (upd (upd sr (3 * t) a0) (3 * t + 1) a1) (3 * t + 2) a2 (3 * i + 1), upd (upd (upd sr (3 * t) a0) (3 * t + 1) a1) (3 * t + 2) a2 (3 * i + 2)) := by
  by_cases c : i = t
  · subst c
    rw [u3a, u3b, u3c, u3b, u3c]
    unfold vf_upd upd
    simp only [if_true]
  · rw [u3n0 c, u3n1 c, u3n2 c, u3n1 c, u3n2 c]
    unfold vf_upd upd
    simp only [if_neg c]
theorem a60 {a0 a1 : Int32} (h : ¬ a0 < 0 ∧ ¬ a1 < 0 ∧ a0.toInt64 + a1.toInt64 ≤ 60) : 0 ≤ a1.toInt ∧ 0 ≤ (60 - a0 - a1).toInt ∧ a1.toInt + (60 - a0 - a1).toInt ≤ 60 := by
  rw [Int32.lt_iff_toInt_lt, Int32.lt_iff_toInt_lt, Int64.le_iff_toInt_le, l0, q60] at h
  have x1 := Int32.toInt_lt a0
  have x2 := Int32.toInt_lt a1
  rw [Jvm.Kit.i64_add (by rw [Jvm.Kit.i64_of_i32, Jvm.Kit.i64_of_i32]; omega) (by rw [Jvm.Kit.i64_of_i32, Jvm.Kit.i64_of_i32]; omega), Jvm.Kit.i64_of_i32, Jvm.Kit.i64_of_i32] at h
  have e1 : (60 - a0).toInt = 60 - a0.toInt := by rw [Jvm.Kit.i32_sub (by rw [l60]; omega) (by rw [l60]; omega), l60]
  rw [Jvm.Kit.i32_sub (by rw [e1]; omega) (by rw [e1]; omega), e1]
  omega
theorem PS_up {scm ou sr : Nat → Int32} {nb t m0 m1 m2 : Nat} {a0 a1 : Int32} (h0 : m0 < nb) (h1 : m1 < nb) (h2 : m2 < nb) (d1 : m0 ≠ m1) (d2 : m1 ≠ m2) (d3 : m0 ≠ m2) (ha : ¬ a0 < 0 ∧ ¬ a1 < 0 ∧ a0.toInt64 + a1.toInt64 ≤ 60) (hS : ∀ i, i < 4 → ¬ scm i = 0 → ∃ x y z : Nat, x < nb ∧ y < nb ∧ z < nb ∧ x ≠ y ∧ y ≠ z ∧ x ≠ z ∧ ou (3 * i) = nI x ∧ ou (3 * i + 1) = nI y ∧ ou (3 * i + 2) = nI z ∧ 0 ≤ (sr (3 * i + 1)).toInt ∧ 0 ≤ (sr (3 * i + 2)).toInt ∧ (sr (3 * i + 1)).toInt + (sr (3 * i + 2)).toInt ≤ 60) :
    ∀ i, i < 4 → ¬ upd scm t 1 i = 0 → ∃ x y z : Nat, x < nb ∧ y < nb ∧ z < nb ∧ x ≠ y ∧ y ≠ z ∧ x ≠ z ∧ upd (upd (upd ou (3 * t) (nI m0)) (3 * t + 1) (nI m1)) (3 * t + 2) (nI m2) (3 * i) = nI x ∧ upd (upd (upd ou (3 * t) (nI m0)) (3 * t + 1) (nI m1)) (3 * t + 2) (nI m2) (3 * i + 1) = nI y ∧ upd (upd (upd ou (3 * t) (nI m0)) (3 * t + 1) (nI m1)) (3 * t + 2) (nI m2) (3 * i + 2) = nI z ∧ 0 ≤ (upd (upd (upd sr (3 * t) a0) (3 * t + 1) a1) (3 * t + 2) (60 - a0 - a1) (3 * i + 1)).toInt ∧ 0 ≤ (upd (upd (upd sr (3 * t) a0) (3 * t + 1) a1) (3 * t + 2) (60 - a0 - a1) (3 * i + 2)).toInt ∧ (upd (upd (upd sr (3 * t) a0) (3 * t + 1) a1) (3 * t + 2) (60 - a0 - a1) (3 * i + 1)).toInt + (upd (upd (upd sr (3 * t) a0) (3 * t + 1) a1) (3 * t + 2) (60 - a0 - a1) (3 * i + 2)).toInt ≤ 60 := by
  intro i hi hs
  by_cases c : i = t
  · subst c
    rw [u3a, u3b, u3c, u3b, u3c]
    exact ⟨m0, m1, m2, h0, h1, h2, d1, d2, d3, rfl, rfl, rfl, a60 ha⟩
  · rw [u3n0 c, u3n1 c, u3n2 c, u3n1 c, u3n2 c]
    refine hS i hi ?_
    unfold upd at hs
    rw [if_neg c] at hs
    exact hs
theorem ss_i {s : Int32} : okS s ↔ (¬ s < 0 ∧ ¬ 4 ≤ s) := by
  unfold okS
  rw [Int32.not_le]
theorem ss_3 {s : Int32} : okS s ↔ (¬ s < 0 ∧ s ≤ 3) := by
  unfold okS
  simp only [Int32.lt_iff_toInt_lt, Int32.le_iff_toInt_le, l0, l3, l4]
  omega
set_option maxHeartbeats 4000000 in
set_option maxRecDepth 100000 in
theorem p_screen {s b0 b1 b2 a0 a1 : Int32} (hG : gTok G) (hI : Inv j h) : PR G j Y_La_screen Y_Mo_screen [.ref 0, .int s, .int b0, .int b1, .int b2, .int a0, .int a1] [.ref 22, .int s, .int b0, .int b1, .int b2, .int a0, .int a1] h 0 := by
  obtain ⟨th, ab, be, lg, lt, sm, nb, kd, ms, dr, wa, re, lo, hi, scm, ou, sr, gi, go, ns, nr, dy, pt, td, tw, o, hP, rfl⟩ := hI
  have hP1 := PI_up (Nat.le_succ j) hP
  have hn8 := hP.2.1
  have hr8 := hP.2.2.1
  have hm : XM G Y_RF_screen [.ref 0, .int s, .int b0, .int b1, .int b2, .int a0, .int a1] (1, pq th ab be lg lt sm nb kd ms dr wa re lo hi scm ou sr gi go ns nr dy pt td tw o) _ := m_screen hG
  by_cases c0 : okS s
  · by_cases c1 : okB (nI nb) b0
    · by_cases c2 : okB (nI nb) b1
      · by_cases c3 : okB (nI nb) b2
        · obtain ⟨t, ht, rfl⟩ := of_okS c0
          obtain ⟨m0, h0, rfl⟩ := of_ok hn8 c1
          obtain ⟨m1, h1, rfl⟩ := of_ok hn8 c2
          obtain ⟨m2, h2, rfl⟩ := of_ok hn8 c3
          have g0 := nI_c (show m0 < 8 by omega)
          have g1 := nI_c (show m1 < 8 by omega)
          have g2 := nI_c (show m2 < 8 by omega)
          have gt := nI_c (show t < 8 by omega)
          have hh : ¬ nI t < 0 ∧ ¬ 4 ≤ nI t ∧ s_nb (nI nb) (nI m0) = 0 ∧ s_nb (nI nb) (nI m1) = 0 ∧ s_nb (nI nb) (nI m2) = 0 := ⟨(ss_i.mp c0).1, (ss_i.mp c0).2, nb_of hn8 h0, nb_of hn8 h1, nb_of hn8 h2⟩
          rw [xif_pos c0, xif_pos c1, xif_pos c2, xif_pos c3, g0, g1, g2, gt] at hm
          by_cases c4 : ¬ nI m0 = nI m1 ∧ ¬ nI m0 = nI m2 ∧ ¬ nI m1 = nI m2
          · by_cases c5 : kd m0 = kd m1 ∧ kd m0 = kd m2
            · by_cases c6 : ¬ a0 < 0 ∧ ¬ a1 < 0 ∧ a0.toInt64 + a1.toInt64 ≤ 60
              · rw [xif_pos c4, xif_pos c5, xif_pos c6] at hm
                have hl := w_screen_ok rfl hm
                have hn : XM G Y_Mo_screen [.ref 22, .int (nI t), .int (nI m0), .int (nI m1), .int (nI m2), .int a0, .int a1] (1, ch (ab 0, be 0) (ab 1, be 1) (lt 0, lt 1, lt 2, lt 3, lt 4) (sm 0, sm 1, sm 2, sm 3, sm 4) lg (nI nb) gi go (nI ns) (fun i => (kd i, ms i, dr i, wa i, re i, lo i, hi i)) (vf_upd (fun i => ((scm i, ou (3 * i), ou (3 * i + 1), ou (3 * i + 2), sr (3 * i + 1), sr (3 * i + 2)) : cS)) t (1, nI m0, nI m1, nI m2, a1, 60 - a0 - a1)) (nI nr) dy pt (mh th ab be lg lt sm (nI nb) kd (fun i => (ms i).toInt64) dr wa re lo hi scm ou sr gi go (nI ns).toInt64 (nI nr) dy pt td tw [oc_ (o)])) _ := n_screen hG rfl hn8
                rw [xif_pos hh, xif_pos ⟨c4.1, c4.2.2, c4.2.1⟩, g0, g1, g2, xif_pos ⟨c5.1, c5.1.symm.trans c5.2⟩, xif_pos ⟨c6.1, c6.2.1, Int64.not_lt.mpr c6.2.2⟩, gt, s3z ht, s31 ht, s32 ht, show vp_nar .boolean 1 = 1 by decide] at hn
                exact PR_mk ab be lg lt sm nb kd ms dr wa re lo hi (upd scm t 1) (upd (upd (upd ou (3 * t) (nI m0)) (3 * t + 1) (nI m1)) (3 * t + 2) (nI m2)) (upd (upd (upd sr (3 * t) a0) (3 * t + 1) a1) (3 * t + 2) (60 - a0 - a1)) gi go ns nr dy pt td tw o (Nat.zero_le 1) (Nat.zero_le 6) hl rfl hn (ch_ext (fun _ _ => rfl) (fun i _ => e_sc i)) ⟨hP1.1, hn8, hr8, hP1.2.2.2.1, hP.2.2.2.2.1, hP.2.2.2.2.2.1, PS_up h0 h1 h2 (fun q => c4.1 (by rw [q])) (fun q => c4.2.2 (by rw [q])) (fun q => c4.2.1 (by rw [q])) c6 hP.2.2.2.2.2.2.1, hP.2.2.2.2.2.2.2⟩ rfl
              · rw [xif_pos c4, xif_pos c5, xif_neg c6] at hm
                have hn : XM G Y_Mo_screen [.ref 22, .int (nI t), .int (nI m0), .int (nI m1), .int (nI m2), .int a0, .int a1] (1, pq th ab be lg lt sm nb kd ms dr wa re lo hi scm ou sr gi go ns nr dy pt td tw o) _ := n_screen hG rfl hn8
                rw [xif_pos hh, xif_pos ⟨c4.1, c4.2.2, c4.2.1⟩, g0, g1, g2, xif_pos ⟨c5.1, c5.1.symm.trans c5.2⟩, xif_neg (fun q => c6 ⟨q.1, q.2.1, Int64.not_lt.mp q.2.2⟩)] at hn
                exact PR_mk ab be lg lt sm nb kd ms dr wa re lo hi scm ou sr gi go ns nr dy pt td tw o (Nat.le_refl 1) (Nat.le_refl 6) (w_screen_A rfl hm) rfl hn rfl hP1 rfl
            · rw [xif_pos c4, xif_neg c5] at hm
              have hn : XM G Y_Mo_screen [.ref 22, .int (nI t), .int (nI m0), .int (nI m1), .int (nI m2), .int a0, .int a1] (1, pq th ab be lg lt sm nb kd ms dr wa re lo hi scm ou sr gi go ns nr dy pt td tw o) _ := n_screen hG rfl hn8
              rw [xif_pos hh, xif_pos ⟨c4.1, c4.2.2, c4.2.1⟩, g0, g1, g2, xif_neg (fun q => c5 ⟨q.1, q.1.trans q.2⟩)] at hn
              exact PR_mk ab be lg lt sm nb kd ms dr wa re lo hi scm ou sr gi go ns nr dy pt td tw o (Nat.le_refl 1) (Nat.le_refl 6) (w_screen_A rfl hm) rfl hn rfl hP1 rfl
          · rw [xif_neg c4] at hm
            have hn : XM G Y_Mo_screen [.ref 22, .int (nI t), .int (nI m0), .int (nI m1), .int (nI m2), .int a0, .int a1] (1, pq th ab be lg lt sm nb kd ms dr wa re lo hi scm ou sr gi go ns nr dy pt td tw o) _ := n_screen hG rfl hn8
            rw [xif_pos hh, xif_neg (fun q => c4 ⟨q.1, q.2.2, q.2.1⟩)] at hn
            exact PR_mk ab be lg lt sm nb kd ms dr wa re lo hi scm ou sr gi go ns nr dy pt td tw o (Nat.le_refl 1) (Nat.le_refl 6) (w_screen_A rfl hm) rfl hn rfl hP1 rfl
        · rw [xif_pos c0, xif_pos c1, xif_pos c2, xif_neg c3] at hm
          have hn : XM G Y_Mo_screen [.ref 22, .int s, .int b0, .int b1, .int b2, .int a0, .int a1] (1, pq th ab be lg lt sm nb kd ms dr wa re lo hi scm ou sr gi go ns nr dy pt td tw o) _ := n_screen hG rfl hn8
          rw [xif_neg (fun q => c3 (by obtain ⟨m, e1, e2⟩ := of_nb hn8 q.2.2.2.2; rw [e2]; exact ok_of hn8 e1))] at hn
          exact PR_mk ab be lg lt sm nb kd ms dr wa re lo hi scm ou sr gi go ns nr dy pt td tw o (Nat.le_refl 1) (Nat.le_refl 6) (w_screen_I rfl hm) rfl hn rfl hP1 rfl
      · rw [xif_pos c0, xif_pos c1, xif_neg c2] at hm
        have hn : XM G Y_Mo_screen [.ref 22, .int s, .int b0, .int b1, .int b2, .int a0, .int a1] (1, pq th ab be lg lt sm nb kd ms dr wa re lo hi scm ou sr gi go ns nr dy pt td tw o) _ := n_screen hG rfl hn8
        rw [xif_neg (fun q => c2 (by obtain ⟨m, e1, e2⟩ := of_nb hn8 q.2.2.2.1; rw [e2]; exact ok_of hn8 e1))] at hn
        exact PR_mk ab be lg lt sm nb kd ms dr wa re lo hi scm ou sr gi go ns nr dy pt td tw o (Nat.le_refl 1) (Nat.le_refl 6) (w_screen_I rfl hm) rfl hn rfl hP1 rfl
    · rw [xif_pos c0, xif_neg c1] at hm
      have hn : XM G Y_Mo_screen [.ref 22, .int s, .int b0, .int b1, .int b2, .int a0, .int a1] (1, pq th ab be lg lt sm nb kd ms dr wa re lo hi scm ou sr gi go ns nr dy pt td tw o) _ := n_screen hG rfl hn8
      rw [xif_neg (fun q => c1 (by obtain ⟨m, e1, e2⟩ := of_nb hn8 q.2.2.1; rw [e2]; exact ok_of hn8 e1))] at hn
      exact PR_mk ab be lg lt sm nb kd ms dr wa re lo hi scm ou sr gi go ns nr dy pt td tw o (Nat.le_refl 1) (Nat.le_refl 6) (w_screen_I rfl hm) rfl hn rfl hP1 rfl
  · rw [xif_neg c0] at hm
    have hn : XM G Y_Mo_screen [.ref 22, .int s, .int b0, .int b1, .int b2, .int a0, .int a1] (1, pq th ab be lg lt sm nb kd ms dr wa re lo hi scm ou sr gi go ns nr dy pt td tw o) _ := n_screen hG rfl hn8
    rw [xif_neg (fun q => c0 (ss_i.mpr ⟨q.1, q.2.1⟩))] at hn
    exact PR_mk ab be lg lt sm nb kd ms dr wa re lo hi scm ou sr gi go ns nr dy pt td tw o (Nat.le_refl 1) (Nat.le_refl 6) (w_screen_I rfl hm) rfl hn rfl hP1 rfl
theorem t_e {k s : Int32} (k1 : 0 ≤ k.toInt) (k2 : k.toInt ≤ 1000000) (s1 : 0 ≤ s.toInt) (s2 : s.toInt ≤ 60) : k.toInt64 * s.toInt64 / 60 = (k * s / 60).toInt64 ∧ (k * s / 60).toInt = k.toInt * s.toInt / 60 ∧ 0 ≤ k.toInt * s.toInt ∧ k.toInt * s.toInt ≤ k.toInt * 60 := by
  have n1 : 0 ≤ k.toInt * s.toInt := Int.mul_nonneg k1 s1
  have n2 : k.toInt * s.toInt ≤ k.toInt * 60 := Int.mul_le_mul_of_nonneg_left s2 k1
  have e1 : (k * s).toInt = k.toInt * s.toInt := Jvm.Kit.i32_mul (by omega) (by omega)
  have e2 : (k * s / 60).toInt = k.toInt * s.toInt / 60 := by
    rw [Jvm.Kit.i32_div (by rw [e1, l60]; omega), e1, l60, Int.tdiv_eq_ediv_of_nonneg n1]
  have e3 : (k.toInt64 * s.toInt64).toInt = k.toInt * s.toInt := by
    rw [Jvm.Kit.i64_mul (by rw [Jvm.Kit.i64_of_i32, Jvm.Kit.i64_of_i32]; omega) (by rw [Jvm.Kit.i64_of_i32, Jvm.Kit.i64_of_i32]; omega), Jvm.Kit.i64_of_i32, Jvm.Kit.i64_of_i32]
  refine ⟨i64e ?_, e2, n1, n2⟩
  rw [Jvm.Kit.i64_of_i32, e2, Jvm.Kit.i64_div (by rw [e3, q60]; omega), e3, q60, Int.tdiv_eq_ediv_of_nonneg n1]
theorem t_3 {sr : Nat → Int32} {t : Nat} {k c b0 b1 b2 : Int32} (ht : t < 4) (k1 : 0 ≤ k.toInt) (k2 : k.toInt ≤ 1000000) (s1 : 0 ≤ (sr (3 * t + 1)).toInt) (s2 : 0 ≤ (sr (3 * t + 2)).toInt) (s3 : (sr (3 * t + 1)).toInt + (sr (3 * t + 2)).toInt ≤ 60) :
    (s_pt sr (nI t) 0 k.toInt64 = (s_t0 (c, b0, b1, b2, sr (3 * t + 1), sr (3 * t + 2)) k).toInt64 ∧ s_pt sr (nI t) 1 k.toInt64 = (s_t1 (c, b0, b1, b2, sr (3 * t + 1), sr (3 * t + 2)) k).toInt64 ∧ s_pt sr (nI t) 2 k.toInt64 = (s_t2 (c, b0, b1, b2, sr (3 * t + 1), sr (3 * t + 2)) k).toInt64) ∧
    (0 ≤ (s_t0 (c, b0, b1, b2, sr (3 * t + 1), sr (3 * t + 2)) k).toInt ∧ (s_t0 (c, b0, b1, b2, sr (3 * t + 1), sr (3 * t + 2)) k).toInt ≤ 1000000) ∧ (0 ≤ (s_t1 (c, b0, b1, b2, sr (3 * t + 1), sr (3 * t + 2)) k).toInt ∧ (s_t1 (c, b0, b1, b2, sr (3 * t + 1), sr (3 * t + 2)) k).toInt ≤ 1000000) ∧ (0 ≤ (s_t2 (c, b0, b1, b2, sr (3 * t + 1), sr (3 * t + 2)) k).toInt ∧ (s_t2 (c, b0, b1, b2, sr (3 * t + 1), sr (3 * t + 2)) k).toInt ≤ 1000000) := by
  obtain ⟨f1, f2, f3, f4⟩ := t_e (s := sr (3 * t + 1)) k1 k2 s1 (by omega)
  obtain ⟨g1, g2, g3, g4⟩ := t_e (s := sr (3 * t + 2)) k1 k2 s2 (by omega)
  have m1 : k.toInt * ((sr (3 * t + 1)).toInt + (sr (3 * t + 2)).toInt) ≤ k.toInt * 60 := Int.mul_le_mul_of_nonneg_left s3 k1
  rw [Int.mul_add] at m1
  have p1 : s_pt sr (nI t) 1 k.toInt64 = (k * sr (3 * t + 1) / 60).toInt64 := by
    unfold s_pt
    rw [if_neg (by decide), s31 ht, f1]
  have p2 : s_pt sr (nI t) 2 k.toInt64 = (k * sr (3 * t + 2) / 60).toInt64 := by
    unfold s_pt
    rw [if_neg (by decide), s32 ht, g1]
  have d1 : (k - k * sr (3 * t + 1) / 60).toInt = k.toInt - k.toInt * (sr (3 * t + 1)).toInt / 60 := by
    rw [Jvm.Kit.i32_sub (by rw [f2]; omega) (by rw [f2]; omega), f2]
  have d0 : (k - k * sr (3 * t + 1) / 60 - k * sr (3 * t + 2) / 60).toInt = k.toInt - k.toInt * (sr (3 * t + 1)).toInt / 60 - k.toInt * (sr (3 * t + 2)).toInt / 60 := by
    rw [Jvm.Kit.i32_sub (by rw [d1, g2]; omega) (by rw [d1, g2]; omega), d1, g2]
  have p0 : s_pt sr (nI t) 0 k.toInt64 = (k - k * sr (3 * t + 1) / 60 - k * sr (3 * t + 2) / 60).toInt64 := by
    unfold s_pt s_ot
    rw [if_pos (by decide), s31 ht, s32 ht, f1, g1]
    have e5 : ((k * sr (3 * t + 1) / 60).toInt64 + (k * sr (3 * t + 2) / 60).toInt64).toInt = k.toInt * (sr (3 * t + 1)).toInt / 60 + k.toInt * (sr (3 * t + 2)).toInt / 60 := by
      rw [Jvm.Kit.i64_add (by rw [Jvm.Kit.i64_of_i32, Jvm.Kit.i64_of_i32, f2, g2]; omega) (by rw [Jvm.Kit.i64_of_i32, Jvm.Kit.i64_of_i32, f2, g2]; omega), Jvm.Kit.i64_of_i32, Jvm.Kit.i64_of_i32, f2, g2]
    refine i64e ?_
    rw [Jvm.Kit.i64_sub (by rw [Jvm.Kit.i64_of_i32, e5]; omega) (by rw [Jvm.Kit.i64_of_i32, e5]; omega), Jvm.Kit.i64_of_i32, Jvm.Kit.i64_of_i32, e5, d0]
    omega
  refine ⟨⟨p0, p1, p2⟩, ?_⟩
  unfold s_t0
  unfold s_t1 s_t2
  show (0 ≤ (k - k * sr (3 * t + 1) / 60 - k * sr (3 * t + 2) / 60).toInt ∧ (k - k * sr (3 * t + 1) / 60 - k * sr (3 * t + 2) / 60).toInt ≤ 1000000) ∧ (0 ≤ (k * sr (3 * t + 1) / 60).toInt ∧ (k * sr (3 * t + 1) / 60).toInt ≤ 1000000) ∧ (0 ≤ (k * sr (3 * t + 2) / 60).toInt ∧ (k * sr (3 * t + 2) / 60).toInt ≤ 1000000)
  rw [d0, f2, g2]
  omega
theorem f_pi {kd ms lo hi : Nat → Int32} {dr wa re : Nat → Int64} {n : Nat} {k w : Int32} : vf_upd (fun i => ((kd i, ms i, dr i, wa i, re i, lo i, hi i) : cB)) n (s_pi (kd n, ms n, dr n, wa n, re n, lo n, hi n) k w) = fun i => (kd i, ms i, vp_updL dr n (dr n + k.toInt64 * (1000 - w).toInt64) i, vp_updL wa n (wa n + k.toInt64 * w.toInt64) i, re i, lo i, hi i) := funext (fun i => e_dw i)
theorem e_3 {B B1 B2 B3 : Nat → cB} {x y z : Nat} {a b c w : Int32} (h1 : vf_upd B x (s_pi (B x) a w) = B1) (h2 : vf_upd B1 y (s_pi (B1 y) b w) = B2) (h3 : vf_upd B2 z (s_pi (B2 z) c w) = B3) : vf_upd (vf_upd (vf_upd B x (s_pi (B x) a w)) y (s_pi ((vf_upd B x (s_pi (B x) a w)) y) b w)) z (s_pi ((vf_upd (vf_upd B x (s_pi (B x) a w)) y (s_pi ((vf_upd B x (s_pi (B x) a w)) y) b w)) z) c w) = B3 := by
  subst h1
  subst h2
  exact h3
theorem upn {f : Nat → Int64} {n i : Nat} {x : Int64} (h : ¬ i = n) : vp_updL f n x i = f i := if_neg h
set_option maxHeartbeats 4000000 in
set_option maxRecDepth 100000 in
theorem p_send {s k w : Int32} (hG : gTok G) (hI : Inv j h) : PR G j Y_La_send Y_Mo_send [.ref 0, .int s, .int k, .int w, .ref 39] [.ref 22, .int s, .int k, .int w] h 3 := by
  obtain ⟨th, ab, be, lg, lt, sm, nb, kd, ms, dr, wa, re, lo, hi, scm, ou, sr, gi, go, ns, nr, dy, pt, td, tw, o, hP, rfl⟩ := hI
  have hP1 := PI_up (Nat.le_succ j) hP
  have hn8 := hP.2.1
  have hr8 := hP.2.2.1
  have hm : XM G Y_RF_send [.ref 0, .int s, .int k, .int w] (1, pq th ab be lg lt sm nb kd ms dr wa re lo hi scm ou sr gi go ns nr dy pt td tw o) _ := m_send hG
  by_cases c0 : okS s
  · obtain ⟨t, ht, rfl⟩ := of_okS c0
    have gt := nI_c (show t < 8 by omega)
    have m0 : ¬ nI t < 0 ∧ nI t ≤ 3 := ss_3.mp c0
    have hou : ¬ nI t < 0 ∧ nI t ≤ 3 → ¬ scm (nI t).toNatClampNeg = 0 → ∀ c : Nat, c < 3 → vp_in (ou (3 * nI t + nI c).toNatClampNeg) 8 := by
      intro _ hs c hc
      rw [gt] at hs
      obtain ⟨x, y, z, hx, hy, hz, -, -, -, ox, oy, oz, -⟩ := hP.2.2.2.2.2.2.1 t ht hs
      rw [s3c ht hc]
      have : c = 0 ∨ c = 1 ∨ c = 2 := by omega
      rcases this with rfl | rfl | rfl
      · rw [Nat.add_zero, ox]; exact vp_in_nI (by omega) (by decide)
      · rw [oy]; exact vp_in_nI (by omega) (by decide)
      · rw [oz]; exact vp_in_nI (by omega) (by decide)
    rw [xif_pos c0, gt] at hm
    by_cases c1 : okP k w
    · by_cases c2 : ¬ scm t = 0
      · obtain ⟨x, y, z, hx, hy, hz, d1, d2, d3, ox, oy, oz, s1, s2, s3⟩ := hP.2.2.2.2.2.2.1 t ht c2
        obtain ⟨k1, k2, w1, w2⟩ := okP_b c1
        obtain ⟨⟨p0, p1, p2⟩, ⟨u0, v0⟩, ⟨u1, v1⟩, ⟨u2, v2⟩⟩ := t_3 (c := scm t) (b0 := nI x) (b1 := nI y) (b2 := nI z) ht k1 k2 s1 s2 s3
        have gx := nI_c (show x < 8 by omega)
        have gy := nI_c (show y < 8 by omega)
        have gz := nI_c (show z < 8 by omega)
        dsimp only at hm
        rw [ox, oy, oz, gx, gy, gz, xif_pos c1, xif_pos c2, xif_pos (ok_of hn8 hx), xif_pos (ok_of hn8 hy), xif_pos (ok_of hn8 hz)] at hm
        generalize s_t0 (scm t, nI x, nI y, nI z, sr (3 * t + 1), sr (3 * t + 2)) k = t0 at hm p0 u0 v0
        generalize s_t1 (scm t, nI x, nI y, nI z, sr (3 * t + 1), sr (3 * t + 2)) k = t1 at hm p1 u1 v1
        generalize s_t2 (scm t, nI x, nI y, nI z, sr (3 * t + 1), sr (3 * t + 2)) k = t2 at hm p2 u2 v2
        by_cases r0 : s_hr (kd x, ms x, dr x, wa x, re x, lo x, hi x) t0 = 0
        · rw [xif_pos (Or.inl r0)] at hm
          have hl := w_send_ok hG rfl rfl hm
          rw [set39] at hl
          have hn : XM G Y_Mo_send [.ref 22, .int (nI t), .int k, .int w] (1, ch (ab 0, be 0) (ab 1, be 1) (lt 0, lt 1, lt 2, lt 3, lt 4) (sm 0, sm 1, sm 2, sm 3, sm 4) lg (nI nb) gi go (nI ns) (fun i => (kd i, ms i, dr i, wa i, re i, lo i, hi i)) (fun i => (scm i, ou (3 * i), ou (3 * i + 1), ou (3 * i + 2), sr (3 * i + 1), sr (3 * i + 2))) (nI nr) dy pt (mh th ab be lg lt sm (nI nb) kd (fun i => (ms i).toInt64) dr wa re lo hi scm ou sr gi go (nI ns).toInt64 (nI nr) dy pt td tw [oc_ (vp_updL o 0 (if (0 : Int32) = 0 then 0 else 1))])) _ := n_send hG hou
          rw [xif_pos m0, xif_pos (ip_i.mpr c1), gt, xif_pos c2, s30 ht, s31 ht, s32 ht, ox, oy, oz, p0, p1, p2, hr_mr (kd := kd) (re := re) (lo := lo) (hi := hi) (show x < 8 by omega), hr_mr (kd := kd) (re := re) (lo := lo) (hi := hi) (show y < 8 by omega), hr_mr (kd := kd) (re := re) (lo := lo) (hi := hi) (show z < 8 by omega), xif_pos r0, r0] at hn
          exact PR_mk ab be lg lt sm nb kd ms dr wa re lo hi scm ou sr gi go ns nr dy pt td tw (vp_updL o 0 (if (0 : Int32) = 0 then 0 else 1)) (Nat.zero_le 1) (Nat.zero_le 6) hl rfl hn rfl hP1 ⟨0, rfl, fun _ => up0⟩
        · by_cases r1 : s_hr (kd y, ms y, dr y, wa y, re y, lo y, hi y) t1 = 0
          · rw [xif_pos (Or.inr (Or.inl r1))] at hm
            have hl := w_send_ok hG rfl rfl hm
            rw [set39] at hl
            have hn : XM G Y_Mo_send [.ref 22, .int (nI t), .int k, .int w] (1, ch (ab 0, be 0) (ab 1, be 1) (lt 0, lt 1, lt 2, lt 3, lt 4) (sm 0, sm 1, sm 2, sm 3, sm 4) lg (nI nb) gi go (nI ns) (fun i => (kd i, ms i, dr i, wa i, re i, lo i, hi i)) (fun i => (scm i, ou (3 * i), ou (3 * i + 1), ou (3 * i + 2), sr (3 * i + 1), sr (3 * i + 2))) (nI nr) dy pt (mh th ab be lg lt sm (nI nb) kd (fun i => (ms i).toInt64) dr wa re lo hi scm ou sr gi go (nI ns).toInt64 (nI nr) dy pt td tw [oc_ (vp_updL o 0 (if (0 : Int32) = 0 then 0 else 1))])) _ := n_send hG hou
            rw [xif_pos m0, xif_pos (ip_i.mpr c1), gt, xif_pos c2, s30 ht, s31 ht, s32 ht, ox, oy, oz, p0, p1, p2, hr_mr (kd := kd) (re := re) (lo := lo) (hi := hi) (show x < 8 by omega), hr_mr (kd := kd) (re := re) (lo := lo) (hi := hi) (show y < 8 by omega), hr_mr (kd := kd) (re := re) (lo := lo) (hi := hi) (show z < 8 by omega), xif_neg r0, xif_pos r1, r1] at hn
            exact PR_mk ab be lg lt sm nb kd ms dr wa re lo hi scm ou sr gi go ns nr dy pt td tw (vp_updL o 0 (if (0 : Int32) = 0 then 0 else 1)) (Nat.zero_le 1) (Nat.zero_le 6) hl rfl hn rfl hP1 ⟨0, rfl, fun _ => up0⟩
          · by_cases r2 : s_hr (kd z, ms z, dr z, wa z, re z, lo z, hi z) t2 = 0
            · rw [xif_pos (Or.inr (Or.inr r2))] at hm
              have hl := w_send_ok hG rfl rfl hm
              rw [set39] at hl
              have hn : XM G Y_Mo_send [.ref 22, .int (nI t), .int k, .int w] (1, ch (ab 0, be 0) (ab 1, be 1) (lt 0, lt 1, lt 2, lt 3, lt 4) (sm 0, sm 1, sm 2, sm 3, sm 4) lg (nI nb) gi go (nI ns) (fun i => (kd i, ms i, dr i, wa i, re i, lo i, hi i)) (fun i => (scm i, ou (3 * i), ou (3 * i + 1), ou (3 * i + 2), sr (3 * i + 1), sr (3 * i + 2))) (nI nr) dy pt (mh th ab be lg lt sm (nI nb) kd (fun i => (ms i).toInt64) dr wa re lo hi scm ou sr gi go (nI ns).toInt64 (nI nr) dy pt td tw [oc_ (vp_updL o 0 (if (0 : Int32) = 0 then 0 else 1))])) _ := n_send hG hou
              rw [xif_pos m0, xif_pos (ip_i.mpr c1), gt, xif_pos c2, s30 ht, s31 ht, s32 ht, ox, oy, oz, p0, p1, p2, hr_mr (kd := kd) (re := re) (lo := lo) (hi := hi) (show x < 8 by omega), hr_mr (kd := kd) (re := re) (lo := lo) (hi := hi) (show y < 8 by omega), hr_mr (kd := kd) (re := re) (lo := lo) (hi := hi) (show z < 8 by omega), xif_neg r0, xif_neg r1, xif_pos r2, r2] at hn
              exact PR_mk ab be lg lt sm nb kd ms dr wa re lo hi scm ou sr gi go ns nr dy pt td tw (vp_updL o 0 (if (0 : Int32) = 0 then 0 else 1)) (Nat.zero_le 1) (Nat.zero_le 6) hl rfl hn rfl hP1 ⟨0, rfl, fun _ => up0⟩
            · rw [xif_neg (fun q => q.elim r0 (fun q => q.elim r1 r2)), Int64.mul_comm t0.toInt64 1000, Int64.mul_comm t1.toInt64 1000, Int64.mul_comm t2.toInt64 1000] at hm
              have PB1 := PB_pour hP.2.2.2.2.1 hx u0 v0 w1 w2 r0
              have PB2 := PB_pour (kd := kd) (re := re) (lo := lo) (hi := hi) PB1 hy u1 v1 w1 w2 (by rw [upn (Ne.symm d1), upn (Ne.symm d1)]; exact r1)
              have PB3 := PB_pour (kd := kd) (re := re) (lo := lo) (hi := hi) PB2 hz u2 v2 w1 w2 (by rw [upn (Ne.symm d2), upn (Ne.symm d2), upn (Ne.symm d3), upn (Ne.symm d3)]; exact r2)
              have hl := w_send_ok hG rfl rfl hm
              rw [set39] at hl
              have hn : XM G Y_Mo_send [.ref 22, .int (nI t), .int k, .int w] (1, ch (ab 0, be 0) (ab 1, be 1) (lt 0, lt 1, lt 2, lt 3, lt 4) (sm 0, sm 1, sm 2, sm 3, sm 4) lg (nI nb) (gi + 1000 * t0.toInt64 + 1000 * t1.toInt64 + 1000 * t2.toInt64) go (nI ns) (vf_upd (vf_upd (vf_upd (fun i => ((kd i, ms i, dr i, wa i, re i, lo i, hi i) : cB)) x (s_pi ((fun i => ((kd i, ms i, dr i, wa i, re i, lo i, hi i) : cB)) x) t0 w)) y (s_pi ((vf_upd (fun i => ((kd i, ms i, dr i, wa i, re i, lo i, hi i) : cB)) x (s_pi ((fun i => ((kd i, ms i, dr i, wa i, re i, lo i, hi i) : cB)) x) t0 w)) y) t1 w)) z (s_pi ((vf_upd (vf_upd (fun i => ((kd i, ms i, dr i, wa i, re i, lo i, hi i) : cB)) x (s_pi ((fun i => ((kd i, ms i, dr i, wa i, re i, lo i, hi i) : cB)) x) t0 w)) y (s_pi ((vf_upd (fun i => ((kd i, ms i, dr i, wa i, re i, lo i, hi i) : cB)) x (s_pi ((fun i => ((kd i, ms i, dr i, wa i, re i, lo i, hi i) : cB)) x) t0 w)) y) t1 w)) z) t2 w)) (fun i => (scm i, ou (3 * i), ou (3 * i + 1), ou (3 * i + 2), sr (3 * i + 1), sr (3 * i + 2))) (nI nr) dy pt (mh th ab be lg lt sm (nI nb) kd (fun i => (ms i).toInt64) dr wa re lo hi scm ou sr gi go (nI ns).toInt64 (nI nr) dy pt td tw [oc_ (vp_updL o 0 (if (1 : Int32) = 0 then 0 else 1))])) _ := n_send hG hou
              rw [xif_pos m0, xif_pos (ip_i.mpr c1), gt, xif_pos c2, s30 ht, s31 ht, s32 ht, ox, oy, oz, p0, p1, p2, hr_mr (kd := kd) (re := re) (lo := lo) (hi := hi) (show x < 8 by omega), hr_mr (kd := kd) (re := re) (lo := lo) (hi := hi) (show y < 8 by omega), hr_mr (kd := kd) (re := re) (lo := lo) (hi := hi) (show z < 8 by omega), xif_neg r0, xif_neg r1, xif_neg r2, gx, gy, gz] at hn
              exact PR_mk ab be lg lt sm nb kd ms (vp_updL (vp_updL (vp_updL dr x (dr x + t0.toInt64 * (1000 - w).toInt64)) y ((vp_updL dr x (dr x + t0.toInt64 * (1000 - w).toInt64)) y + t1.toInt64 * (1000 - w).toInt64)) z ((vp_updL (vp_updL dr x (dr x + t0.toInt64 * (1000 - w).toInt64)) y ((vp_updL dr x (dr x + t0.toInt64 * (1000 - w).toInt64)) y + t1.toInt64 * (1000 - w).toInt64)) z + t2.toInt64 * (1000 - w).toInt64)) (vp_updL (vp_updL (vp_updL wa x (wa x + t0.toInt64 * w.toInt64)) y ((vp_updL wa x (wa x + t0.toInt64 * w.toInt64)) y + t1.toInt64 * w.toInt64)) z ((vp_updL (vp_updL wa x (wa x + t0.toInt64 * w.toInt64)) y ((vp_updL wa x (wa x + t0.toInt64 * w.toInt64)) y + t1.toInt64 * w.toInt64)) z + t2.toInt64 * w.toInt64)) re lo hi scm ou sr (gi + 1000 * t0.toInt64 + 1000 * t1.toInt64 + 1000 * t2.toInt64) go ns nr dy pt td tw (vp_updL o 0 (if (1 : Int32) = 0 then 0 else 1)) (Nat.zero_le 1) (Nat.zero_le 6) hl rfl hn (ch_ext (fun i _ => congrFun (e_3 f_pi f_pi f_pi) i) (fun _ _ => rfl)) ⟨hP1.1, hn8, hr8, hP1.2.2.2.1, PB3, PE_upd hz (PE_upd hy (PE_upd hx hP.2.2.2.2.2.1)), hP.2.2.2.2.2.2⟩ ⟨_, rfl, fun _ => up0.trans (by rw [if_neg r2]; rfl)⟩
      · rw [xif_pos c1, xif_neg c2] at hm
        have hn : XM G Y_Mo_send [.ref 22, .int (nI t), .int k, .int w] (1, pq th ab be lg lt sm nb kd ms dr wa re lo hi scm ou sr gi go ns nr dy pt td tw o) _ := n_send hG hou
        rw [xif_pos m0, xif_pos (ip_i.mpr c1), gt, xif_neg c2] at hn
        exact PR_mk ab be lg lt sm nb kd ms dr wa re lo hi scm ou sr gi go ns nr dy pt td tw o (Nat.le_refl 1) (Nat.le_refl 6) (w_send_S rfl hm) rfl hn rfl hP1 ⟨0, rfl, fun q => absurd q (by decide)⟩
    · rw [xif_neg c1] at hm
      have hn : XM G Y_Mo_send [.ref 22, .int (nI t), .int k, .int w] (1, pq th ab be lg lt sm nb kd ms dr wa re lo hi scm ou sr gi go ns nr dy pt td tw o) _ := n_send hG hou
      rw [xif_pos m0, xif_neg (fun q => c1 (ip_i.mp q))] at hn
      exact PR_mk ab be lg lt sm nb kd ms dr wa re lo hi scm ou sr gi go ns nr dy pt td tw o (Nat.le_refl 1) (Nat.le_refl 6) (w_send_A rfl hm) rfl hn rfl hP1 ⟨0, rfl, fun q => absurd q (by decide)⟩
  · rw [xif_neg c0] at hm
    have hn : XM G Y_Mo_send [.ref 22, .int s, .int k, .int w] (1, pq th ab be lg lt sm nb kd ms dr wa re lo hi scm ou sr gi go ns nr dy pt td tw o) _ := n_send hG (fun q => absurd (ss_3.mpr q) c0)
    rw [xif_neg (fun q => c0 (ss_3.mpr q))] at hn
    exact PR_mk ab be lg lt sm nb kd ms dr wa re lo hi scm ou sr gi go ns nr dy pt td tw o (Nat.le_refl 1) (Nat.le_refl 6) (w_send_I rfl hm) rfl hn rfl hP1 ⟨0, rfl, fun q => absurd q (by decide)⟩
theorem sp_e {kd lo hi ms k : Int32} {d a re x z : Int64} (hx : x = 1000 * k.toInt64 - z) (h : 1 ≤ (d + a + 1000 * k.toInt64).toInt) : s_sp (kd, ms, d, a, re, lo, hi) x z = (a + z) * 1000 / (d + a + 1000 * k.toInt64) := by
  unfold s_sp s_po s_gr
  show (if 1 ≤ d + a + x + z then (a + z) * 1000 / (d + a + x + z) else 0) = _
  have e : d + a + x + z = d + a + 1000 * k.toInt64 := by rw [hx]; grind
  rw [e, if_pos (by rw [Int64.le_iff_toInt_le, q1]; exact h)]
theorem PB_add {nb t : Nat} {ms : Nat → Int32} {dr wa : Nat → Int64} {x z : Int64} {K : Int} (hB : PB nb ms dr wa) (ht : t < nb) (x1 : 0 ≤ x.toInt) (z1 : 0 ≤ z.toInt) (hK : x.toInt + z.toInt = K) (hr : (dr t).toInt + (wa t).toInt + K ≤ 1000 * (ms t).toInt) : PB nb ms (vp_updL dr t (dr t + x)) (vp_updL wa t (wa t + z)) := by
  intro i hi
  unfold vp_updL
  by_cases c : i = t
  · subst c
    rw [if_pos rfl, if_pos rfl]
    obtain ⟨h1, h2, h3, h4, h5⟩ := hB i hi
    rw [Jvm.Kit.i64_add (by omega) (by omega), Jvm.Kit.i64_add (by omega) (by omega)]
    exact ⟨h1, h2, by omega, by omega, by omega⟩
  · rw [if_neg c, if_neg c]
    exact hB i hi
theorem hr_b {kd lo hi ms k : Int32} {d a re : Int64} (h2 : ms.toInt ≤ 1000000) (h3 : 0 ≤ d.toInt) (h4 : 0 ≤ a.toInt) (h5 : d.toInt + a.toInt ≤ 1000 * ms.toInt) (k1 : 0 ≤ k.toInt) (k2 : k.toInt ≤ 1000000) (hr : ¬ s_hr (kd, ms, d, a, re, lo, hi) k = 0) : d.toInt + a.toInt + 1000 * k.toInt ≤ 1000 * ms.toInt := by
  have hr2 : ¬ ms.toInt64 * 1000 < d + a + k.toInt64 * 1000 := by
    intro q
    refine hr ?_
    unfold s_hr s_gr
    exact if_pos q
  have e1 : (d + a).toInt = d.toInt + a.toInt := Jvm.Kit.i64_add (by omega) (by omega)
  rw [Int64.lt_iff_toInt_lt, k1000, Jvm.Kit.i64_add (by rw [e1, k1000]; omega) (by rw [e1, k1000]; omega), e1, k1000] at hr2
  omega
theorem e_m {B B1 : Nat → cB} {n t : Nat} {x z : Int64} (h1 : vf_upd B n (s_ta (B n) x z) = B1) {i : Nat} {v : cB} (h2 : vf_upd B1 t (s_ch (B1 t) x z) i = v) : vf_upd (vf_upd B n (s_ta (B n) x z)) t (s_ch ((vf_upd B n (s_ta (B n) x z)) t) x z) i = v := by
  subst h1
  exact h2
theorem f_ta {kd ms lo hi : Nat → Int32} {dr wa re : Nat → Int64} {n : Nat} {x z : Int64} : vf_upd (fun i => ((kd i, ms i, dr i, wa i, re i, lo i, hi i) : cB)) n (s_ta (kd n, ms n, dr n, wa n, re n, lo n, hi n) x z) = fun i => (kd i, ms i, vp_updL dr n (dr n - x) i, vp_updL wa n (wa n - z) i, re i, lo i, hi i) := funext (fun i => e_ta i)
theorem e_mx {kd ms lo hi : Nat → Int32} {dr wa re : Nat → Int64} {n t : Nat} {x z : Int64} (hnt : ¬ t = n) (i : Nat) : vf_upd (vf_upd (fun i => ((kd i, ms i, dr i, wa i, re i, lo i, hi i) : cB)) n (s_ta (kd n, ms n, dr n, wa n, re n, lo n, hi n) x z)) t (s_ch ((vf_upd (fun i => ((kd i, ms i, dr i, wa i, re i, lo i, hi i) : cB)) n (s_ta (kd n, ms n, dr n, wa n, re n, lo n, hi n) x z)) t) x z) i = (kd i, ms i, vp_updL (vp_updL dr n (dr n - x)) t ((vp_updL dr n (dr n - x)) t + x) i, vp_updL (vp_updL wa n (wa n - z)) t (wa t + z) i, re i, lo i, hi i) := by
  refine e_m (B := fun i => ((kd i, ms i, dr i, wa i, re i, lo i, hi i) : cB)) f_ta ?_
  have e := e_dw (kd := kd) (ms := ms) (lo := lo) (hi := hi) (re := re) (dr := vp_updL dr n (dr n - x)) (wa := vp_updL wa n (wa n - z)) (n := t) (x := (vp_updL dr n (dr n - x)) t + x) (z := (vp_updL wa n (wa n - z)) t + z) i
  rw [show (vp_updL wa n (wa n - z)) t = wa t from upn hnt] at e
  rw [← e]
  show vf_upd _ t (kd t, ms t, (vp_updL dr n (dr n - x)) t + x, (vp_updL wa n (wa n - z)) t + z, re t, lo t, hi t) i = _
  rw [show (vp_updL wa n (wa n - z)) t = wa t from upn hnt]
set_option maxHeartbeats 4000000 in
set_option maxRecDepth 100000 in
theorem p_mix {b t k : Int32} (hG : gTok G) (hI : Inv j h) : PR G j Y_La_mix Y_Mo_mix [.ref 0, .int b, .int t, .int k, .ref 39] [.ref 22, .int b, .int t, .int k] h 3 := by
  obtain ⟨th, ab, be, lg, lt, sm, nb, kd, ms, dr, wa, re, lo, hi, scm, ou, sr, gi, go, ns, nr, dy, pt, td, tw, o, hP, rfl⟩ := hI
  have hP1 := PI_up (Nat.le_succ j) hP
  have hn8 := hP.2.1
  have hr8 := hP.2.2.1
  have hm : XM G Y_RF_mix [.ref 0, .int b, .int t, .int k] (1, pq th ab be lg lt sm nb kd ms dr wa re lo hi scm ou sr gi go ns nr dy pt td tw o) _ := m_mix hG
  have hz2 : s_nb (nI nb) t = 0 → ¬ s_in k.toInt64 1 1000000 = 0 → ¬ s_al dr wa t + 1000 * k.toInt64 = 0 := by
    intro a1 a2 q
    obtain ⟨m, hm0, rfl⟩ := of_nb hn8 a1
    obtain ⟨k1, k2⟩ := okT_b (tk_i.mp a2)
    obtain ⟨b1, b2, b3, b4, b5⟩ := hP.2.2.2.2.1 m hm0
    have e1 : (dr m + wa m).toInt = (dr m).toInt + (wa m).toInt := Jvm.Kit.i64_add (by omega) (by omega)
    have e2 := k_mul (k := k) (by omega) k2
    rw [al_e (by omega)] at q
    have q2 := congrArg Int64.toInt q
    rw [Jvm.Kit.i64_add (by rw [e1, e2]; omega) (by rw [e1, e2]; omega), e1, e2, q0] at q2
    omega
  by_cases c1 : okB (nI nb) b
  · by_cases cT : okB (nI nb) t
    · obtain ⟨m, hm0, rfl⟩ := of_ok hn8 c1
      obtain ⟨u, hu0, rfl⟩ := of_ok hn8 cT
      have hm8 : m < 8 := by omega
      have hu8 : u < 8 := by omega
      have gm := nI_c hm8
      have gu := nI_c hu8
      have hh : s_nb (nI nb) (nI m) = 0 ∧ s_nb (nI nb) (nI u) = 0 := ⟨nb_of hn8 hm0, nb_of hn8 hu0⟩
      rw [xif_pos c1, xif_pos cT, gm, gu] at hm
      by_cases cN : ¬ nI m = nI u
      · by_cases c2 : okT k
        · by_cases c4 : okE (kd m, ms m, dr m, wa m, re m, lo m, hi m) k
          · have ⟨k1, k2⟩ := okT_b c2
            obtain ⟨b1, b2, b3, b4, b5⟩ := hP.2.2.2.2.1 m hm0
            have en := okE_b b2 b3 b4 b5 c4
            have e1 : (dr m + wa m).toInt = (dr m).toInt + (wa m).toInt := Jvm.Kit.i64_add (by omega) (by omega)
            have wie : s_wi ((fun i => ((kd i, ms i, dr i, wa i, re i, lo i, hi i) : cB)) m) k = wa m * (1000 * k.toInt64) / (dr m + wa m) := wi_e (by omega)
            have die : s_di ((fun i => ((kd i, ms i, dr i, wa i, re i, lo i, hi i) : cB)) m) k = 1000 * k.toInt64 - wa m * (1000 * k.toInt64) / (dr m + wa m) := di_e (by omega)
            obtain ⟨t1, t2, t3, t4, t5⟩ := b_take b2 b3 b4 b5 k1 k2 en
            have hmu : ¬ u = m := fun q => cN (by rw [q])
            obtain ⟨y1, y2, y3, y4, y5⟩ := hP.2.2.2.2.1 u hu0
            have e2 := k_mul (k := k) (by omega) k2
            have f1 : (dr u + wa u).toInt = (dr u).toInt + (wa u).toInt := Jvm.Kit.i64_add (by omega) (by omega)
            have spe : s_sp ((fun i => ((kd i, ms i, dr i, wa i, re i, lo i, hi i) : cB)) u) (1000 * k.toInt64 - wa m * (1000 * k.toInt64) / (dr m + wa m)) (wa m * (1000 * k.toInt64) / (dr m + wa m)) = (wa u + wa m * (1000 * k.toInt64) / (dr m + wa m)) * 1000 / (dr u + wa u + 1000 * k.toInt64) := sp_e rfl (by rw [Jvm.Kit.i64_add (by rw [f1, e2]; omega) (by rw [f1, e2]; omega), f1, e2]; omega)
            rw [xif_pos cN, xif_pos c2, xif_pos c4, die, wie, ← Int64.add_assoc] at hm
            by_cases r : s_hr (kd u, ms u, dr u, wa u, re u, lo u, hi u) k = 0
            · by_cases ra : (wa u + wa m * (1000 * k.toInt64) / (dr m + wa m)) * 1000 / (dr u + wa u + 1000 * k.toInt64) < (lo u).toInt64
              · rw [xif_pos r] at hm
                have hl := w_mix_ok hG rfl rfl hm
                rw [set39] at hl
                have hn : XM G Y_Mo_mix [.ref 22, .int (nI m), .int (nI u), .int k] (1, ch (ab 0, be 0) (ab 1, be 1) (lt 0, lt 1, lt 2, lt 3, lt 4) (sm 0, sm 1, sm 2, sm 3, sm 4) lg (nI nb) gi go (nI ns) (fun i => (kd i, ms i, dr i, wa i, re i, lo i, hi i)) (fun i => (scm i, ou (3 * i), ou (3 * i + 1), ou (3 * i + 2), sr (3 * i + 1), sr (3 * i + 2))) (nI nr) dy pt (mh th ab be lg lt sm (nI nb) kd (fun i => (ms i).toInt64) dr wa re lo hi scm ou sr gi go (nI ns).toInt64 (nI nr) dy pt td tw [oc_ (vp_updL o 0 (if (0 : Int32) = 0 then 0 else 1))])) _ := n_mix hG rfl hn8 hz2
                rw [xif_pos hh, xif_pos ⟨cN, tk_i.mpr c2⟩, xif_pos ((ha_i (kd := kd) (ms := ms) (re := re) (lo := lo) (hi := hi) hm8).mpr c4), gm, gu, al_e hm8, al_e hu8, xif_pos ra] at hn
                exact PR_mk ab be lg lt sm nb kd ms dr wa re lo hi scm ou sr gi go ns nr dy pt (1000 * k.toInt64 - wa m * (1000 * k.toInt64) / (dr m + wa m)) (wa m * (1000 * k.toInt64) / (dr m + wa m)) (vp_updL o 0 (if (0 : Int32) = 0 then 0 else 1)) (Nat.zero_le 1) (Nat.zero_le 6) hl rfl hn rfl hP1 ⟨0, rfl, fun _ => up0⟩
              · by_cases rb : (hi u).toInt64 < (wa u + wa m * (1000 * k.toInt64) / (dr m + wa m)) * 1000 / (dr u + wa u + 1000 * k.toInt64)
                · rw [xif_pos r] at hm
                  have hl := w_mix_ok hG rfl rfl hm
                  rw [set39] at hl
                  have hn : XM G Y_Mo_mix [.ref 22, .int (nI m), .int (nI u), .int k] (1, ch (ab 0, be 0) (ab 1, be 1) (lt 0, lt 1, lt 2, lt 3, lt 4) (sm 0, sm 1, sm 2, sm 3, sm 4) lg (nI nb) gi go (nI ns) (fun i => (kd i, ms i, dr i, wa i, re i, lo i, hi i)) (fun i => (scm i, ou (3 * i), ou (3 * i + 1), ou (3 * i + 2), sr (3 * i + 1), sr (3 * i + 2))) (nI nr) dy pt (mh th ab be lg lt sm (nI nb) kd (fun i => (ms i).toInt64) dr wa re lo hi scm ou sr gi go (nI ns).toInt64 (nI nr) dy pt td tw [oc_ (vp_updL o 0 (if (0 : Int32) = 0 then 0 else 1))])) _ := n_mix hG rfl hn8 hz2
                  rw [xif_pos hh, xif_pos ⟨cN, tk_i.mpr c2⟩, xif_pos ((ha_i (kd := kd) (ms := ms) (re := re) (lo := lo) (hi := hi) hm8).mpr c4), gm, gu, al_e hm8, al_e hu8, xif_neg ra, xif_pos rb] at hn
                  exact PR_mk ab be lg lt sm nb kd ms dr wa re lo hi scm ou sr gi go ns nr dy pt (1000 * k.toInt64 - wa m * (1000 * k.toInt64) / (dr m + wa m)) (wa m * (1000 * k.toInt64) / (dr m + wa m)) (vp_updL o 0 (if (0 : Int32) = 0 then 0 else 1)) (Nat.zero_le 1) (Nat.zero_le 6) hl rfl hn rfl hP1 ⟨0, rfl, fun _ => up0⟩
                · rw [xif_pos r] at hm
                  have hl := w_mix_ok hG rfl rfl hm
                  rw [set39] at hl
                  have hn : XM G Y_Mo_mix [.ref 22, .int (nI m), .int (nI u), .int k] (1, ch (ab 0, be 0) (ab 1, be 1) (lt 0, lt 1, lt 2, lt 3, lt 4) (sm 0, sm 1, sm 2, sm 3, sm 4) lg (nI nb) gi go (nI ns) (fun i => (kd i, ms i, dr i, wa i, re i, lo i, hi i)) (fun i => (scm i, ou (3 * i), ou (3 * i + 1), ou (3 * i + 2), sr (3 * i + 1), sr (3 * i + 2))) (nI nr) dy pt (mh th ab be lg lt sm (nI nb) kd (fun i => (ms i).toInt64) dr wa re lo hi scm ou sr gi go (nI ns).toInt64 (nI nr) dy pt td tw [oc_ (vp_updL o 0 (if (0 : Int32) = 0 then 0 else 1))])) _ := n_mix hG rfl hn8 hz2
                  rw [xif_pos hh, xif_pos ⟨cN, tk_i.mpr c2⟩, xif_pos ((ha_i (kd := kd) (ms := ms) (re := re) (lo := lo) (hi := hi) hm8).mpr c4), gm, gu, al_e hm8, al_e hu8, xif_neg ra, xif_neg rb, hr_mr (kd := kd) (re := re) (lo := lo) (hi := hi) hu8, xif_pos r] at hn
                  exact PR_mk ab be lg lt sm nb kd ms dr wa re lo hi scm ou sr gi go ns nr dy pt (1000 * k.toInt64 - wa m * (1000 * k.toInt64) / (dr m + wa m)) (wa m * (1000 * k.toInt64) / (dr m + wa m)) (vp_updL o 0 (if (0 : Int32) = 0 then 0 else 1)) (Nat.zero_le 1) (Nat.zero_le 6) hl rfl hn rfl hP1 ⟨0, rfl, fun _ => up0⟩
            · by_cases ra : (wa u + wa m * (1000 * k.toInt64) / (dr m + wa m)) * 1000 / (dr u + wa u + 1000 * k.toInt64) < (lo u).toInt64
              · have sa0 : s_sa ((fun i => ((kd i, ms i, dr i, wa i, re i, lo i, hi i) : cB)) u) (1000 * k.toInt64 - wa m * (1000 * k.toInt64) / (dr m + wa m)) (wa m * (1000 * k.toInt64) / (dr m + wa m)) = 0 := by
                  unfold s_sa
                  rw [spe]
                  exact if_pos ra
                rw [xif_neg r, xif_pos sa0] at hm
                have hl := w_mix_ok hG rfl rfl hm
                rw [set39] at hl
                have hn : XM G Y_Mo_mix [.ref 22, .int (nI m), .int (nI u), .int k] (1, ch (ab 0, be 0) (ab 1, be 1) (lt 0, lt 1, lt 2, lt 3, lt 4) (sm 0, sm 1, sm 2, sm 3, sm 4) lg (nI nb) gi go (nI ns) (fun i => (kd i, ms i, dr i, wa i, re i, lo i, hi i)) (fun i => (scm i, ou (3 * i), ou (3 * i + 1), ou (3 * i + 2), sr (3 * i + 1), sr (3 * i + 2))) (nI nr) dy pt (mh th ab be lg lt sm (nI nb) kd (fun i => (ms i).toInt64) dr wa re lo hi scm ou sr gi go (nI ns).toInt64 (nI nr) dy pt td tw [oc_ (vp_updL o 0 (if (0 : Int32) = 0 then 0 else 1))])) _ := n_mix hG rfl hn8 hz2
                rw [xif_pos hh, xif_pos ⟨cN, tk_i.mpr c2⟩, xif_pos ((ha_i (kd := kd) (ms := ms) (re := re) (lo := lo) (hi := hi) hm8).mpr c4), gm, gu, al_e hm8, al_e hu8, xif_pos ra] at hn
                exact PR_mk ab be lg lt sm nb kd ms dr wa re lo hi scm ou sr gi go ns nr dy pt (1000 * k.toInt64 - wa m * (1000 * k.toInt64) / (dr m + wa m)) (wa m * (1000 * k.toInt64) / (dr m + wa m)) (vp_updL o 0 (if (0 : Int32) = 0 then 0 else 1)) (Nat.zero_le 1) (Nat.zero_le 6) hl rfl hn rfl hP1 ⟨0, rfl, fun _ => up0⟩
              · by_cases rb : (hi u).toInt64 < (wa u + wa m * (1000 * k.toInt64) / (dr m + wa m)) * 1000 / (dr u + wa u + 1000 * k.toInt64)
                · have sa0 : s_sa ((fun i => ((kd i, ms i, dr i, wa i, re i, lo i, hi i) : cB)) u) (1000 * k.toInt64 - wa m * (1000 * k.toInt64) / (dr m + wa m)) (wa m * (1000 * k.toInt64) / (dr m + wa m)) = 0 := by
                    unfold s_sa
                    rw [spe]
                    exact (if_neg ra).trans (if_pos rb)
                  rw [xif_neg r, xif_pos sa0] at hm
                  have hl := w_mix_ok hG rfl rfl hm
                  rw [set39] at hl
                  have hn : XM G Y_Mo_mix [.ref 22, .int (nI m), .int (nI u), .int k] (1, ch (ab 0, be 0) (ab 1, be 1) (lt 0, lt 1, lt 2, lt 3, lt 4) (sm 0, sm 1, sm 2, sm 3, sm 4) lg (nI nb) gi go (nI ns) (fun i => (kd i, ms i, dr i, wa i, re i, lo i, hi i)) (fun i => (scm i, ou (3 * i), ou (3 * i + 1), ou (3 * i + 2), sr (3 * i + 1), sr (3 * i + 2))) (nI nr) dy pt (mh th ab be lg lt sm (nI nb) kd (fun i => (ms i).toInt64) dr wa re lo hi scm ou sr gi go (nI ns).toInt64 (nI nr) dy pt td tw [oc_ (vp_updL o 0 (if (0 : Int32) = 0 then 0 else 1))])) _ := n_mix hG rfl hn8 hz2
                  rw [xif_pos hh, xif_pos ⟨cN, tk_i.mpr c2⟩, xif_pos ((ha_i (kd := kd) (ms := ms) (re := re) (lo := lo) (hi := hi) hm8).mpr c4), gm, gu, al_e hm8, al_e hu8, xif_neg ra, xif_pos rb] at hn
                  exact PR_mk ab be lg lt sm nb kd ms dr wa re lo hi scm ou sr gi go ns nr dy pt (1000 * k.toInt64 - wa m * (1000 * k.toInt64) / (dr m + wa m)) (wa m * (1000 * k.toInt64) / (dr m + wa m)) (vp_updL o 0 (if (0 : Int32) = 0 then 0 else 1)) (Nat.zero_le 1) (Nat.zero_le 6) hl rfl hn rfl hP1 ⟨0, rfl, fun _ => up0⟩
                · have sa1 : ¬ s_sa ((fun i => ((kd i, ms i, dr i, wa i, re i, lo i, hi i) : cB)) u) (1000 * k.toInt64 - wa m * (1000 * k.toInt64) / (dr m + wa m)) (wa m * (1000 * k.toInt64) / (dr m + wa m)) = 0 := by
                    unfold s_sa
                    rw [spe]
                    intro q
                    have q2 := ((if_neg ra).trans (if_neg rb)).symm.trans q
                    exact absurd q2 (by decide)
                  have PB1 := PB_take hP.2.2.2.2.1 hm0 k1 k2 en
                  have rm := hr_b y2 y3 y4 y5 (by omega) k2 r
                  have PB2 := PB_add (t := u) PB1 hu0 (x := 1000 * k.toInt64 - wa m * (1000 * k.toInt64) / (dr m + wa m)) (z := wa m * (1000 * k.toInt64) / (dr m + wa m)) (by omega) (by omega) (show _ = 1000 * k.toInt by omega) (by rw [upn hmu, upn hmu]; exact rm)
                  rw [show (vp_updL wa m (wa m - wa m * (1000 * k.toInt64) / (dr m + wa m))) u = wa u from upn hmu] at PB2
                  rw [xif_neg r, xif_neg sa1] at hm
                  have hl := w_mix_ok hG rfl rfl hm
                  rw [set39] at hl
                  have hn : XM G Y_Mo_mix [.ref 22, .int (nI m), .int (nI u), .int k] (1, ch (ab 0, be 0) (ab 1, be 1) (lt 0, lt 1, lt 2, lt 3, lt 4) (sm 0, sm 1, sm 2, sm 3, sm 4) lg (nI nb) gi (go + (1000 * k.toInt64 - wa m * (1000 * k.toInt64) / (dr m + wa m)) + wa m * (1000 * k.toInt64) / (dr m + wa m)) (nI ns) (vf_upd (vf_upd (fun i => ((kd i, ms i, dr i, wa i, re i, lo i, hi i) : cB)) m (s_ta ((fun i => ((kd i, ms i, dr i, wa i, re i, lo i, hi i) : cB)) m) (1000 * k.toInt64 - wa m * (1000 * k.toInt64) / (dr m + wa m)) (wa m * (1000 * k.toInt64) / (dr m + wa m)))) u (s_ch ((vf_upd (fun i => ((kd i, ms i, dr i, wa i, re i, lo i, hi i) : cB)) m (s_ta ((fun i => ((kd i, ms i, dr i, wa i, re i, lo i, hi i) : cB)) m) (1000 * k.toInt64 - wa m * (1000 * k.toInt64) / (dr m + wa m)) (wa m * (1000 * k.toInt64) / (dr m + wa m)))) u) (1000 * k.toInt64 - wa m * (1000 * k.toInt64) / (dr m + wa m)) (wa m * (1000 * k.toInt64) / (dr m + wa m)))) (fun i => (scm i, ou (3 * i), ou (3 * i + 1), ou (3 * i + 2), sr (3 * i + 1), sr (3 * i + 2))) (nI nr) dy pt (mh th ab be lg lt sm (nI nb) kd (fun i => (ms i).toInt64) dr wa re lo hi scm ou sr gi go (nI ns).toInt64 (nI nr) dy pt td tw [oc_ (vp_updL o 0 (if (1 : Int32) = 0 then 0 else 1))])) _ := n_mix hG rfl hn8 hz2
                  rw [xif_pos hh, xif_pos ⟨cN, tk_i.mpr c2⟩, xif_pos ((ha_i (kd := kd) (ms := ms) (re := re) (lo := lo) (hi := hi) hm8).mpr c4), gm, gu, al_e hm8, al_e hu8, xif_neg ra, xif_neg rb, hr_mr (kd := kd) (re := re) (lo := lo) (hi := hi) hu8, xif_neg r] at hn
                  exact PR_mk ab be lg lt sm nb kd ms (vp_updL (vp_updL dr m (dr m - (1000 * k.toInt64 - wa m * (1000 * k.toInt64) / (dr m + wa m)))) u ((vp_updL dr m (dr m - (1000 * k.toInt64 - wa m * (1000 * k.toInt64) / (dr m + wa m)))) u + (1000 * k.toInt64 - wa m * (1000 * k.toInt64) / (dr m + wa m)))) (vp_updL (vp_updL wa m (wa m - wa m * (1000 * k.toInt64) / (dr m + wa m))) u (wa u + wa m * (1000 * k.toInt64) / (dr m + wa m))) re lo hi scm ou sr gi (go + (1000 * k.toInt64 - wa m * (1000 * k.toInt64) / (dr m + wa m)) + wa m * (1000 * k.toInt64) / (dr m + wa m)) ns nr dy pt (1000 * k.toInt64 - wa m * (1000 * k.toInt64) / (dr m + wa m)) (wa m * (1000 * k.toInt64) / (dr m + wa m)) (vp_updL o 0 (if (1 : Int32) = 0 then 0 else 1)) (Nat.zero_le 1) (Nat.zero_le 6) hl rfl hn (ch_ext (fun i _ => e_mx hmu i) (fun _ _ => rfl)) ⟨hP1.1, hn8, hr8, hP1.2.2.2.1, PB2, PE_upd hu0 (PE_upd hm0 hP.2.2.2.2.2.1), hP.2.2.2.2.2.2⟩ ⟨1, rfl, fun _ => up0⟩
          · rw [xif_pos cN, xif_pos c2, xif_neg c4] at hm
            have hn : XM G Y_Mo_mix [.ref 22, .int (nI m), .int (nI u), .int k] (1, pq th ab be lg lt sm nb kd ms dr wa re lo hi scm ou sr gi go ns nr dy pt td tw o) _ := n_mix hG rfl hn8 hz2
            rw [xif_pos hh, xif_pos ⟨cN, tk_i.mpr c2⟩, xif_neg (fun q => c4 ((ha_i (kd := kd) (ms := ms) (re := re) (lo := lo) (hi := hi) hm8).mp q))] at hn
            exact PR_mk ab be lg lt sm nb kd ms dr wa re lo hi scm ou sr gi go ns nr dy pt td tw o (Nat.le_refl 1) (Nat.le_refl 6) (w_mix_S rfl hm) rfl hn rfl hP1 ⟨0, rfl, fun q => absurd q (by decide)⟩
        · rw [xif_pos cN, xif_neg c2] at hm
          have hn : XM G Y_Mo_mix [.ref 22, .int (nI m), .int (nI u), .int k] (1, pq th ab be lg lt sm nb kd ms dr wa re lo hi scm ou sr gi go ns nr dy pt td tw o) _ := n_mix hG rfl hn8 hz2
          rw [xif_pos hh, xif_neg (fun q => c2 (tk_i.mp q.2))] at hn
          exact PR_mk ab be lg lt sm nb kd ms dr wa re lo hi scm ou sr gi go ns nr dy pt td tw o (Nat.le_refl 1) (Nat.le_refl 6) (w_mix_A rfl hm) rfl hn rfl hP1 ⟨0, rfl, fun q => absurd q (by decide)⟩
      · rw [xif_neg cN] at hm
        have hn : XM G Y_Mo_mix [.ref 22, .int (nI m), .int (nI u), .int k] (1, pq th ab be lg lt sm nb kd ms dr wa re lo hi scm ou sr gi go ns nr dy pt td tw o) _ := n_mix hG rfl hn8 hz2
        rw [xif_pos hh, xif_neg (fun q => cN q.1)] at hn
        exact PR_mk ab be lg lt sm nb kd ms dr wa re lo hi scm ou sr gi go ns nr dy pt td tw o (Nat.le_refl 1) (Nat.le_refl 6) (w_mix_A rfl hm) rfl hn rfl hP1 ⟨0, rfl, fun q => absurd q (by decide)⟩
    · rw [xif_pos c1, xif_neg cT] at hm
      have hn : XM G Y_Mo_mix [.ref 22, .int b, .int t, .int k] (1, pq th ab be lg lt sm nb kd ms dr wa re lo hi scm ou sr gi go ns nr dy pt td tw o) _ := n_mix hG rfl hn8 hz2
      rw [xif_neg (fun q => cT (by obtain ⟨m, e1, e2⟩ := of_nb hn8 q.2; rw [e2]; exact ok_of hn8 e1))] at hn
      exact PR_mk ab be lg lt sm nb kd ms dr wa re lo hi scm ou sr gi go ns nr dy pt td tw o (Nat.le_refl 1) (Nat.le_refl 6) (w_mix_I rfl hm) rfl hn rfl hP1 ⟨0, rfl, fun q => absurd q (by decide)⟩
  · rw [xif_neg c1] at hm
    have hn : XM G Y_Mo_mix [.ref 22, .int b, .int t, .int k] (1, pq th ab be lg lt sm nb kd ms dr wa re lo hi scm ou sr gi go ns nr dy pt td tw o) _ := n_mix hG rfl hn8 hz2
    rw [xif_neg (fun q => c1 (by obtain ⟨m, e1, e2⟩ := of_nb hn8 q.1; rw [e2]; exact ok_of hn8 e1))] at hn
    exact PR_mk ab be lg lt sm nb kd ms dr wa re lo hi scm ou sr gi go ns nr dy pt td tw o (Nat.le_refl 1) (Nat.le_refl 6) (w_mix_I rfl hm) rfl hn rfl hP1 ⟨0, rfl, fun q => absurd q (by decide)⟩
end XP3
