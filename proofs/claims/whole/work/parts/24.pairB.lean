section XP2
variable {G : xG} {j : Nat} {h : List va_E}
theorem nI_s {n : Nat} : nI n + 1 = nI (n + 1) := by rw [show (1 : Int32) = nI 1 from rfl, nI_add]
theorem bn_i {m : Int32} : (¬ s_in m.toInt64 1 1000000 = 0) ↔ (¬ m < 1 ∧ m ≤ 1000000) := by
  rw [in_i]
  simp only [Int32.lt_iff_toInt_lt, Int32.le_iff_toInt_le, Jvm.Kit.i64_of_i32, l1, lM, q1, qM]
  omega
theorem mo_e {ms : Nat → Int32} {n : Nat} {m : Int32} : vp_updL (fun i => (ms i).toInt64) n m.toInt64 = fun i => (upd ms n m i).toInt64 := by
  funext i
  unfold vp_updL upd
  by_cases c : i = n
  · rw [if_pos c, if_pos c]
  · rw [if_neg c, if_neg c]
theorem e_bin {kd ms lo hi : Nat → Int32} {dr wa re : Nat → Int64} {n : Nat} {k m : Int32} (i : Nat) : vf_upd (fun i => ((kd i, ms i, dr i, wa i, re i, lo i, hi i) : cB)) n (k, m, ((fun i => ((kd i, ms i, dr i, wa i, re i, lo i, hi i) : cB)) n).2.2) i = (upd kd n k i, upd ms n m i, dr i, wa i, re i, lo i, hi i) := by
  unfold vf_upd upd
  by_cases c : i = n
  · subst c; simp only [if_true]
  · simp only [if_neg c]
theorem e_dw {kd ms lo hi : Nat → Int32} {dr wa re : Nat → Int64} {n : Nat} {x z : Int64} (i : Nat) : vf_upd (fun i => ((kd i, ms i, dr i, wa i, re i, lo i, hi i) : cB)) n (kd n, ms n, x, z, re n, lo n, hi n) i = (kd i, ms i, vp_updL dr n x i, vp_updL wa n z i, re i, lo i, hi i) := by
  unfold vf_upd vp_updL
  by_cases c : i = n
  · subst c; simp only [if_true]
  · simp only [if_neg c]
theorem e_re {kd ms lo hi : Nat → Int32} {dr wa re : Nat → Int64} {n : Nat} {x : Int64} (i : Nat) : vf_upd (fun i => ((kd i, ms i, dr i, wa i, re i, lo i, hi i) : cB)) n (kd n, ms n, dr n, wa n, x, lo n, hi n) i = (kd i, ms i, dr i, wa i, vp_updL re n x i, lo i, hi i) := by
  unfold vf_upd vp_updL
  by_cases c : i = n
  · subst c; simp only [if_true]
  · simp only [if_neg c]
theorem e_sp {kd ms lo hi : Nat → Int32} {dr wa re : Nat → Int64} {n : Nat} {x z : Int32} (i : Nat) : vf_upd (fun i => ((kd i, ms i, dr i, wa i, re i, lo i, hi i) : cB)) n (kd n, ms n, dr n, wa n, re n, x, z) i = (kd i, ms i, dr i, wa i, re i, upd lo n x i, upd hi n z i) := by
  unfold vf_upd upd
  by_cases c : i = n
  · subst c; simp only [if_true]
  · simp only [if_neg c]
theorem PI_bin {ab be : Nat → Int32} {nb : Nat} {ms : Nat → Int32} {dr wa re : Nat → Int64} {scm ou sr : Nat → Int32} {ns nr : Nat} {pt : Nat → Int32} {m : Int32} (hP : PI j ab be nb ms dr wa re scm ou sr ns nr pt) (hb : nb < 8) (hm : ¬ m < 1 ∧ m ≤ 1000000) : PI j ab be (nb + 1) (upd ms nb m) dr wa re scm ou sr ns nr pt := by
  obtain ⟨p1, p2, p3, p4, p5, p6, p7, p8⟩ := hP
  refine ⟨p1, hb, p3, p4, ?_, fun i h1 h2 => p6 i (by omega) h2, ?_, p8⟩
  · intro i hi
    unfold upd
    by_cases c : i = nb
    · subst c
      obtain ⟨d0, w0, -⟩ := p6 i (Nat.le_refl _) hb
      rw [if_pos rfl, d0, w0, q0]
      rw [Int32.lt_iff_toInt_lt, Int32.le_iff_toInt_le, l1, lM] at hm
      omega
    · rw [if_neg c]
      exact p5 i (by omega)
  · intro i hi hs
    obtain ⟨x, y, z, h1, h2, h3, h4⟩ := p7 i hi hs
    exact ⟨x, y, z, by omega, by omega, by omega, h4⟩
set_option maxHeartbeats 4000000 in
set_option maxRecDepth 100000 in
theorem p_bin {k m : Int32} (hG : gTok G) (hI : Inv j h) : PR G j Y_La_bin Y_Mo_bin [.ref 0, .int k, .int m, .ref 39] [.ref 22, .int k, .int m] h 1 := by
  obtain ⟨th, ab, be, lg, lt, sm, nb, kd, ms, dr, wa, re, lo, hi, scm, ou, sr, gi, go, ns, nr, dy, pt, td, tw, o, hP, rfl⟩ := hI
  have hP1 := PI_up (Nat.le_succ j) hP
  have hn8 := hP.2.1
  have hr8 := hP.2.2.1
  have hm : XM G Y_RF_bin [.ref 0, .int k, .int m] (1, pq th ab be lg lt sm nb kd ms dr wa re lo hi scm ou sr gi go ns nr dy pt td tw o) _ := m_bin hG rfl hn8
  by_cases c1 : okK k
  · by_cases c2 : ¬ m < 1 ∧ m ≤ 1000000
    · by_cases c3 : nb < 8
      · rw [xif_pos c1, xif_pos c2, xif_pos (show nI nb < 8 by rw [Int32.lt_iff_toInt_lt, nI_ti (by omega), l8]; omega), nI_s] at hm
        have hl := w_bin_ok hG rfl rfl hm
        rw [set39] at hl
        have hn : XM G Y_Mo_bin [.ref 22, .int k, .int m] (1, ch (ab 0, be 0) (ab 1, be 1) (lt 0, lt 1, lt 2, lt 3, lt 4) (sm 0, sm 1, sm 2, sm 3, sm 4) lg (nI (nb + 1)) gi go (nI ns) (vf_upd (fun i => (kd i, ms i, dr i, wa i, re i, lo i, hi i)) nb (k, m, ((fun i => ((kd i, ms i, dr i, wa i, re i, lo i, hi i) : cB)) nb).2.2)) (fun i => (scm i, ou (3 * i), ou (3 * i + 1), ou (3 * i + 2), sr (3 * i + 1), sr (3 * i + 2))) (nI nr) dy pt (mh th ab be lg lt sm (nI nb) kd (fun i => (ms i).toInt64) dr wa re lo hi scm ou sr gi go (nI ns).toInt64 (nI nr) dy pt td tw [oc_ (vp_updL o 0 ((nI nb).toInt64))])) _ := n_bin hG rfl hn8
        rw [xif_pos (kd_i.mpr c1), xif_pos (bn_i.mpr c2), xif_pos (show ¬ nI nb = 8 by intro q; have := congrArg Int32.toInt q; rw [nI_ti (by omega), l8] at this; omega), lg1, nI_s, nI_c c3, mo_e] at hn
        exact PR_mk ab be lg lt sm (nb + 1) (upd kd nb k) (upd ms nb m) dr wa re lo hi scm ou sr gi go ns nr dy pt td tw (vp_updL o 0 ((nI nb).toInt64)) (Nat.zero_le 1) (Nat.zero_le 6) hl rfl hn (ch_ext (fun i _ => e_bin i) (fun _ _ => rfl)) (PI_bin hP1 c3 c2) ⟨nI nb, rfl, fun _ => up0⟩
      · rw [xif_pos c1, xif_pos c2, xif_neg (show ¬ nI nb < 8 by rw [Int32.lt_iff_toInt_lt, nI_ti (by omega), l8]; omega)] at hm
        have hn : XM G Y_Mo_bin [.ref 22, .int k, .int m] (1, pq th ab be lg lt sm nb kd ms dr wa re lo hi scm ou sr gi go ns nr dy pt td tw o) _ := n_bin hG rfl hn8
        rw [xif_pos (kd_i.mpr c1), xif_pos (bn_i.mpr c2), xif_neg (show ¬ ¬ nI nb = 8 from fun q => q (by rw [show nb = 8 by omega]; rfl))] at hn
        exact PR_mk ab be lg lt sm nb kd ms dr wa re lo hi scm ou sr gi go ns nr dy pt td tw o (Nat.le_refl 1) (Nat.le_refl 6) (w_bin_S rfl hm) rfl hn rfl hP1 ⟨0, rfl, fun q => absurd q (by decide)⟩
    · rw [xif_pos c1, xif_neg c2] at hm
      have hn : XM G Y_Mo_bin [.ref 22, .int k, .int m] (1, pq th ab be lg lt sm nb kd ms dr wa re lo hi scm ou sr gi go ns nr dy pt td tw o) _ := n_bin hG rfl hn8
      rw [xif_pos (kd_i.mpr c1), xif_neg (fun q => c2 (bn_i.mp q))] at hn
      exact PR_mk ab be lg lt sm nb kd ms dr wa re lo hi scm ou sr gi go ns nr dy pt td tw o (Nat.le_refl 1) (Nat.le_refl 6) (w_bin_A rfl hm) rfl hn rfl hP1 ⟨0, rfl, fun q => absurd q (by decide)⟩
  · rw [xif_neg c1] at hm
    have hn : XM G Y_Mo_bin [.ref 22, .int k, .int m] (1, pq th ab be lg lt sm nb kd ms dr wa re lo hi scm ou sr gi go ns nr dy pt td tw o) _ := n_bin hG rfl hn8
    rw [xif_neg (fun q => c1 (kd_i.mp q))] at hn
    exact PR_mk ab be lg lt sm nb kd ms dr wa re lo hi scm ou sr gi go ns nr dy pt td tw o (Nat.le_refl 1) (Nat.le_refl 6) (w_bin_I rfl hm) rfl hn rfl hP1 ⟨0, rfl, fun q => absurd q (by decide)⟩
set_option maxHeartbeats 4000000 in
set_option maxRecDepth 100000 in
theorem p_pour {b k w : Int32} (hG : gTok G) (hI : Inv j h) : PR G j Y_La_pour Y_Mo_pour [.ref 0, .int b, .int k, .int w, .ref 39] [.ref 22, .int b, .int k, .int w] h 3 := by
  obtain ⟨th, ab, be, lg, lt, sm, nb, kd, ms, dr, wa, re, lo, hi, scm, ou, sr, gi, go, ns, nr, dy, pt, td, tw, o, hP, rfl⟩ := hI
  have hP1 := PI_up (Nat.le_succ j) hP
  have hn8 := hP.2.1
  have hr8 := hP.2.2.1
  have hm : XM G Y_RF_pour [.ref 0, .int b, .int k, .int w] (1, pq th ab be lg lt sm nb kd ms dr wa re lo hi scm ou sr gi go ns nr dy pt td tw o) _ := m_pour hG
  by_cases c1 : ∃ m, m < nb ∧ b = nI m
  · obtain ⟨m, hm0, rfl⟩ := c1
    have hm8 : m < 8 := by omega
    have okb := ok_of hn8 hm0
    have okn := nb_of hn8 hm0
    have ec := nI_c hm8
    by_cases c2 : okP k w
    · obtain ⟨k1, k2, w1, w2⟩ := okP_b c2
      rw [xif_pos okb, xif_pos c2, ec] at hm
      by_cases c3 : s_hr (kd m, ms m, dr m, wa m, re m, lo m, hi m) k = 0
      · rw [xif_pos c3] at hm
        have hl := w_pour_ok hG rfl rfl hm
        rw [set39] at hl
        have hn : XM G Y_Mo_pour [.ref 22, .int (nI m), .int k, .int w] (1, ch (ab 0, be 0) (ab 1, be 1) (lt 0, lt 1, lt 2, lt 3, lt 4) (sm 0, sm 1, sm 2, sm 3, sm 4) lg (nI nb) gi go (nI ns) (fun i => (kd i, ms i, dr i, wa i, re i, lo i, hi i)) (fun i => (scm i, ou (3 * i), ou (3 * i + 1), ou (3 * i + 2), sr (3 * i + 1), sr (3 * i + 2))) (nI nr) dy pt (mh th ab be lg lt sm (nI nb) kd (fun i => (ms i).toInt64) dr wa re lo hi scm ou sr gi go (nI ns).toInt64 (nI nr) dy pt td tw [oc_ (vp_updL o 0 (if (0 : Int32) = 0 then 0 else 1))])) _ := n_pour hG rfl hn8
        rw [xif_pos okn, xif_pos (ip_i.mpr c2), hr_mr (kd := kd) (re := re) (lo := lo) (hi := hi) hm8, xif_pos c3] at hn
        exact PR_mk ab be lg lt sm nb kd ms dr wa re lo hi scm ou sr gi go ns nr dy pt td tw (vp_updL o 0 (if (0 : Int32) = 0 then 0 else 1)) (Nat.zero_le 1) (Nat.zero_le 6) hl rfl hn rfl hP1 ⟨0, rfl, fun _ => up0⟩
      · rw [xif_neg c3, Int64.mul_comm k.toInt64 1000] at hm
        have hl := w_pour_ok hG rfl rfl hm
        rw [set39] at hl
        have hn : XM G Y_Mo_pour [.ref 22, .int (nI m), .int k, .int w] (1, ch (ab 0, be 0) (ab 1, be 1) (lt 0, lt 1, lt 2, lt 3, lt 4) (sm 0, sm 1, sm 2, sm 3, sm 4) lg (nI nb) (gi + 1000 * k.toInt64) go (nI ns) (vf_upd (fun i => ((kd i, ms i, dr i, wa i, re i, lo i, hi i) : cB)) m (s_pi ((fun i => ((kd i, ms i, dr i, wa i, re i, lo i, hi i) : cB)) m) k w)) (fun i => (scm i, ou (3 * i), ou (3 * i + 1), ou (3 * i + 2), sr (3 * i + 1), sr (3 * i + 2))) (nI nr) dy pt (mh th ab be lg lt sm (nI nb) kd (fun i => (ms i).toInt64) dr wa re lo hi scm ou sr gi go (nI ns).toInt64 (nI nr) dy pt td tw [oc_ (vp_updL o 0 (if (1 : Int32) = 0 then 0 else 1))])) _ := n_pour hG rfl hn8
        rw [xif_pos okn, xif_pos (ip_i.mpr c2), hr_mr (kd := kd) (re := re) (lo := lo) (hi := hi) hm8, xif_neg c3, ec] at hn
        exact PR_mk ab be lg lt sm nb kd ms (vp_updL dr m (dr m + k.toInt64 * (1000 - w).toInt64)) (vp_updL wa m (wa m + k.toInt64 * w.toInt64)) re lo hi scm ou sr (gi + 1000 * k.toInt64) go ns nr dy pt td tw (vp_updL o 0 (if (1 : Int32) = 0 then 0 else 1)) (Nat.zero_le 1) (Nat.zero_le 6) hl rfl hn (ch_ext (fun i _ => e_dw i) (fun _ _ => rfl)) ⟨hP1.1, hn8, hr8, hP1.2.2.2.1, PB_pour hP.2.2.2.2.1 hm0 k1 k2 w1 w2 c3, PE_upd hm0 hP.2.2.2.2.2.1, hP.2.2.2.2.2.2⟩ ⟨1, rfl, fun _ => up0⟩
    · rw [xif_pos okb, xif_neg c2] at hm
      have hn : XM G Y_Mo_pour [.ref 22, .int (nI m), .int k, .int w] (1, pq th ab be lg lt sm nb kd ms dr wa re lo hi scm ou sr gi go ns nr dy pt td tw o) _ := n_pour hG rfl hn8
      rw [xif_pos okn, xif_neg (fun q => c2 (ip_i.mp q))] at hn
      exact PR_mk ab be lg lt sm nb kd ms dr wa re lo hi scm ou sr gi go ns nr dy pt td tw o (Nat.le_refl 1) (Nat.le_refl 6) (w_pour_A rfl hm) rfl hn rfl hP1 ⟨0, rfl, fun q => absurd q (by decide)⟩
  · rw [xif_neg (fun q => c1 (of_ok hn8 q))] at hm
    have hn : XM G Y_Mo_pour [.ref 22, .int b, .int k, .int w] (1, pq th ab be lg lt sm nb kd ms dr wa re lo hi scm ou sr gi go ns nr dy pt td tw o) _ := n_pour hG rfl hn8
    rw [xif_neg (fun q => c1 (of_nb hn8 q))] at hn
    exact PR_mk ab be lg lt sm nb kd ms dr wa re lo hi scm ou sr gi go ns nr dy pt td tw o (Nat.le_refl 1) (Nat.le_refl 6) (w_pour_I rfl hm) rfl hn rfl hP1 ⟨0, rfl, fun q => absurd q (by decide)⟩
theorem no6 {q : Int32} (h : ¬ q < 0 ∧ q ≤ 5) (e0 : ¬ q = 0) (e1 : ¬ q = 1) (e2 : ¬ q = 2) (e3 : ¬ q = 3) (e4 : ¬ q = 4) (e5 : ¬ q = 5) : False := by
  have a0 := ti 0 l0 e0
  have a1 := ti 1 l1 e1
  have a2 := ti 2 (by decide : (2 : Int32).toInt = 2) e2
  have a3 := ti 3 l3 e3
  have a4 := ti 4 l4 e4
  have a5 := ti 5 l5 e5
  rw [Int32.lt_iff_toInt_lt, Int32.le_iff_toInt_le, l0, l5] at h
  omega
theorem no4 {q : Int32} (h : ¬ q < 0 ∧ q ≤ 3) (e0 : ¬ q = 0) (e1 : ¬ q = 1) (e2 : ¬ q = 2) (e3 : ¬ q = 3) : False := by
  have a0 := ti 0 l0 e0
  have a1 := ti 1 l1 e1
  have a2 := ti 2 (by decide : (2 : Int32).toInt = 2) e2
  have a3 := ti 3 l3 e3
  rw [Int32.lt_iff_toInt_lt, Int32.le_iff_toInt_le, l0, l3] at h
  omega
set_option maxHeartbeats 4000000 in
set_option maxRecDepth 100000 in
theorem p_about {b q : Int32} (hG : gTok G) (hI : Inv j h) : PR G j Y_La_about Y_Mo_about [.ref 0, .int b, .int q, .ref 39] [.ref 22, .int b, .int q] h 2 := by
  obtain ⟨th, ab, be, lg, lt, sm, nb, kd, ms, dr, wa, re, lo, hi, scm, ou, sr, gi, go, ns, nr, dy, pt, td, tw, o, hP, rfl⟩ := hI
  have hP1 := PI_up (Nat.le_succ j) hP
  have hn8 := hP.2.1
  have hr8 := hP.2.2.1
  have hm : XM G Y_RF_about [.ref 0, .int b, .int q] (1, pq th ab be lg lt sm nb kd ms dr wa re lo hi scm ou sr gi go ns nr dy pt td tw o) _ := m_about hG
  by_cases c1 : ∃ m, m < nb ∧ b = nI m
  · obtain ⟨m, hm0, rfl⟩ := c1
    have hm8 : m < 8 := by omega
    have okb := ok_of hn8 hm0
    have okn := nb_of hn8 hm0
    have ec := nI_c hm8
    rw [xif_pos okb, ec] at hm
    by_cases e0 : q = 0
    · subst e0
      rw [if_pos rfl] at hm
      have hl := w_about_ok hG rfl rfl hm
      rw [set39] at hl
      have hn : XM G Y_Mo_about [.ref 22, .int (nI m), .int 0] (1, ch (ab 0, be 0) (ab 1, be 1) (lt 0, lt 1, lt 2, lt 3, lt 4) (sm 0, sm 1, sm 2, sm 3, sm 4) lg (nI nb) gi go (nI ns) (fun i => (kd i, ms i, dr i, wa i, re i, lo i, hi i)) (fun i => (scm i, ou (3 * i), ou (3 * i + 1), ou (3 * i + 2), sr (3 * i + 1), sr (3 * i + 2))) (nI nr) dy pt (mh th ab be lg lt sm (nI nb) kd (fun i => (ms i).toInt64) dr wa re lo hi scm ou sr gi go (nI ns).toInt64 (nI nr) dy pt td tw [oc_ (vp_updL o 0 (dr m))])) _ := n_about hG rfl hn8
      rw [xif_pos ⟨okn, by decide, by decide⟩, xif_neg (by decide), xif_pos rfl, ec] at hn
      exact PR_mk ab be lg lt sm nb kd ms dr wa re lo hi scm ou sr gi go ns nr dy pt td tw (vp_updL o 0 (dr m)) (Nat.zero_le 1) (Nat.zero_le 6) hl rfl hn rfl hP1 ⟨_, rfl, fun _ => up0⟩
    by_cases e1 : q = 1
    · subst e1
      rw [if_neg (show ¬ (1 : Int32) = 0 by decide), if_pos rfl] at hm
      have hl := w_about_ok hG rfl rfl hm
      rw [set39] at hl
      have hn : XM G Y_Mo_about [.ref 22, .int (nI m), .int 1] (1, ch (ab 0, be 0) (ab 1, be 1) (lt 0, lt 1, lt 2, lt 3, lt 4) (sm 0, sm 1, sm 2, sm 3, sm 4) lg (nI nb) gi go (nI ns) (fun i => (kd i, ms i, dr i, wa i, re i, lo i, hi i)) (fun i => (scm i, ou (3 * i), ou (3 * i + 1), ou (3 * i + 2), sr (3 * i + 1), sr (3 * i + 2))) (nI nr) dy pt (mh th ab be lg lt sm (nI nb) kd (fun i => (ms i).toInt64) dr wa re lo hi scm ou sr gi go (nI ns).toInt64 (nI nr) dy pt td tw [oc_ (vp_updL o 0 (wa m))])) _ := n_about hG rfl hn8
      rw [xif_pos ⟨okn, by decide, by decide⟩, xif_neg (by decide), xif_neg (by decide), xif_pos rfl, ec] at hn
      exact PR_mk ab be lg lt sm nb kd ms dr wa re lo hi scm ou sr gi go ns nr dy pt td tw (vp_updL o 0 (wa m)) (Nat.zero_le 1) (Nat.zero_le 6) hl rfl hn rfl hP1 ⟨_, rfl, fun _ => up0⟩
    by_cases e2 : q = 2
    · subst e2
      rw [if_neg (show ¬ (2 : Int32) = 0 by decide), if_neg (show ¬ (2 : Int32) = 1 by decide), if_pos rfl] at hm
      have hl := w_about_ok hG rfl rfl hm
      rw [set39] at hl
      have hn : XM G Y_Mo_about [.ref 22, .int (nI m), .int 2] (1, ch (ab 0, be 0) (ab 1, be 1) (lt 0, lt 1, lt 2, lt 3, lt 4) (sm 0, sm 1, sm 2, sm 3, sm 4) lg (nI nb) gi go (nI ns) (fun i => (kd i, ms i, dr i, wa i, re i, lo i, hi i)) (fun i => (scm i, ou (3 * i), ou (3 * i + 1), ou (3 * i + 2), sr (3 * i + 1), sr (3 * i + 2))) (nI nr) dy pt (mh th ab be lg lt sm (nI nb) kd (fun i => (ms i).toInt64) dr wa re lo hi scm ou sr gi go (nI ns).toInt64 (nI nr) dy pt td tw [oc_ (vp_updL o 0 ((ms m).toInt64))])) _ := n_about hG rfl hn8
      rw [xif_pos ⟨okn, by decide, by decide⟩, xif_neg (by decide), xif_neg (by decide), xif_neg (by decide), ec] at hn
      exact PR_mk ab be lg lt sm nb kd ms dr wa re lo hi scm ou sr gi go ns nr dy pt td tw (vp_updL o 0 ((ms m).toInt64)) (Nat.zero_le 1) (Nat.zero_le 6) hl rfl hn rfl hP1 ⟨_, rfl, fun _ => up0⟩
    by_cases e3 : q = 3
    · subst e3
      rw [if_neg (show ¬ (3 : Int32) = 0 by decide), if_neg (show ¬ (3 : Int32) = 1 by decide), if_neg (show ¬ (3 : Int32) = 2 by decide), if_pos rfl] at hm
      have hl := w_about_ok hG rfl rfl hm
      rw [set39] at hl
      have hn : XM G Y_Mo_about [.ref 22, .int (nI m), .int 3] (1, ch (ab 0, be 0) (ab 1, be 1) (lt 0, lt 1, lt 2, lt 3, lt 4) (sm 0, sm 1, sm 2, sm 3, sm 4) lg (nI nb) gi go (nI ns) (fun i => (kd i, ms i, dr i, wa i, re i, lo i, hi i)) (fun i => (scm i, ou (3 * i), ou (3 * i + 1), ou (3 * i + 2), sr (3 * i + 1), sr (3 * i + 2))) (nI nr) dy pt (mh th ab be lg lt sm (nI nb) kd (fun i => (ms i).toInt64) dr wa re lo hi scm ou sr gi go (nI ns).toInt64 (nI nr) dy pt td tw [oc_ (vp_updL o 0 ((kd m).toInt64))])) _ := n_about hG rfl hn8
      rw [xif_pos ⟨okn, by decide, by decide⟩, xif_pos (by decide), xif_pos rfl, ec] at hn
      exact PR_mk ab be lg lt sm nb kd ms dr wa re lo hi scm ou sr gi go ns nr dy pt td tw (vp_updL o 0 ((kd m).toInt64)) (Nat.zero_le 1) (Nat.zero_le 6) hl rfl hn rfl hP1 ⟨_, rfl, fun _ => up0⟩
    by_cases e4 : q = 4
    · subst e4
      rw [if_neg (show ¬ (4 : Int32) = 0 by decide), if_neg (show ¬ (4 : Int32) = 1 by decide), if_neg (show ¬ (4 : Int32) = 2 by decide), if_neg (show ¬ (4 : Int32) = 3 by decide), if_pos rfl] at hm
      have hl := w_about_ok hG rfl rfl hm
      rw [set39] at hl
      have hn : XM G Y_Mo_about [.ref 22, .int (nI m), .int 4] (1, ch (ab 0, be 0) (ab 1, be 1) (lt 0, lt 1, lt 2, lt 3, lt 4) (sm 0, sm 1, sm 2, sm 3, sm 4) lg (nI nb) gi go (nI ns) (fun i => (kd i, ms i, dr i, wa i, re i, lo i, hi i)) (fun i => (scm i, ou (3 * i), ou (3 * i + 1), ou (3 * i + 2), sr (3 * i + 1), sr (3 * i + 2))) (nI nr) dy pt (mh th ab be lg lt sm (nI nb) kd (fun i => (ms i).toInt64) dr wa re lo hi scm ou sr gi go (nI ns).toInt64 (nI nr) dy pt td tw [oc_ (vp_updL o 0 (re m))])) _ := n_about hG rfl hn8
      rw [xif_pos ⟨okn, by decide, by decide⟩, xif_pos (by decide), xif_neg (by decide), xif_pos rfl, ec] at hn
      exact PR_mk ab be lg lt sm nb kd ms dr wa re lo hi scm ou sr gi go ns nr dy pt td tw (vp_updL o 0 (re m)) (Nat.zero_le 1) (Nat.zero_le 6) hl rfl hn rfl hP1 ⟨_, rfl, fun _ => up0⟩
    by_cases e5 : q = 5
    · subst e5
      rw [if_neg (show ¬ (5 : Int32) = 0 by decide), if_neg (show ¬ (5 : Int32) = 1 by decide), if_neg (show ¬ (5 : Int32) = 2 by decide), if_neg (show ¬ (5 : Int32) = 3 by decide), if_neg (show ¬ (5 : Int32) = 4 by decide), if_pos rfl] at hm
      have hl := w_about_ok hG rfl rfl hm
      rw [set39] at hl
      have hn : XM G Y_Mo_about [.ref 22, .int (nI m), .int 5] (1, ch (ab 0, be 0) (ab 1, be 1) (lt 0, lt 1, lt 2, lt 3, lt 4) (sm 0, sm 1, sm 2, sm 3, sm 4) lg (nI nb) gi go (nI ns) (fun i => (kd i, ms i, dr i, wa i, re i, lo i, hi i)) (fun i => (scm i, ou (3 * i), ou (3 * i + 1), ou (3 * i + 2), sr (3 * i + 1), sr (3 * i + 2))) (nI nr) dy pt (mh th ab be lg lt sm (nI nb) kd (fun i => (ms i).toInt64) dr wa re lo hi scm ou sr gi go (nI ns).toInt64 (nI nr) dy pt td tw [oc_ (vp_updL o 0 (dr m + wa m))])) _ := n_about hG rfl hn8
      rw [xif_pos ⟨okn, by decide, by decide⟩, xif_pos (by decide), xif_neg (by decide), xif_neg (by decide), show s_al dr wa (nI m) = dr m + wa m by unfold s_al; rw [ec]] at hn
      exact PR_mk ab be lg lt sm nb kd ms dr wa re lo hi scm ou sr gi go ns nr dy pt td tw (vp_updL o 0 (dr m + wa m)) (Nat.zero_le 1) (Nat.zero_le 6) hl rfl hn rfl hP1 ⟨_, rfl, fun _ => up0⟩
    rw [if_neg e0, if_neg e1, if_neg e2, if_neg e3, if_neg e4, if_neg e5] at hm
    have hn : XM G Y_Mo_about [.ref 22, .int (nI m), .int q] (1, pq th ab be lg lt sm nb kd ms dr wa re lo hi scm ou sr gi go ns nr dy pt td tw o) _ := n_about hG rfl hn8
    rw [xif_neg (fun q => no6 q.2 e0 e1 e2 e3 e4 e5)] at hn
    exact PR_mk ab be lg lt sm nb kd ms dr wa re lo hi scm ou sr gi go ns nr dy pt td tw o (Nat.le_refl 1) (Nat.le_refl 6) (w_about_I rfl hm) rfl hn rfl hP1 ⟨0, rfl, fun q => absurd q (by decide)⟩
  · rw [xif_neg (fun q => c1 (of_ok hn8 q))] at hm
    have hn : XM G Y_Mo_about [.ref 22, .int b, .int q] (1, pq th ab be lg lt sm nb kd ms dr wa re lo hi scm ou sr gi go ns nr dy pt td tw o) _ := n_about hG rfl hn8
    rw [xif_neg (fun q => c1 (of_nb hn8 q.1))] at hn
    exact PR_mk ab be lg lt sm nb kd ms dr wa re lo hi scm ou sr gi go ns nr dy pt td tw o (Nat.le_refl 1) (Nat.le_refl 6) (w_about_I rfl hm) rfl hn rfl hP1 ⟨0, rfl, fun q => absurd q (by decide)⟩
theorem sc_i {g : Int64} : (¬ s_in g 0 1000000000000 = 0) ↔ (¬ g < 0 ∧ g ≤ 1000000000000) := by
  rw [in_i]
  simp only [Int64.lt_iff_toInt_lt, Int64.le_iff_toInt_le, q0, qT]
  omega
theorem sp_i {l u : Int32} : (¬ l < 0 ∧ ¬ s_in u.toInt64 l.toInt64 1000 = 0) ↔ (¬ l < 0 ∧ ¬ u < l ∧ u ≤ 1000) := by
  rw [in_i]
  simp only [Int32.lt_iff_toInt_lt, Int32.le_iff_toInt_le, Jvm.Kit.i64_of_i32, lk, qk]
  omega
theorem PE_re {nb m : Nat} {dr wa re : Nat → Int64} {x : Int64} (hm : m < nb) (h : ∀ i, nb ≤ i → i < 8 → dr i = 0 ∧ wa i = 0 ∧ re i = -1) : ∀ i, nb ≤ i → i < 8 → dr i = 0 ∧ wa i = 0 ∧ vp_updL re m x i = -1 := by
  intro i h1 h2
  unfold vp_updL
  rw [if_neg (by omega)]
  exact h i h1 h2
set_option maxHeartbeats 4000000 in
set_option maxRecDepth 100000 in
theorem p_scale {b : Int32} {g : Int64} (hG : gTok G) (hI : Inv j h) : PR G j Y_La_scale Y_Mo_scale [.ref 0, .int b, .long g] [.ref 22, .int b, .long g] h 0 := by
  obtain ⟨th, ab, be, lg, lt, sm, nb, kd, ms, dr, wa, re, lo, hi, scm, ou, sr, gi, go, ns, nr, dy, pt, td, tw, o, hP, rfl⟩ := hI
  have hP1 := PI_up (Nat.le_succ j) hP
  have hn8 := hP.2.1
  have hr8 := hP.2.2.1
  have hm : XM G Y_RF_scale [.ref 0, .int b, .long g] (1, pq th ab be lg lt sm nb kd ms dr wa re lo hi scm ou sr gi go ns nr dy pt td tw o) _ := m_scale hG
  by_cases c1 : ∃ m, m < nb ∧ b = nI m
  · obtain ⟨m, hm0, rfl⟩ := c1
    have hm8 : m < 8 := by omega
    have okb := ok_of hn8 hm0
    have okn := nb_of hn8 hm0
    have ec := nI_c hm8
    by_cases c2 : ¬ g < 0 ∧ g ≤ 1000000000000
    · rw [xif_pos okb, xif_pos c2, ec] at hm
      have hl := w_scale_ok rfl hm
      have hn : XM G Y_Mo_scale [.ref 22, .int (nI m), .long g] (1, ch (ab 0, be 0) (ab 1, be 1) (lt 0, lt 1, lt 2, lt 3, lt 4) (sm 0, sm 1, sm 2, sm 3, sm 4) lg (nI nb) gi go (nI ns) (vf_upd (fun i => ((kd i, ms i, dr i, wa i, re i, lo i, hi i) : cB)) m (kd m, ms m, dr m, wa m, g, lo m, hi m)) (fun i => (scm i, ou (3 * i), ou (3 * i + 1), ou (3 * i + 2), sr (3 * i + 1), sr (3 * i + 2))) (nI nr) dy pt (mh th ab be lg lt sm (nI nb) kd (fun i => (ms i).toInt64) dr wa re lo hi scm ou sr gi go (nI ns).toInt64 (nI nr) dy pt td tw [oc_ (o)])) _ := n_scale hG rfl hn8
      rw [xif_pos okn, xif_pos (sc_i.mpr c2), ec] at hn
      exact PR_mk ab be lg lt sm nb kd ms dr wa (vp_updL re m g) lo hi scm ou sr gi go ns nr dy pt td tw o (Nat.zero_le 1) (Nat.zero_le 6) hl rfl hn (ch_ext (fun i _ => e_re i) (fun _ _ => rfl)) ⟨hP1.1, hn8, hr8, hP1.2.2.2.1, hP.2.2.2.2.1, PE_re hm0 hP.2.2.2.2.2.1, hP.2.2.2.2.2.2⟩ rfl
    · rw [xif_pos okb, xif_neg c2] at hm
      have hn : XM G Y_Mo_scale [.ref 22, .int (nI m), .long g] (1, pq th ab be lg lt sm nb kd ms dr wa re lo hi scm ou sr gi go ns nr dy pt td tw o) _ := n_scale hG rfl hn8
      rw [xif_pos okn, xif_neg (fun q => c2 (sc_i.mp q))] at hn
      exact PR_mk ab be lg lt sm nb kd ms dr wa re lo hi scm ou sr gi go ns nr dy pt td tw o (Nat.le_refl 1) (Nat.le_refl 6) (w_scale_A rfl hm) rfl hn rfl hP1 rfl
  · rw [xif_neg (fun q => c1 (of_ok hn8 q))] at hm
    have hn : XM G Y_Mo_scale [.ref 22, .int b, .long g] (1, pq th ab be lg lt sm nb kd ms dr wa re lo hi scm ou sr gi go ns nr dy pt td tw o) _ := n_scale hG rfl hn8
    rw [xif_neg (fun q => c1 (of_nb hn8 q))] at hn
    exact PR_mk ab be lg lt sm nb kd ms dr wa re lo hi scm ou sr gi go ns nr dy pt td tw o (Nat.le_refl 1) (Nat.le_refl 6) (w_scale_I rfl hm) rfl hn rfl hP1 rfl
set_option maxHeartbeats 4000000 in
set_option maxRecDepth 100000 in
theorem p_span {b l u : Int32} (hG : gTok G) (hI : Inv j h) : PR G j Y_La_span Y_Mo_span [.ref 0, .int b, .int l, .int u] [.ref 22, .int b, .int l, .int u] h 0 := by
  obtain ⟨th, ab, be, lg, lt, sm, nb, kd, ms, dr, wa, re, lo, hi, scm, ou, sr, gi, go, ns, nr, dy, pt, td, tw, o, hP, rfl⟩ := hI
  have hP1 := PI_up (Nat.le_succ j) hP
  have hn8 := hP.2.1
  have hr8 := hP.2.2.1
  have hm : XM G Y_RF_span [.ref 0, .int b, .int l, .int u] (1, pq th ab be lg lt sm nb kd ms dr wa re lo hi scm ou sr gi go ns nr dy pt td tw o) _ := m_span hG
  by_cases c1 : ∃ m, m < nb ∧ b = nI m
  · obtain ⟨m, hm0, rfl⟩ := c1
    have hm8 : m < 8 := by omega
    have okb := ok_of hn8 hm0
    have okn := nb_of hn8 hm0
    have ec := nI_c hm8
    by_cases c2 : ¬ l < 0 ∧ ¬ u < l ∧ u ≤ 1000
    · rw [xif_pos okb, xif_pos c2, ec] at hm
      have hl := w_span_ok rfl hm
      have hn : XM G Y_Mo_span [.ref 22, .int (nI m), .int l, .int u] (1, ch (ab 0, be 0) (ab 1, be 1) (lt 0, lt 1, lt 2, lt 3, lt 4) (sm 0, sm 1, sm 2, sm 3, sm 4) lg (nI nb) gi go (nI ns) (vf_upd (fun i => ((kd i, ms i, dr i, wa i, re i, lo i, hi i) : cB)) m (kd m, ms m, dr m, wa m, re m, l, u)) (fun i => (scm i, ou (3 * i), ou (3 * i + 1), ou (3 * i + 2), sr (3 * i + 1), sr (3 * i + 2))) (nI nr) dy pt (mh th ab be lg lt sm (nI nb) kd (fun i => (ms i).toInt64) dr wa re lo hi scm ou sr gi go (nI ns).toInt64 (nI nr) dy pt td tw [oc_ (o)])) _ := n_span hG rfl hn8
      rw [xif_pos okn, xif_pos (sp_i.mpr c2), ec] at hn
      exact PR_mk ab be lg lt sm nb kd ms dr wa re (upd lo m l) (upd hi m u) scm ou sr gi go ns nr dy pt td tw o (Nat.zero_le 1) (Nat.zero_le 6) hl rfl hn (ch_ext (fun i _ => e_sp i) (fun _ _ => rfl)) hP1 rfl
    · rw [xif_pos okb, xif_neg c2] at hm
      have hn : XM G Y_Mo_span [.ref 22, .int (nI m), .int l, .int u] (1, pq th ab be lg lt sm nb kd ms dr wa re lo hi scm ou sr gi go ns nr dy pt td tw o) _ := n_span hG rfl hn8
      rw [xif_pos okn, xif_neg (fun q => c2 (sp_i.mp q))] at hn
      exact PR_mk ab be lg lt sm nb kd ms dr wa re lo hi scm ou sr gi go ns nr dy pt td tw o (Nat.le_refl 1) (Nat.le_refl 6) (w_span_A rfl hm) rfl hn rfl hP1 rfl
  · rw [xif_neg (fun q => c1 (of_ok hn8 q))] at hm
    have hn : XM G Y_Mo_span [.ref 22, .int b, .int l, .int u] (1, pq th ab be lg lt sm nb kd ms dr wa re lo hi scm ou sr gi go ns nr dy pt td tw o) _ := n_span hG rfl hn8
    rw [xif_neg (fun q => c1 (of_nb hn8 q))] at hn
    exact PR_mk ab be lg lt sm nb kd ms dr wa re lo hi scm ou sr gi go ns nr dy pt td tw o (Nat.le_refl 1) (Nat.le_refl 6) (w_span_I rfl hm) rfl hn rfl hP1 rfl
set_option maxHeartbeats 4000000 in
set_option maxRecDepth 100000 in
theorem p_shift {q : Int32} (hG : gTok G) (hI : Inv j h) : PR G j Y_La_shift Y_Mo_shift [.ref 0, .int q, .ref 39] [.ref 22, .int q] h 2 := by
  obtain ⟨th, ab, be, lg, lt, sm, nb, kd, ms, dr, wa, re, lo, hi, scm, ou, sr, gi, go, ns, nr, dy, pt, td, tw, o, hP, rfl⟩ := hI
  have hP1 := PI_up (Nat.le_succ j) hP
  have hn8 := hP.2.1
  have hr8 := hP.2.2.1
  have hm : XM G Y_RF_shift [.ref 0, .int q] (1, pq th ab be lg lt sm nb kd ms dr wa re lo hi scm ou sr gi go ns nr dy pt td tw o) _ := m_shift hG
  by_cases e0 : q = 0
  · subst e0
    rw [if_pos rfl, show s_gl (fun i => ((kd i, ms i, dr i, wa i, re i, lo i, hi i) : cB)) 8 0 0 = s_ml re dr wa nb 0 0 from gl_e (bn := fun i => ((kd i, ms i, dr i, wa i, re i, lo i, hi i) : cB)) (fun _ => ⟨rfl, rfl⟩) hn8 (fun i h1 h2 => (hP.2.2.2.2.2.1 i h1 h2).2.2) 8 0 0 rfl] at hm
    have hl := w_shift_ok hG rfl rfl hm
    rw [set39] at hl
    have hn : XM G Y_Mo_shift [.ref 22, .int 0] (1, ch (ab 0, be 0) (ab 1, be 1) (lt 0, lt 1, lt 2, lt 3, lt 4) (sm 0, sm 1, sm 2, sm 3, sm 4) lg (nI nb) gi go (nI ns) (fun i => (kd i, ms i, dr i, wa i, re i, lo i, hi i)) (fun i => (scm i, ou (3 * i), ou (3 * i + 1), ou (3 * i + 2), sr (3 * i + 1), sr (3 * i + 2))) (nI nr) dy pt (mh th ab be lg lt sm (nI nb) kd (fun i => (ms i).toInt64) dr wa re lo hi scm ou sr gi go (nI ns).toInt64 (nI nr) dy pt td tw [oc_ (vp_updL o 0 (s_ml re dr wa nb 0 0))])) _ := n_shift hG rfl hn8
    rw [xif_pos ⟨by decide, by decide⟩, xif_pos rfl] at hn
    exact PR_mk ab be lg lt sm nb kd ms dr wa re lo hi scm ou sr gi go ns nr dy pt td tw (vp_updL o 0 (s_ml re dr wa nb 0 0)) (Nat.zero_le 1) (Nat.zero_le 6) hl rfl hn rfl hP1 ⟨_, rfl, fun _ => up0⟩
  by_cases e1 : q = 1
  · subst e1
    rw [if_neg (show ¬ (1 : Int32) = 0 by decide), if_pos rfl] at hm
    have hl := w_shift_ok hG rfl rfl hm
    rw [set39] at hl
    have hn : XM G Y_Mo_shift [.ref 22, .int 1] (1, ch (ab 0, be 0) (ab 1, be 1) (lt 0, lt 1, lt 2, lt 3, lt 4) (sm 0, sm 1, sm 2, sm 3, sm 4) lg (nI nb) gi go (nI ns) (fun i => (kd i, ms i, dr i, wa i, re i, lo i, hi i)) (fun i => (scm i, ou (3 * i), ou (3 * i + 1), ou (3 * i + 2), sr (3 * i + 1), sr (3 * i + 2))) (nI nr) dy pt (mh th ab be lg lt sm (nI nb) kd (fun i => (ms i).toInt64) dr wa re lo hi scm ou sr gi go (nI ns).toInt64 (nI nr) dy pt td tw [oc_ (vp_updL o 0 (gi))])) _ := n_shift hG rfl hn8
    rw [xif_pos ⟨by decide, by decide⟩, xif_neg (show ¬ (1 : Int32) = 0 by decide), xif_pos rfl] at hn
    exact PR_mk ab be lg lt sm nb kd ms dr wa re lo hi scm ou sr gi go ns nr dy pt td tw (vp_updL o 0 (gi)) (Nat.zero_le 1) (Nat.zero_le 6) hl rfl hn rfl hP1 ⟨_, rfl, fun _ => up0⟩
  by_cases e2 : q = 2
  · subst e2
    rw [if_neg (show ¬ (2 : Int32) = 0 by decide), if_neg (show ¬ (2 : Int32) = 1 by decide), if_pos rfl] at hm
    have hl := w_shift_ok hG rfl rfl hm
    rw [set39] at hl
    have hn : XM G Y_Mo_shift [.ref 22, .int 2] (1, ch (ab 0, be 0) (ab 1, be 1) (lt 0, lt 1, lt 2, lt 3, lt 4) (sm 0, sm 1, sm 2, sm 3, sm 4) lg (nI nb) gi go (nI ns) (fun i => (kd i, ms i, dr i, wa i, re i, lo i, hi i)) (fun i => (scm i, ou (3 * i), ou (3 * i + 1), ou (3 * i + 2), sr (3 * i + 1), sr (3 * i + 2))) (nI nr) dy pt (mh th ab be lg lt sm (nI nb) kd (fun i => (ms i).toInt64) dr wa re lo hi scm ou sr gi go (nI ns).toInt64 (nI nr) dy pt td tw [oc_ (vp_updL o 0 (go))])) _ := n_shift hG rfl hn8
    rw [xif_pos ⟨by decide, by decide⟩, xif_neg (show ¬ (2 : Int32) = 0 by decide), xif_neg (show ¬ (2 : Int32) = 1 by decide), xif_pos rfl] at hn
    exact PR_mk ab be lg lt sm nb kd ms dr wa re lo hi scm ou sr gi go ns nr dy pt td tw (vp_updL o 0 (go)) (Nat.zero_le 1) (Nat.zero_le 6) hl rfl hn rfl hP1 ⟨_, rfl, fun _ => up0⟩
  by_cases e3 : q = 3
  · subst e3
    rw [if_neg (show ¬ (3 : Int32) = 0 by decide), if_neg (show ¬ (3 : Int32) = 1 by decide), if_neg (show ¬ (3 : Int32) = 2 by decide), if_pos rfl] at hm
    have hl := w_shift_ok hG rfl rfl hm
    rw [set39] at hl
    have hn : XM G Y_Mo_shift [.ref 22, .int 3] (1, ch (ab 0, be 0) (ab 1, be 1) (lt 0, lt 1, lt 2, lt 3, lt 4) (sm 0, sm 1, sm 2, sm 3, sm 4) lg (nI nb) gi go (nI ns) (fun i => (kd i, ms i, dr i, wa i, re i, lo i, hi i)) (fun i => (scm i, ou (3 * i), ou (3 * i + 1), ou (3 * i + 2), sr (3 * i + 1), sr (3 * i + 2))) (nI nr) dy pt (mh th ab be lg lt sm (nI nb) kd (fun i => (ms i).toInt64) dr wa re lo hi scm ou sr gi go (nI ns).toInt64 (nI nr) dy pt td tw [oc_ (vp_updL o 0 ((nI ns).toInt64))])) _ := n_shift hG rfl hn8
    rw [xif_pos ⟨by decide, by decide⟩, xif_neg (show ¬ (3 : Int32) = 0 by decide), xif_neg (show ¬ (3 : Int32) = 1 by decide), xif_neg (show ¬ (3 : Int32) = 2 by decide)] at hn
    exact PR_mk ab be lg lt sm nb kd ms dr wa re lo hi scm ou sr gi go ns nr dy pt td tw (vp_updL o 0 ((nI ns).toInt64)) (Nat.zero_le 1) (Nat.zero_le 6) hl rfl hn rfl hP1 ⟨_, rfl, fun _ => up0⟩
  rw [if_neg e0, if_neg e1, if_neg e2, if_neg e3] at hm
  have hn : XM G Y_Mo_shift [.ref 22, .int q] (1, pq th ab be lg lt sm nb kd ms dr wa re lo hi scm ou sr gi go ns nr dy pt td tw o) _ := n_shift hG rfl hn8
  rw [xif_neg (fun q => no4 q e0 e1 e2 e3)] at hn
  exact PR_mk ab be lg lt sm nb kd ms dr wa re lo hi scm ou sr gi go ns nr dy pt td tw o (Nat.le_refl 1) (Nat.le_refl 6) (w_shift_I rfl hm) rfl hn rfl hP1 ⟨0, rfl, fun q => absurd q (by decide)⟩
set_option maxHeartbeats 4000000 in
set_option maxRecDepth 100000 in
theorem p_carbon (hG : gTok G) (hI : Inv j h) : ∃ (v : Int64) (h2 : List va_E), XM G Y_RF_carbon [.ref 0] (1, h) (.inl (some (.long v)), (1, h), 0, 0) ∧ XM G Y_Mo_carbon [.ref 22] (1, h) (.inl (some (.long v)), (0, h2), 0, 0) ∧ Inv (j + 1) h2 := by
  obtain ⟨th, ab, be, lg, lt, sm, nb, kd, ms, dr, wa, re, lo, hi, scm, ou, sr, gi, go, ns, nr, dy, pt, td, tw, o, hP, rfl⟩ := hI
  have hP1 := PI_up (Nat.le_succ j) hP
  have hn8 := hP.2.1
  have hr8 := hP.2.2.1
  have hm : XM G Y_RF_carbon [.ref 0] (1, pq th ab be lg lt sm nb kd ms dr wa re lo hi scm ou sr gi go ns nr dy pt td tw o) _ := m_carbon hG
  have hn : XM G Y_Mo_carbon [.ref 22] (1, pq th ab be lg lt sm nb kd ms dr wa re lo hi scm ou sr gi go ns nr dy pt td tw o) _ := n_carbon hG rfl hn8
  rw [show s_su (fun i => ((kd i, ms i, dr i, wa i, re i, lo i, hi i) : cB)) 8 0 0 = s_mu dr nb 0 0 from su_e (bn := fun i => ((kd i, ms i, dr i, wa i, re i, lo i, hi i) : cB)) (fun _ => rfl) hn8 (fun i h1 h2 => (hP.2.2.2.2.2.1 i h1 h2).1) 8 0 0 rfl] at hm
  exact ⟨_, _, hm, hn, ⟨_, _, _, _, _, _, _, _, _, _, _, _, _, _, _, _, _, _, _, _, _, _, _, _, _, _, hP1, rfl⟩⟩
theorem re8 {re : Nat → Int64} {i : Nat} (hi : i < 8) : (vp_updL (vp_updL (vp_updL (vp_updL (vp_updL (vp_updL (vp_updL (vp_updL re 0 (-1)) 1 (-1)) 2 (-1)) 3 (-1)) 4 (-1)) 5 (-1)) 6 (-1)) 7 (-1)) i = -1 := lt8 (P := fun i => (vp_updL (vp_updL (vp_updL (vp_updL (vp_updL (vp_updL (vp_updL (vp_updL re 0 (-1)) 1 (-1)) 2 (-1)) 3 (-1)) 4 (-1)) 5 (-1)) 6 (-1)) 7 (-1)) i = -1) rfl rfl rfl rfl rfl rfl rfl rfl hi
theorem ns_e {n : Nat} (h : n ≤ 1000000) : (nI n).toInt64 + 1 = (nI (n + 1)).toInt64 := by
  refine i64e ?_
  rw [Jvm.Kit.i64_add (by rw [Jvm.Kit.i64_of_i32, nI_ti (by omega), q1]; omega) (by rw [Jvm.Kit.i64_of_i32, nI_ti (by omega), q1]; omega), Jvm.Kit.i64_of_i32, nI_ti (by omega), Jvm.Kit.i64_of_i32, nI_ti (by omega), q1]
  omega
set_option maxHeartbeats 4000000 in
set_option maxRecDepth 100000 in
theorem p_begin (hG : gTok G) (hj : j ≤ 1000000) (hI : Inv j h) : ∃ (h1 h2 : List va_E) (f1 : List Value), XM G Y_RF_begin [.ref 0] (1, h) (.inl none, (0, h1), 0, 0) ∧ h1[22]? = some (.inr (6, f1)) ∧ XM G Y_Mo_begin [.ref 22] (1, h1) (.inl none, (0, h2), 0, 0) ∧ Inv (j + 1) h2 := by
  obtain ⟨th, ab, be, lg, lt, sm, nb, kd, ms, dr, wa, re, lo, hi, scm, ou, sr, gi, go, ns, nr, dy, pt, td, tw, o, hP, rfl⟩ := hI
  have hP1 := PI_up (Nat.le_succ j) hP
  have hn8 := hP.2.1
  have hr8 := hP.2.2.1
  have hm : XM G Y_RF_begin [.ref 0] (1, pq th ab be lg lt sm nb kd ms dr wa re lo hi scm ou sr gi go ns nr dy pt td tw o) _ := m_begin hG
  have hn : XM G Y_Mo_begin [.ref 22] (1, ch (ab 0, be 0) (ab 1, be 1) (lt 0, lt 1, lt 2, lt 3, lt 4) (sm 0, sm 1, sm 2, sm 3, sm 4) lg (nI nb) (0) (0) (nI ns + 1) (fun i => s_be ((fun i => ((kd i, ms i, dr i, wa i, re i, lo i, hi i) : cB)) i)) (fun i => (scm i, ou (3 * i), ou (3 * i + 1), ou (3 * i + 2), sr (3 * i + 1), sr (3 * i + 2))) (nI nr) dy pt (mh th ab be lg lt sm (nI nb) kd (fun i => (ms i).toInt64) dr wa re lo hi scm ou sr gi go (nI ns).toInt64 (nI nr) dy pt td tw [oc_ (o)])) _ := n_begin hG
  rw [nI_s] at hm hn
  rw [ns_e (Nat.le_trans hP.2.2.2.1 hj)] at hn
  refine ⟨_, _, _, hm, rfl, hn, ⟨_, ab, be, lg, lt, sm, nb, kd, ms, dr, wa, vp_updL (vp_updL (vp_updL (vp_updL (vp_updL (vp_updL (vp_updL (vp_updL re 0 (-1)) 1 (-1)) 2 (-1)) 3 (-1)) 4 (-1)) 5 (-1)) 6 (-1)) 7 (-1), lo, hi, scm, ou, sr, 0, 0, ns + 1, nr, dy, pt, td, tw, o, ⟨hP.1, hn8, hr8, Nat.succ_le_succ hP.2.2.2.1, hP.2.2.2.2.1, fun i h1 h2 => ⟨(hP.2.2.2.2.2.1 i h1 h2).1, (hP.2.2.2.2.2.1 i h1 h2).2.1, re8 h2⟩, hP.2.2.2.2.2.2⟩, ch_ext (fun i hi8 => ?_) (fun _ _ => rfl)⟩⟩
  rw [re8 hi8]
  rfl
theorem dd_i {d : Int32} : (¬ s_in d.toInt64 0 364 = 0) ↔ okD d := by
  unfold okD
  rw [in_i]
  simp only [Int32.lt_iff_toInt_lt, Jvm.Kit.i64_of_i32, l0, l365, q0, q364]
  omega
theorem pc_i {q : Int32} : (¬ s_in q.toInt64 0 200 = 0) ↔ (¬ q < 0 ∧ q ≤ 200) := by
  rw [in_i]
  simp only [Int32.lt_iff_toInt_lt, Int32.le_iff_toInt_le, Jvm.Kit.i64_of_i32, l0, l200, q0, q200]
  omega
theorem ld_0 {dy : Nat → Int32} {d : Int32} (h : okD d) : ¬ d ≤ s_ld (nI 0) dy := by
  unfold s_ld
  rw [if_pos (by decide)]
  have lm : (-1 : Int32).toInt = -1 := by decide
  unfold okD at h
  rw [Int32.lt_iff_toInt_lt, Int32.lt_iff_toInt_lt, l0, l365] at h
  rw [Int32.le_iff_toInt_le, lm]
  omega
theorem ld_1 {dy : Nat → Int32} {n : Nat} (h : ¬ n = 0) (h8 : n ≤ 8) : s_ld (nI n) dy = dy (nI n - 1).toNatClampNeg := by
  unfold s_ld
  rw [if_neg (by rw [Int32.lt_iff_toInt_lt, nI_ti (by omega), l1]; omega), if_pos (by rw [Int32.le_iff_toInt_le, nI_ti (by omega), l8]; omega)]
theorem PT_row {nr : Nat} {pt : Nat → Int32} {q : Int32} (h : ∀ i, i < nr → 0 ≤ (pt i).toInt ∧ (pt i).toInt ≤ 200) (hq : ¬ q < 0 ∧ q ≤ 200) : ∀ i, i < nr + 1 → 0 ≤ (upd pt nr q i).toInt ∧ (upd pt nr q i).toInt ≤ 200 := by
  intro i hi
  unfold upd
  by_cases c : i = nr
  · rw [if_pos c]
    rw [Int32.lt_iff_toInt_lt, Int32.le_iff_toInt_le, l0, l200] at hq
    omega
  · rw [if_neg c]; exact h i (by omega)
theorem nr_0 {n : Nat} (h : ¬ n = 0) (h8 : n ≤ 8) : ¬ nI n = 0 := by
  intro q
  have := congrArg Int32.toInt q
  rw [nI_ti (by omega), l0] at this
  omega
set_option maxHeartbeats 4000000 in
set_option maxRecDepth 100000 in
theorem p_row {d q : Int32} (hG : gTok G) (hI : Inv j h) : PR G j Y_La_row Y_Mo_row [.ref 0, .int d, .int q, .ref 39] [.ref 22, .int d, .int q] h 1 := by
  obtain ⟨th, ab, be, lg, lt, sm, nb, kd, ms, dr, wa, re, lo, hi, scm, ou, sr, gi, go, ns, nr, dy, pt, td, tw, o, hP, rfl⟩ := hI
  have hP1 := PI_up (Nat.le_succ j) hP
  have hn8 := hP.2.1
  have hr8 := hP.2.2.1
  have hm : XM G Y_RF_row [.ref 0, .int d, .int q] (1, pq th ab be lg lt sm nb kd ms dr wa re lo hi scm ou sr gi go ns nr dy pt td tw o) _ := m_row hG (nI_nn hr8)
  by_cases c1 : okD d
  · by_cases c0 : nr = 0
    · subst c0
      by_cases c3 : ¬ q < 0 ∧ q ≤ 200
      · rw [xif_pos c1, xif_pos ⟨ld_0 c1, c3⟩, xif_pos (show nI 0 < 8 by decide), nI_s, nI_c (show 0 < 8 by decide)] at hm
        have hl := w_row_ok hG rfl rfl hm
        rw [set39] at hl
        have hn : XM G Y_Mo_row [.ref 22, .int d, .int q] (1, ch (ab 0, be 0) (ab 1, be 1) (lt 0, lt 1, lt 2, lt 3, lt 4) (sm 0, sm 1, sm 2, sm 3, sm 4) lg (nI nb) gi go (nI ns) (fun i => (kd i, ms i, dr i, wa i, re i, lo i, hi i)) (fun i => (scm i, ou (3 * i), ou (3 * i + 1), ou (3 * i + 2), sr (3 * i + 1), sr (3 * i + 2))) (nI (0 + 1)) (upd dy 0 d) (upd pt 0 q) (mh th ab be lg lt sm (nI nb) kd (fun i => (ms i).toInt64) dr wa re lo hi scm ou sr gi go (nI ns).toInt64 (nI 0) dy pt td tw [oc_ (vp_updL o 0 ((nI (0 + 1)).toInt64))])) _ := n_row hG rfl hr8
        rw [xif_pos (dd_i.mpr c1), xif_pos (show nI 0 = 0 from rfl), xif_pos (pc_i.mpr c3), xif_pos (show ¬ nI 0 = 8 by decide), nI_s, nI_c (show 0 < 8 by decide)] at hn
        exact PR_mk ab be lg lt sm nb kd ms dr wa re lo hi scm ou sr gi go ns (0 + 1) (upd dy 0 d) (upd pt 0 q) td tw (vp_updL o 0 ((nI (0 + 1)).toInt64)) (Nat.zero_le 1) (Nat.zero_le 6) hl rfl hn rfl ⟨hP1.1, hn8, (by decide), hP1.2.2.2.1, hP.2.2.2.2.1, hP.2.2.2.2.2.1, hP.2.2.2.2.2.2.1, PT_row hP.2.2.2.2.2.2.2 c3⟩ ⟨nI (0 + 1), rfl, fun _ => up0⟩
      · rw [xif_pos c1, xif_neg (fun q => c3 q.2)] at hm
        have hn : XM G Y_Mo_row [.ref 22, .int d, .int q] (1, pq th ab be lg lt sm nb kd ms dr wa re lo hi scm ou sr gi go ns 0 dy pt td tw o) _ := n_row hG rfl hr8
        rw [xif_pos (dd_i.mpr c1), xif_pos (show nI 0 = 0 from rfl), xif_neg (fun q => c3 (pc_i.mp q))] at hn
        exact PR_mk ab be lg lt sm nb kd ms dr wa re lo hi scm ou sr gi go ns 0 dy pt td tw o (Nat.le_refl 1) (Nat.le_refl 6) (w_row_A rfl hm) rfl hn rfl hP1 ⟨0, rfl, fun q => absurd q (by decide)⟩
    · by_cases c2 : ¬ d ≤ dy (nI nr - 1).toNatClampNeg
      · by_cases c3 : ¬ q < 0 ∧ q ≤ 200
        · by_cases c4 : nr < 8
          · rw [xif_pos c1, xif_pos ⟨(by rw [ld_1 c0 hr8]; exact c2), c3⟩, xif_pos (show nI nr < 8 by rw [Int32.lt_iff_toInt_lt, nI_ti (by omega), l8]; omega), nI_s, nI_c (show nr < 8 by omega)] at hm
            have hl := w_row_ok hG rfl rfl hm
            rw [set39] at hl
            have hn : XM G Y_Mo_row [.ref 22, .int d, .int q] (1, ch (ab 0, be 0) (ab 1, be 1) (lt 0, lt 1, lt 2, lt 3, lt 4) (sm 0, sm 1, sm 2, sm 3, sm 4) lg (nI nb) gi go (nI ns) (fun i => (kd i, ms i, dr i, wa i, re i, lo i, hi i)) (fun i => (scm i, ou (3 * i), ou (3 * i + 1), ou (3 * i + 2), sr (3 * i + 1), sr (3 * i + 2))) (nI (nr + 1)) (upd dy nr d) (upd pt nr q) (mh th ab be lg lt sm (nI nb) kd (fun i => (ms i).toInt64) dr wa re lo hi scm ou sr gi go (nI ns).toInt64 (nI nr) dy pt td tw [oc_ (vp_updL o 0 ((nI (nr + 1)).toInt64))])) _ := n_row hG rfl hr8
            rw [xif_pos (dd_i.mpr c1), xif_neg (nr_0 c0 hr8), xif_pos c2, xif_pos (pc_i.mpr c3), xif_pos (show ¬ nI nr = 8 by intro q; have := congrArg Int32.toInt q; rw [nI_ti (by omega), l8] at this; omega), nI_s, nI_c (show nr < 8 by omega)] at hn
            exact PR_mk ab be lg lt sm nb kd ms dr wa re lo hi scm ou sr gi go ns (nr + 1) (upd dy nr d) (upd pt nr q) td tw (vp_updL o 0 ((nI (nr + 1)).toInt64)) (Nat.zero_le 1) (Nat.zero_le 6) hl rfl hn rfl ⟨hP1.1, hn8, (show nr + 1 ≤ 8 by omega), hP1.2.2.2.1, hP.2.2.2.2.1, hP.2.2.2.2.2.1, hP.2.2.2.2.2.2.1, PT_row hP.2.2.2.2.2.2.2 c3⟩ ⟨nI (nr + 1), rfl, fun _ => up0⟩
          · rw [xif_pos c1, xif_pos ⟨(by rw [ld_1 c0 hr8]; exact c2), c3⟩, xif_neg (show ¬ nI nr < 8 by rw [Int32.lt_iff_toInt_lt, nI_ti (by omega), l8]; omega)] at hm
            have hn : XM G Y_Mo_row [.ref 22, .int d, .int q] (1, pq th ab be lg lt sm nb kd ms dr wa re lo hi scm ou sr gi go ns nr dy pt td tw o) _ := n_row hG rfl hr8
            rw [xif_pos (dd_i.mpr c1), xif_neg (nr_0 c0 hr8), xif_pos c2, xif_pos (pc_i.mpr c3), xif_neg (show ¬ ¬ nI nr = 8 from fun q => q (by rw [show nr = 8 by omega]; rfl))] at hn
            exact PR_mk ab be lg lt sm nb kd ms dr wa re lo hi scm ou sr gi go ns nr dy pt td tw o (Nat.le_refl 1) (Nat.le_refl 6) (w_row_S rfl hm) rfl hn rfl hP1 ⟨0, rfl, fun q => absurd q (by decide)⟩
        · rw [xif_pos c1, xif_neg (fun q => c3 q.2)] at hm
          have hn : XM G Y_Mo_row [.ref 22, .int d, .int q] (1, pq th ab be lg lt sm nb kd ms dr wa re lo hi scm ou sr gi go ns nr dy pt td tw o) _ := n_row hG rfl hr8
          rw [xif_pos (dd_i.mpr c1), xif_neg (nr_0 c0 hr8), xif_pos c2, xif_neg (fun q => c3 (pc_i.mp q))] at hn
          exact PR_mk ab be lg lt sm nb kd ms dr wa re lo hi scm ou sr gi go ns nr dy pt td tw o (Nat.le_refl 1) (Nat.le_refl 6) (w_row_A rfl hm) rfl hn rfl hP1 ⟨0, rfl, fun q => absurd q (by decide)⟩
      · rw [xif_pos c1, xif_neg (fun q => c2 (by have := q.1; rw [ld_1 c0 hr8] at this; exact this))] at hm
        have hn : XM G Y_Mo_row [.ref 22, .int d, .int q] (1, pq th ab be lg lt sm nb kd ms dr wa re lo hi scm ou sr gi go ns nr dy pt td tw o) _ := n_row hG rfl hr8
        rw [xif_pos (dd_i.mpr c1), xif_neg (nr_0 c0 hr8), xif_neg c2] at hn
        exact PR_mk ab be lg lt sm nb kd ms dr wa re lo hi scm ou sr gi go ns nr dy pt td tw o (Nat.le_refl 1) (Nat.le_refl 6) (w_row_A rfl hm) rfl hn rfl hP1 ⟨0, rfl, fun q => absurd q (by decide)⟩
  · rw [xif_neg c1] at hm
    have hn : XM G Y_Mo_row [.ref 22, .int d, .int q] (1, pq th ab be lg lt sm nb kd ms dr wa re lo hi scm ou sr gi go ns nr dy pt td tw o) _ := n_row hG rfl hr8
    rw [xif_neg (fun q => c1 (dd_i.mp q))] at hn
    exact PR_mk ab be lg lt sm nb kd ms dr wa re lo hi scm ou sr gi go ns nr dy pt td tw o (Nat.le_refl 1) (Nat.le_refl 6) (w_row_A rfl hm) rfl hn rfl hP1 ⟨0, rfl, fun q => absurd q (by decide)⟩
theorem tk_i {k : Int32} : (¬ s_in k.toInt64 1 1000000 = 0) ↔ okT k := bn_i
theorem ce_i {k : Int32} : (¬ s_in k.toInt64 0 1000000 = 0) ↔ (¬ k < 0 ∧ k ≤ 1000000) := by
  rw [in_i]
  simp only [Int32.lt_iff_toInt_lt, Int32.le_iff_toInt_le, Jvm.Kit.i64_of_i32, l0, lM, q0, qM]
  omega
theorem okT_b {k : Int32} (h : okT k) : 1 ≤ k.toInt ∧ k.toInt ≤ 1000000 := by
  unfold okT at h
  rw [Int32.lt_iff_toInt_lt, Int32.le_iff_toInt_le, l1, lM] at h
  omega
theorem e_ta {kd ms lo hi : Nat → Int32} {dr wa re : Nat → Int64} {n : Nat} {x z : Int64} (i : Nat) : vf_upd (fun i => ((kd i, ms i, dr i, wa i, re i, lo i, hi i) : cB)) n (s_ta ((fun i => ((kd i, ms i, dr i, wa i, re i, lo i, hi i) : cB)) n) x z) i = (kd i, ms i, vp_updL dr n (dr n - x) i, vp_updL wa n (wa n - z) i, re i, lo i, hi i) := by
  rw [Int64.sub_eq_add_neg, Int64.sub_eq_add_neg]
  exact e_dw i
theorem al_e {dr wa : Nat → Int64} {m : Nat} (hm : m < 8) : s_al dr wa (nI m) = dr m + wa m := by unfold s_al; rw [nI_c hm]
theorem heat_e {b : cB} {k d : Int32} {dy pt : Nat → Int32} {nr : Nat} {x z : Int64} (hn : nr ≤ 8) (hp : ∀ i, i < nr → 0 ≤ (pt i).toInt ∧ (pt i).toInt ≤ 200) (hx : s_di b k = x) (hz : s_wi b k = z) (x1 : 0 ≤ x.toInt) (x2 : x.toInt ≤ 1000000000) (z1 : 0 ≤ z.toInt) (z2 : z.toInt ≤ 1000000000) : (if 0 ≤ s_he b k (s_pl (nI nr) dy pt d 8 0 100) then s_he b k (s_pl (nI nr) dy pt d 8 0 100) else 0) = s_mt x z (s_mp dy pt d nr 0 100) := by
  obtain ⟨p1, p2⟩ := pl_b (dy := dy) (d := d) hn hp 8 0 100 rfl (by decide) (by decide)
  unfold s_he
  rw [hx, hz, he_e x1 x2 z1 z2 p1 p2]
  rw [pl_e hn 8 0 100 rfl]
  rfl
set_option maxHeartbeats 4000000 in
set_option maxRecDepth 100000 in
theorem p_burn {b k d : Int32} (hG : gTok G) (hI : Inv j h) : PR G j Y_La_burn Y_Mo_burn [.ref 0, .int b, .int k, .int d, .ref 39] [.ref 22, .int b, .int k, .int d] h 2 := by
  obtain ⟨th, ab, be, lg, lt, sm, nb, kd, ms, dr, wa, re, lo, hi, scm, ou, sr, gi, go, ns, nr, dy, pt, td, tw, o, hP, rfl⟩ := hI
  have hP1 := PI_up (Nat.le_succ j) hP
  have hn8 := hP.2.1
  have hr8 := hP.2.2.1
  have hm : XM G Y_RF_burn [.ref 0, .int b, .int k, .int d] (1, pq th ab be lg lt sm nb kd ms dr wa re lo hi scm ou sr gi go ns nr dy pt td tw o) _ := m_burn hG
  by_cases c1 : ∃ m, m < nb ∧ b = nI m
  · obtain ⟨m, hm0, rfl⟩ := c1
    have hm8 : m < 8 := by omega
    have okb := ok_of hn8 hm0
    have okn := nb_of hn8 hm0
    have ec := nI_c hm8
    rw [xif_pos okb] at hm
    by_cases c2 : okT k
    · by_cases c3 : okD d
      · by_cases c4 : okE (kd m, ms m, dr m, wa m, re m, lo m, hi m) k
        · have ⟨k1, k2⟩ := okT_b c2
          obtain ⟨b1, b2, b3, b4, b5⟩ := hP.2.2.2.2.1 m hm0
          have en := okE_b b2 b3 b4 b5 c4
          have e1 : (dr m + wa m).toInt = (dr m).toInt + (wa m).toInt := Jvm.Kit.i64_add (by omega) (by omega)
          have wie : s_wi ((fun i => ((kd i, ms i, dr i, wa i, re i, lo i, hi i) : cB)) m) k = wa m * (1000 * k.toInt64) / (dr m + wa m) := wi_e (by omega)
          have die : s_di ((fun i => ((kd i, ms i, dr i, wa i, re i, lo i, hi i) : cB)) m) k = 1000 * k.toInt64 - wa m * (1000 * k.toInt64) / (dr m + wa m) := di_e (by omega)
          obtain ⟨t1, t2, t3, t4, t5⟩ := b_take b2 b3 b4 b5 k1 k2 en
          rw [xif_pos c2, xif_pos c3, ec, xif_pos c4, show (if 0 ≤ s_he ((fun i => ((kd i, ms i, dr i, wa i, re i, lo i, hi i) : cB)) m) k (s_pl (nI nr) dy pt d 8 0 100) then s_he ((fun i => ((kd i, ms i, dr i, wa i, re i, lo i, hi i) : cB)) m) k (s_pl (nI nr) dy pt d 8 0 100) else 0) = s_mt (1000 * k.toInt64 - wa m * (1000 * k.toInt64) / (dr m + wa m)) (wa m * (1000 * k.toInt64) / (dr m + wa m)) (s_mp dy pt d nr 0 100) from heat_e hr8 hP.2.2.2.2.2.2.2 die wie (by omega) (by omega) (by omega) (by omega), die, wie, ← Int64.add_assoc] at hm
          have hl := w_burn_ok hG rfl rfl hm
          rw [set39] at hl
          have hn : XM G Y_Mo_burn [.ref 22, .int (nI m), .int k, .int d] (1, ch (ab 0, be 0) (ab 1, be 1) (lt 0, lt 1, lt 2, lt 3, lt 4) (sm 0, sm 1, sm 2, sm 3, sm 4) lg (nI nb) gi (go + (1000 * k.toInt64 - wa m * (1000 * k.toInt64) / (dr m + wa m)) + wa m * (1000 * k.toInt64) / (dr m + wa m)) (nI ns) (vf_upd (fun i => ((kd i, ms i, dr i, wa i, re i, lo i, hi i) : cB)) m (s_ta ((fun i => ((kd i, ms i, dr i, wa i, re i, lo i, hi i) : cB)) m) (1000 * k.toInt64 - wa m * (1000 * k.toInt64) / (dr m + wa m)) (wa m * (1000 * k.toInt64) / (dr m + wa m)))) (fun i => (scm i, ou (3 * i), ou (3 * i + 1), ou (3 * i + 2), sr (3 * i + 1), sr (3 * i + 2))) (nI nr) dy pt (mh th ab be lg lt sm (nI nb) kd (fun i => (ms i).toInt64) dr wa re lo hi scm ou sr gi go (nI ns).toInt64 (nI nr) dy pt td tw [oc_ (vp_updL o 0 (s_mt (1000 * k.toInt64 - wa m * (1000 * k.toInt64) / (dr m + wa m)) (wa m * (1000 * k.toInt64) / (dr m + wa m)) (s_mp dy pt d nr 0 100)))])) _ := n_burn hG rfl hn8 rfl hr8
          rw [xif_pos okn, xif_pos ⟨tk_i.mpr c2, dd_i.mpr c3⟩, xif_pos ((ha_i (kd := kd) (ms := ms) (re := re) (lo := lo) (hi := hi) hm8).mpr c4), ec, al_e hm8] at hn
          exact PR_mk ab be lg lt sm nb kd ms (vp_updL dr m (dr m - (1000 * k.toInt64 - wa m * (1000 * k.toInt64) / (dr m + wa m)))) (vp_updL wa m (wa m - wa m * (1000 * k.toInt64) / (dr m + wa m))) re lo hi scm ou sr gi (go + (1000 * k.toInt64 - wa m * (1000 * k.toInt64) / (dr m + wa m)) + wa m * (1000 * k.toInt64) / (dr m + wa m)) ns nr dy pt (1000 * k.toInt64 - wa m * (1000 * k.toInt64) / (dr m + wa m)) (wa m * (1000 * k.toInt64) / (dr m + wa m)) (vp_updL o 0 (s_mt (1000 * k.toInt64 - wa m * (1000 * k.toInt64) / (dr m + wa m)) (wa m * (1000 * k.toInt64) / (dr m + wa m)) (s_mp dy pt d nr 0 100))) (Nat.zero_le 1) (Nat.zero_le 6) hl rfl hn (ch_ext (fun i _ => e_ta i) (fun _ _ => rfl)) ⟨hP1.1, hn8, hr8, hP1.2.2.2.1, PB_take hP.2.2.2.2.1 hm0 k1 k2 en, PE_upd hm0 hP.2.2.2.2.2.1, hP.2.2.2.2.2.2⟩ ⟨_, rfl, fun _ => up0⟩
        · rw [xif_pos c2, xif_pos c3, ec, xif_neg c4] at hm
          have hn : XM G Y_Mo_burn [.ref 22, .int (nI m), .int k, .int d] (1, pq th ab be lg lt sm nb kd ms dr wa re lo hi scm ou sr gi go ns nr dy pt td tw o) _ := n_burn hG rfl hn8 rfl hr8
          rw [xif_pos okn, xif_pos ⟨tk_i.mpr c2, dd_i.mpr c3⟩, xif_neg (fun q => c4 ((ha_i (kd := kd) (ms := ms) (re := re) (lo := lo) (hi := hi) hm8).mp q))] at hn
          exact PR_mk ab be lg lt sm nb kd ms dr wa re lo hi scm ou sr gi go ns nr dy pt td tw o (Nat.le_refl 1) (Nat.le_refl 6) (w_burn_S rfl hm) rfl hn rfl hP1 ⟨0, rfl, fun q => absurd q (by decide)⟩
      · rw [xif_pos c2, xif_neg c3] at hm
        have hn : XM G Y_Mo_burn [.ref 22, .int (nI m), .int k, .int d] (1, pq th ab be lg lt sm nb kd ms dr wa re lo hi scm ou sr gi go ns nr dy pt td tw o) _ := n_burn hG rfl hn8 rfl hr8
        rw [xif_pos okn, xif_neg (fun q => c3 (dd_i.mp q.2))] at hn
        exact PR_mk ab be lg lt sm nb kd ms dr wa re lo hi scm ou sr gi go ns nr dy pt td tw o (Nat.le_refl 1) (Nat.le_refl 6) (w_burn_A rfl hm) rfl hn rfl hP1 ⟨0, rfl, fun q => absurd q (by decide)⟩
    · rw [xif_neg c2] at hm
      have hn : XM G Y_Mo_burn [.ref 22, .int (nI m), .int k, .int d] (1, pq th ab be lg lt sm nb kd ms dr wa re lo hi scm ou sr gi go ns nr dy pt td tw o) _ := n_burn hG rfl hn8 rfl hr8
      rw [xif_pos okn, xif_neg (fun q => c2 (tk_i.mp q.1))] at hn
      exact PR_mk ab be lg lt sm nb kd ms dr wa re lo hi scm ou sr gi go ns nr dy pt td tw o (Nat.le_refl 1) (Nat.le_refl 6) (w_burn_A rfl hm) rfl hn rfl hP1 ⟨0, rfl, fun q => absurd q (by decide)⟩
  · rw [xif_neg (fun q => c1 (of_ok hn8 q))] at hm
    have hn : XM G Y_Mo_burn [.ref 22, .int b, .int k, .int d] (1, pq th ab be lg lt sm nb kd ms dr wa re lo hi scm ou sr gi go ns nr dy pt td tw o) _ := n_burn hG rfl hn8 rfl hr8
    rw [xif_neg (fun q => c1 (of_nb hn8 q))] at hn
    exact PR_mk ab be lg lt sm nb kd ms dr wa re lo hi scm ou sr gi go ns nr dy pt td tw o (Nat.le_refl 1) (Nat.le_refl 6) (w_burn_I rfl hm) rfl hn rfl hP1 ⟨0, rfl, fun q => absurd q (by decide)⟩
set_option maxHeartbeats 4000000 in
set_option maxRecDepth 100000 in
theorem p_sell {b k c : Int32} (hG : gTok G) (hI : Inv j h) : PR G j Y_La_sell Y_Mo_sell [.ref 0, .int b, .int k, .int c, .ref 39] [.ref 22, .int b, .int k, .int c] h 2 := by
  obtain ⟨th, ab, be, lg, lt, sm, nb, kd, ms, dr, wa, re, lo, hi, scm, ou, sr, gi, go, ns, nr, dy, pt, td, tw, o, hP, rfl⟩ := hI
  have hP1 := PI_up (Nat.le_succ j) hP
  have hn8 := hP.2.1
  have hr8 := hP.2.2.1
  have hm : XM G Y_RF_sell [.ref 0, .int b, .int k, .int c] (1, pq th ab be lg lt sm nb kd ms dr wa re lo hi scm ou sr gi go ns nr dy pt td tw o) _ := m_sell hG
  by_cases c1 : ∃ m, m < nb ∧ b = nI m
  · obtain ⟨m, hm0, rfl⟩ := c1
    have hm8 : m < 8 := by omega
    have okb := ok_of hn8 hm0
    have okn := nb_of hn8 hm0
    have ec := nI_c hm8
    rw [xif_pos okb] at hm
    by_cases c2 : okT k
    · by_cases c3 : ¬ c < 0 ∧ c ≤ 1000000
      · by_cases c4 : okE (kd m, ms m, dr m, wa m, re m, lo m, hi m) k
        · have ⟨k1, k2⟩ := okT_b c2
          obtain ⟨b1, b2, b3, b4, b5⟩ := hP.2.2.2.2.1 m hm0
          have en := okE_b b2 b3 b4 b5 c4
          have e1 : (dr m + wa m).toInt = (dr m).toInt + (wa m).toInt := Jvm.Kit.i64_add (by omega) (by omega)
          have wie : s_wi ((fun i => ((kd i, ms i, dr i, wa i, re i, lo i, hi i) : cB)) m) k = wa m * (1000 * k.toInt64) / (dr m + wa m) := wi_e (by omega)
          have die : s_di ((fun i => ((kd i, ms i, dr i, wa i, re i, lo i, hi i) : cB)) m) k = 1000 * k.toInt64 - wa m * (1000 * k.toInt64) / (dr m + wa m) := di_e (by omega)
          obtain ⟨t1, t2, t3, t4, t5⟩ := b_take b2 b3 b4 b5 k1 k2 en
          rw [xif_pos c2, xif_pos c3, ec, xif_pos c4, die, wie, ← Int64.add_assoc] at hm
          have hl := w_sell_ok hG rfl rfl hm
          rw [set39] at hl
          have hn : XM G Y_Mo_sell [.ref 22, .int (nI m), .int k, .int c] (1, ch (ab 0, be 0) (ab 1, be 1) (lt 0, lt 1, lt 2, lt 3, lt 4) (sm 0, sm 1, sm 2, sm 3, sm 4) lg (nI nb) gi (go + (1000 * k.toInt64 - wa m * (1000 * k.toInt64) / (dr m + wa m)) + wa m * (1000 * k.toInt64) / (dr m + wa m)) (nI ns) (vf_upd (fun i => ((kd i, ms i, dr i, wa i, re i, lo i, hi i) : cB)) m (s_ta ((fun i => ((kd i, ms i, dr i, wa i, re i, lo i, hi i) : cB)) m) (1000 * k.toInt64 - wa m * (1000 * k.toInt64) / (dr m + wa m)) (wa m * (1000 * k.toInt64) / (dr m + wa m)))) (fun i => (scm i, ou (3 * i), ou (3 * i + 1), ou (3 * i + 2), sr (3 * i + 1), sr (3 * i + 2))) (nI nr) dy pt (mh th ab be lg lt sm (nI nb) kd (fun i => (ms i).toInt64) dr wa re lo hi scm ou sr gi go (nI ns).toInt64 (nI nr) dy pt td tw [oc_ (vp_updL o 0 ((1000 * k.toInt64 - wa m * (1000 * k.toInt64) / (dr m + wa m)) * c.toInt64 / 1000000))])) _ := n_sell hG rfl hn8
          rw [xif_pos okn, xif_pos ⟨tk_i.mpr c2, ce_i.mpr c3⟩, xif_pos ((ha_i (kd := kd) (ms := ms) (re := re) (lo := lo) (hi := hi) hm8).mpr c4), ec, al_e hm8] at hn
          exact PR_mk ab be lg lt sm nb kd ms (vp_updL dr m (dr m - (1000 * k.toInt64 - wa m * (1000 * k.toInt64) / (dr m + wa m)))) (vp_updL wa m (wa m - wa m * (1000 * k.toInt64) / (dr m + wa m))) re lo hi scm ou sr gi (go + (1000 * k.toInt64 - wa m * (1000 * k.toInt64) / (dr m + wa m)) + wa m * (1000 * k.toInt64) / (dr m + wa m)) ns nr dy pt (1000 * k.toInt64 - wa m * (1000 * k.toInt64) / (dr m + wa m)) (wa m * (1000 * k.toInt64) / (dr m + wa m)) (vp_updL o 0 ((1000 * k.toInt64 - wa m * (1000 * k.toInt64) / (dr m + wa m)) * c.toInt64 / 1000000)) (Nat.zero_le 1) (Nat.zero_le 6) hl rfl hn (ch_ext (fun i _ => e_ta i) (fun _ _ => rfl)) ⟨hP1.1, hn8, hr8, hP1.2.2.2.1, PB_take hP.2.2.2.2.1 hm0 k1 k2 en, PE_upd hm0 hP.2.2.2.2.2.1, hP.2.2.2.2.2.2⟩ ⟨_, rfl, fun _ => up0⟩
        · rw [xif_pos c2, xif_pos c3, ec, xif_neg c4] at hm
          have hn : XM G Y_Mo_sell [.ref 22, .int (nI m), .int k, .int c] (1, pq th ab be lg lt sm nb kd ms dr wa re lo hi scm ou sr gi go ns nr dy pt td tw o) _ := n_sell hG rfl hn8
          rw [xif_pos okn, xif_pos ⟨tk_i.mpr c2, ce_i.mpr c3⟩, xif_neg (fun q => c4 ((ha_i (kd := kd) (ms := ms) (re := re) (lo := lo) (hi := hi) hm8).mp q))] at hn
          exact PR_mk ab be lg lt sm nb kd ms dr wa re lo hi scm ou sr gi go ns nr dy pt td tw o (Nat.le_refl 1) (Nat.le_refl 6) (w_sell_S rfl hm) rfl hn rfl hP1 ⟨0, rfl, fun q => absurd q (by decide)⟩
      · rw [xif_pos c2, xif_neg c3] at hm
        have hn : XM G Y_Mo_sell [.ref 22, .int (nI m), .int k, .int c] (1, pq th ab be lg lt sm nb kd ms dr wa re lo hi scm ou sr gi go ns nr dy pt td tw o) _ := n_sell hG rfl hn8
        rw [xif_pos okn, xif_neg (fun q => c3 (ce_i.mp q.2))] at hn
        exact PR_mk ab be lg lt sm nb kd ms dr wa re lo hi scm ou sr gi go ns nr dy pt td tw o (Nat.le_refl 1) (Nat.le_refl 6) (w_sell_A rfl hm) rfl hn rfl hP1 ⟨0, rfl, fun q => absurd q (by decide)⟩
    · rw [xif_neg c2] at hm
      have hn : XM G Y_Mo_sell [.ref 22, .int (nI m), .int k, .int c] (1, pq th ab be lg lt sm nb kd ms dr wa re lo hi scm ou sr gi go ns nr dy pt td tw o) _ := n_sell hG rfl hn8
      rw [xif_pos okn, xif_neg (fun q => c2 (tk_i.mp q.1))] at hn
      exact PR_mk ab be lg lt sm nb kd ms dr wa re lo hi scm ou sr gi go ns nr dy pt td tw o (Nat.le_refl 1) (Nat.le_refl 6) (w_sell_A rfl hm) rfl hn rfl hP1 ⟨0, rfl, fun q => absurd q (by decide)⟩
  · rw [xif_neg (fun q => c1 (of_ok hn8 q))] at hm
    have hn : XM G Y_Mo_sell [.ref 22, .int b, .int k, .int c] (1, pq th ab be lg lt sm nb kd ms dr wa re lo hi scm ou sr gi go ns nr dy pt td tw o) _ := n_sell hG rfl hn8
    rw [xif_neg (fun q => c1 (of_nb hn8 q))] at hn
    exact PR_mk ab be lg lt sm nb kd ms dr wa re lo hi scm ou sr gi go ns nr dy pt td tw o (Nat.le_refl 1) (Nat.le_refl 6) (w_sell_I rfl hm) rfl hn rfl hP1 ⟨0, rfl, fun q => absurd q (by decide)⟩
end XP2
