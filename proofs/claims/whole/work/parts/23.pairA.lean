section XP1
variable {G : xG} {j : Nat} {h : List va_E}
theorem set39 {sa sb : Int32 × Int32} {lt tt : cP} {lg bc : Int32} {gi go : Int64} {sh : Int32} {bn : Nat → cB} {sc : Nat → cS} {rw : Int32} {dy pt : Nat → Int32} {th : Int32} {ab be : Nat → Int32} {lgm : Int32} {ltm smm : Nat → Int64} {bs : Int32} {kd : Nat → Int32} {mo dr wa re : Nat → Int64} {lom him scm ou sr : Nat → Int32} {gim gom shm : Int64} {rwm : Int32} {dym ptm : Nat → Int32} {td tw : Int64} {c d : va_E} : (ch sa sb lt tt lg bc gi go sh bn sc rw dy pt (mh th ab be lgm ltm smm bs kd mo dr wa re lom him scm ou sr gim gom shm rwm dym ptm td tw [c])).set 39 d = ch sa sb lt tt lg bc gi go sh bn sc rw dy pt (mh th ab be lgm ltm smm bs kd mo dr wa re lom him scm ou sr gim gom shm rwm dym ptm td tw [d]) := rfl
theorem up0 {o : Nat → Int64} {v : Int64} : vp_updL o 0 v 0 = v := if_pos rfl
theorem c32_0 : (0 : Int32).toNatClampNeg = 0 := by decide
theorem c32_1 : (1 : Int32).toNatClampNeg = 1 := by decide
theorem bz {ab be : Nat → Int32} (h : ∀ t, t < 2 → 1 ≤ (be t).toInt ∧ (be t).toInt ≤ 10 ∧ 0 ≤ (ab t).toInt ∧ (ab t).toInt ≤ (be t).toInt) (t : Nat) (ht : t < 2) : ¬ (be t).toInt64 = 0 := by
  intro q
  have := congrArg Int64.toInt q
  rw [Jvm.Kit.i64_of_i32, q0] at this
  have := (h t ht).1
  omega
theorem nI_nn {n : Nat} (h : n ≤ 8) : ¬ nI n < 0 := by
  rw [Int32.lt_iff_toInt_lt, nI_ti (by omega), l0]; omega
theorem t01 {t : Int32} (h : ¬ t < 0 ∧ t ≤ 1) : t = 0 ∨ t = 1 := by
  rw [Int32.lt_iff_toInt_lt, Int32.le_iff_toInt_le, l0, l1] at h
  by_cases c : t.toInt = 0
  · exact Or.inl (Int32.toInt_inj.mp (by rw [c, l0]))
  · exact Or.inr (Int32.toInt_inj.mp (by rw [l1]; omega))
theorem sh_i {a b : Int32} : (¬ s_in b.toInt64 1 10 = 0 ∧ ¬ s_in a.toInt64 0 b.toInt64 = 0) ↔ (¬ b < 1 ∧ ¬ 10 < b ∧ ¬ a < 0 ∧ a ≤ b) := by
  rw [in_i, in_i]
  simp only [Int32.lt_iff_toInt_lt, Int32.le_iff_toInt_le, Jvm.Kit.i64_of_i32, l0, l1, l10, q0, q1, q10]
  omega
theorem PI_sh {ab be : Nat → Int32} {a b : Int32} {c : Nat} (h : ∀ t, t < 2 → 1 ≤ (be t).toInt ∧ (be t).toInt ≤ 10 ∧ 0 ≤ (ab t).toInt ∧ (ab t).toInt ≤ (be t).toInt) (h2 : ¬ b < 1 ∧ ¬ 10 < b ∧ ¬ a < 0 ∧ a ≤ b) : ∀ t, t < 2 → 1 ≤ (upd be c b t).toInt ∧ (upd be c b t).toInt ≤ 10 ∧ 0 ≤ (upd ab c a t).toInt ∧ (upd ab c a t).toInt ≤ (upd be c b t).toInt := by
  intro t ht
  unfold upd
  by_cases q : t = c
  · rw [if_pos q, if_pos q]
    simp only [Int32.lt_iff_toInt_lt, Int32.le_iff_toInt_le, l0, l1, l10] at h2
    omega
  · rw [if_neg q, if_neg q]
    exact h t ht
set_option maxHeartbeats 4000000 in
set_option maxRecDepth 100000 in
theorem p_share {t a b : Int32} (hG : gTok G) (hI : Inv j h) : PR G j Y_La_share Y_Mo_share [.ref 0, .int t, .int a, .int b] [.ref 22, .int t, .int a, .int b] h 0 := by
  obtain ⟨th, ab, be, lg, lt, sm, nb, kd, ms, dr, wa, re, lo, hi, scm, ou, sr, gi, go, ns, nr, dy, pt, td, tw, o, hP, rfl⟩ := hI
  have hP1 := PI_up (Nat.le_succ j) hP
  have hn8 := hP.2.1
  have hr8 := hP.2.2.1
  have hm : XM G Y_RF_share [.ref 0, .int t, .int a, .int b] (1, pq th ab be lg lt sm nb kd ms dr wa re lo hi scm ou sr gi go ns nr dy pt td tw o) _ := m_share
  by_cases c1 : ¬ t < 0 ∧ t ≤ 1
  · by_cases c2 : ¬ b < 1 ∧ ¬ 10 < b ∧ ¬ a < 0 ∧ a ≤ b
    · rcases t01 c1 with rfl | rfl
      · rw [xif_pos c1, xif_pos c2, xif_pos rfl] at hm
        have hl := w_share_ok rfl hm
        have hn : XM G Y_Mo_share [.ref 22, .int 0, .int a, .int b] (1, ch ((a, b)) (ab 1, be 1) (lt 0, lt 1, lt 2, lt 3, lt 4) (sm 0, sm 1, sm 2, sm 3, sm 4) lg (nI nb) gi go (nI ns) (fun i => (kd i, ms i, dr i, wa i, re i, lo i, hi i)) (fun i => (scm i, ou (3 * i), ou (3 * i + 1), ou (3 * i + 2), sr (3 * i + 1), sr (3 * i + 2))) (nI nr) dy pt (mh th ab be lg lt sm (nI nb) kd (fun i => (ms i).toInt64) dr wa re lo hi scm ou sr gi go (nI ns).toInt64 (nI nr) dy pt td tw [oc_ (o)])) _ := n_share hG
        rw [xif_pos c1, xif_pos (sh_i.mpr c2), c32_0] at hn
        exact PR_mk (upd ab 0 a) (upd be 0 b) lg lt sm nb kd ms dr wa re lo hi scm ou sr gi go ns nr dy pt td tw o (Nat.zero_le 1) (Nat.zero_le 6) hl rfl hn rfl ⟨PI_sh hP.1 c2, hP1.2⟩ rfl
      · rw [xif_pos c1, xif_pos c2, xif_neg (by decide)] at hm
        have hl := w_share_ok rfl hm
        have hn : XM G Y_Mo_share [.ref 22, .int 1, .int a, .int b] (1, ch (ab 0, be 0) ((a, b)) (lt 0, lt 1, lt 2, lt 3, lt 4) (sm 0, sm 1, sm 2, sm 3, sm 4) lg (nI nb) gi go (nI ns) (fun i => (kd i, ms i, dr i, wa i, re i, lo i, hi i)) (fun i => (scm i, ou (3 * i), ou (3 * i + 1), ou (3 * i + 2), sr (3 * i + 1), sr (3 * i + 2))) (nI nr) dy pt (mh th ab be lg lt sm (nI nb) kd (fun i => (ms i).toInt64) dr wa re lo hi scm ou sr gi go (nI ns).toInt64 (nI nr) dy pt td tw [oc_ (o)])) _ := n_share hG
        rw [xif_pos c1, xif_pos (sh_i.mpr c2), c32_1] at hn
        exact PR_mk (upd ab 1 a) (upd be 1 b) lg lt sm nb kd ms dr wa re lo hi scm ou sr gi go ns nr dy pt td tw o (Nat.zero_le 1) (Nat.zero_le 6) hl rfl hn rfl ⟨PI_sh hP.1 c2, hP1.2⟩ rfl
    · rw [xif_pos c1, xif_neg c2] at hm
      have hn : XM G Y_Mo_share [.ref 22, .int t, .int a, .int b] (1, pq th ab be lg lt sm nb kd ms dr wa re lo hi scm ou sr gi go ns nr dy pt td tw o) _ := n_share hG
      rw [xif_pos c1, xif_neg (fun q => c2 (sh_i.mp q))] at hn
      exact PR_mk ab be lg lt sm nb kd ms dr wa re lo hi scm ou sr gi go ns nr dy pt td tw o (Nat.le_refl 1) (Nat.le_refl 6) (w_share_A rfl hm) rfl hn rfl hP1 rfl
  · rw [xif_neg c1] at hm
    have hn : XM G Y_Mo_share [.ref 22, .int t, .int a, .int b] (1, pq th ab be lg lt sm nb kd ms dr wa re lo hi scm ou sr gi go ns nr dy pt td tw o) _ := n_share hG
    rw [xif_neg c1] at hn
    exact PR_mk ab be lg lt sm nb kd ms dr wa re lo hi scm ou sr gi go ns nr dy pt td tw o (Nat.le_refl 1) (Nat.le_refl 6) (w_share_I rfl hm) rfl hn rfl hP1 rfl
theorem lo_i {v b k : Int32} : (¬ s_in v.toInt64 1 1000 = 0 ∧ ¬ b < 0 ∧ ¬ k < 0) ↔ (¬ v < 1 ∧ ¬ 1000 < v ∧ ¬ b < 0 ∧ 0 ≤ k) := by
  rw [in_i]
  simp only [Int32.lt_iff_toInt_lt, Int32.le_iff_toInt_le, Jvm.Kit.i64_of_i32, l0, l1, lk, q1, qk]
  omega
theorem lg1 {l : Int32} : l + 1 - 1 = l := by grind
set_option maxHeartbeats 4000000 in
set_option maxRecDepth 100000 in
theorem p_log {v b k : Int32} (hG : gTok G) (hI : Inv j h) : PR G j Y_La_log Y_Mo_log [.ref 0, .int v, .int b, .int k, .ref 39] [.ref 22, .int v, .int b, .int k] h 1 := by
  obtain ⟨th, ab, be, lg, lt, sm, nb, kd, ms, dr, wa, re, lo, hi, scm, ou, sr, gi, go, ns, nr, dy, pt, td, tw, o, hP, rfl⟩ := hI
  have hP1 := PI_up (Nat.le_succ j) hP
  have hn8 := hP.2.1
  have hr8 := hP.2.2.1
  have hm : XM G Y_RF_log [.ref 0, .int v, .int b, .int k] (1, pq th ab be lg lt sm nb kd ms dr wa re lo hi scm ou sr gi go ns nr dy pt td tw o) _ := m_log
  by_cases c1 : ¬ v < 1 ∧ ¬ 1000 < v ∧ ¬ b < 0 ∧ 0 ≤ k
  · have c1' := c1
    simp only [Int32.lt_iff_toInt_lt, Int32.le_iff_toInt_le, l0, l1, lk] at c1'
    obtain ⟨g1, g2, g3⟩ := lg_e (v := v) (b := b) (k := k) (by omega) (by omega) (by omega) (by omega) (hP.1 0 (by decide)) (hP.1 1 (by decide))
    rw [xif_pos c1, g2] at hm
    by_cases c2 : 0 ≤ s_kl ab be v b k
    · rw [xif_pos c2, g3 c2] at hm
      have hl := w_log_ok hG rfl rfl hm
      rw [set39] at hl
      have hn : XM G Y_Mo_log [.ref 22, .int v, .int b, .int k] (1, ch (ab 0, be 0) (ab 1, be 1) (s_kb ab be v, s_kl ab be v b k - s_ko ab be v b k, 25200 * k.toInt64, s_ko ab be v b k, 25200 * b.toInt64) (s_pa (sm 0, sm 1, sm 2, sm 3, sm 4) (s_kb ab be v, s_kl ab be v b k - s_ko ab be v b k, 25200 * k.toInt64, s_ko ab be v b k, 25200 * b.toInt64)) (lg + 1) (nI nb) gi go (nI ns) (fun i => (kd i, ms i, dr i, wa i, re i, lo i, hi i)) (fun i => (scm i, ou (3 * i), ou (3 * i + 1), ou (3 * i + 2), sr (3 * i + 1), sr (3 * i + 2))) (nI nr) dy pt (mh th ab be lg lt sm (nI nb) kd (fun i => (ms i).toInt64) dr wa re lo hi scm ou sr gi go (nI ns).toInt64 (nI nr) dy pt td tw [oc_ (vp_updL o 0 (lg.toInt64))])) _ := n_log hG (bz hP.1 0 (by decide)) (bz hP.1 1 (by decide))
      rw [xif_pos (lo_i.mpr c1), xif_pos c2, lg1] at hn
      exact PR_mk ab be (lg + 1) (s_kt ab be lt v b k) (s_ks sm (s_kt ab be lt v b k)) nb kd ms dr wa re lo hi scm ou sr gi go ns nr dy pt td tw (vp_updL o 0 (lg.toInt64)) (Nat.zero_le 1) (Nat.zero_le 6) hl rfl hn rfl hP1 ⟨lg, rfl, fun _ => up0⟩
    · rw [xif_neg c2] at hm
      have hn : XM G Y_Mo_log [.ref 22, .int v, .int b, .int k] (1, pq th ab be lg lt sm nb kd ms dr wa re lo hi scm ou sr gi go ns nr dy pt td tw o) _ := n_log hG (bz hP.1 0 (by decide)) (bz hP.1 1 (by decide))
      rw [xif_pos (lo_i.mpr c1), xif_neg c2] at hn
      exact PR_mk ab be lg lt sm nb kd ms dr wa re lo hi scm ou sr gi go ns nr dy pt td tw o (Nat.le_refl 1) (Nat.le_refl 6) (w_log_A rfl hm) rfl hn rfl hP1 ⟨0, rfl, fun q => absurd q (by decide)⟩
  · rw [xif_neg c1] at hm
    have hn : XM G Y_Mo_log [.ref 22, .int v, .int b, .int k] (1, pq th ab be lg lt sm nb kd ms dr wa re lo hi scm ou sr gi go ns nr dy pt td tw o) _ := n_log hG (bz hP.1 0 (by decide)) (bz hP.1 1 (by decide))
    rw [xif_neg (fun q => c1 (lo_i.mp q))] at hn
    exact PR_mk ab be lg lt sm nb kd ms dr wa re lo hi scm ou sr gi go ns nr dy pt td tw o (Nat.le_refl 1) (Nat.le_refl 6) (w_log_A rfl hm) rfl hn rfl hP1 ⟨0, rfl, fun q => absurd q (by decide)⟩
theorem kd_i {k : Int32} : (¬ k < 0 ∧ k ≤ 3) ↔ okK k := by
  unfold okK
  simp only [Int32.lt_iff_toInt_lt, Int32.le_iff_toInt_le, l0, l3, l4]
  omega
theorem k03 {k : Int32} (h : okK k) : k = 0 ∨ k = 1 ∨ k = 2 ∨ k = 3 := by
  unfold okK at h
  rw [Int32.lt_iff_toInt_lt, Int32.lt_iff_toInt_lt, l0, l4] at h
  have l2 : (2 : Int32).toInt = 2 := by decide
  by_cases c : k.toInt = 0
  · exact Or.inl (Int32.toInt_inj.mp (by rw [c, l0]))
  · by_cases c1 : k.toInt = 1
    · exact Or.inr (Or.inl (Int32.toInt_inj.mp (by rw [c1, l1])))
    · by_cases c2 : k.toInt = 2
      · exact Or.inr (Or.inr (Or.inl (Int32.toInt_inj.mp (by rw [c2, l2]))))
      · exact Or.inr (Or.inr (Or.inr (Int32.toInt_inj.mp (by rw [l3]; omega))))
theorem vo_e {f : Nat → Int64} {k : Int32} (h : okK k) : (if k = 0 then f 0 else if k = 1 then f 1 else if k = 2 then f 2 else f 3) = f k.toNatClampNeg := by
  rcases k03 h with rfl | rfl | rfl | rfl
  · rfl
  · rfl
  · rfl
  · rfl
set_option maxHeartbeats 4000000 in
set_option maxRecDepth 100000 in
theorem p_volume {k a : Int32} (hG : gTok G) (hI : Inv j h) : PR G j Y_La_volume Y_Mo_volume [.ref 0, .int k, .int a, .ref 39] [.ref 22, .int k, .int a] h 2 := by
  obtain ⟨th, ab, be, lg, lt, sm, nb, kd, ms, dr, wa, re, lo, hi, scm, ou, sr, gi, go, ns, nr, dy, pt, td, tw, o, hP, rfl⟩ := hI
  have hP1 := PI_up (Nat.le_succ j) hP
  have hn8 := hP.2.1
  have hr8 := hP.2.2.1
  have hm : XM G Y_RF_volume [.ref 0, .int k, .int a] (1, pq th ab be lg lt sm nb kd ms dr wa re lo hi scm ou sr gi go ns nr dy pt td tw o) _ := m_volume
  by_cases c1 : okK k
  · by_cases c2 : ¬ lg = 0
    · by_cases c3 : a = 0
      · rw [xif_pos c1, xif_pos c2, xif_pos c3, show _ = lt k.toNatClampNeg from vo_e (f := lt) c1] at hm
        have hl := w_volume_ok hG rfl rfl hm
        rw [set39] at hl
        have hn : XM G Y_Mo_volume [.ref 22, .int k, .int a] (1, ch (ab 0, be 0) (ab 1, be 1) (lt 0, lt 1, lt 2, lt 3, lt 4) (sm 0, sm 1, sm 2, sm 3, sm 4) lg (nI nb) gi go (nI ns) (fun i => (kd i, ms i, dr i, wa i, re i, lo i, hi i)) (fun i => (scm i, ou (3 * i), ou (3 * i + 1), ou (3 * i + 2), sr (3 * i + 1), sr (3 * i + 2))) (nI nr) dy pt (mh th ab be lg lt sm (nI nb) kd (fun i => (ms i).toInt64) dr wa re lo hi scm ou sr gi go (nI ns).toInt64 (nI nr) dy pt td tw [oc_ (vp_updL o 0 (lt k.toNatClampNeg))])) _ := n_volume hG
        rw [xif_pos (kd_i.mpr c1), xif_pos c2, xif_pos c3] at hn
        exact PR_mk ab be lg lt sm nb kd ms dr wa re lo hi scm ou sr gi go ns nr dy pt td tw (vp_updL o 0 (lt k.toNatClampNeg)) (Nat.zero_le 1) (Nat.zero_le 6) hl rfl hn rfl hP1 ⟨_, rfl, fun _ => up0⟩
      · rw [xif_pos c1, xif_pos c2, xif_neg c3, show _ = sm k.toNatClampNeg from vo_e (f := sm) c1] at hm
        have hl := w_volume_ok hG rfl rfl hm
        rw [set39] at hl
        have hn : XM G Y_Mo_volume [.ref 22, .int k, .int a] (1, ch (ab 0, be 0) (ab 1, be 1) (lt 0, lt 1, lt 2, lt 3, lt 4) (sm 0, sm 1, sm 2, sm 3, sm 4) lg (nI nb) gi go (nI ns) (fun i => (kd i, ms i, dr i, wa i, re i, lo i, hi i)) (fun i => (scm i, ou (3 * i), ou (3 * i + 1), ou (3 * i + 2), sr (3 * i + 1), sr (3 * i + 2))) (nI nr) dy pt (mh th ab be lg lt sm (nI nb) kd (fun i => (ms i).toInt64) dr wa re lo hi scm ou sr gi go (nI ns).toInt64 (nI nr) dy pt td tw [oc_ (vp_updL o 0 (sm k.toNatClampNeg))])) _ := n_volume hG
        rw [xif_pos (kd_i.mpr c1), xif_pos c2, xif_neg c3] at hn
        exact PR_mk ab be lg lt sm nb kd ms dr wa re lo hi scm ou sr gi go ns nr dy pt td tw (vp_updL o 0 (sm k.toNatClampNeg)) (Nat.zero_le 1) (Nat.zero_le 6) hl rfl hn rfl hP1 ⟨_, rfl, fun _ => up0⟩
    · rw [xif_pos c1, xif_neg c2] at hm
      have hn : XM G Y_Mo_volume [.ref 22, .int k, .int a] (1, pq th ab be lg lt sm nb kd ms dr wa re lo hi scm ou sr gi go ns nr dy pt td tw o) _ := n_volume hG
      rw [xif_pos (kd_i.mpr c1), xif_neg c2] at hn
      exact PR_mk ab be lg lt sm nb kd ms dr wa re lo hi scm ou sr gi go ns nr dy pt td tw o (Nat.le_refl 1) (Nat.le_refl 6) (w_volume_S rfl hm) rfl hn rfl hP1 ⟨0, rfl, fun q => absurd q (by decide)⟩
  · rw [xif_neg c1] at hm
    have hn : XM G Y_Mo_volume [.ref 22, .int k, .int a] (1, pq th ab be lg lt sm nb kd ms dr wa re lo hi scm ou sr gi go ns nr dy pt td tw o) _ := n_volume hG
    rw [xif_neg (fun q => c1 (kd_i.mp q))] at hn
    exact PR_mk ab be lg lt sm nb kd ms dr wa re lo hi scm ou sr gi go ns nr dy pt td tw o (Nat.le_refl 1) (Nat.le_refl 6) (w_volume_I rfl hm) rfl hn rfl hP1 ⟨0, rfl, fun q => absurd q (by decide)⟩
set_option maxHeartbeats 4000000 in
set_option maxRecDepth 100000 in
theorem p_boards {a : Int32} (hG : gTok G) (hI : Inv j h) : PR G j Y_La_boards Y_Mo_boards [.ref 0, .int a, .ref 39] [.ref 22, .int a] h 2 := by
  obtain ⟨th, ab, be, lg, lt, sm, nb, kd, ms, dr, wa, re, lo, hi, scm, ou, sr, gi, go, ns, nr, dy, pt, td, tw, o, hP, rfl⟩ := hI
  have hP1 := PI_up (Nat.le_succ j) hP
  have hn8 := hP.2.1
  have hr8 := hP.2.2.1
  have hm : XM G Y_RF_boards [.ref 0, .int a] (1, pq th ab be lg lt sm nb kd ms dr wa re lo hi scm ou sr gi go ns nr dy pt td tw o) _ := m_boards
  by_cases c2 : ¬ lg = 0
  · by_cases c3 : a = 0
    · rw [xif_pos c2, xif_pos c3] at hm
      have hl := w_boards_ok hG rfl rfl hm
      rw [set39] at hl
      have hn : XM G Y_Mo_boards [.ref 22, .int a] (1, ch (ab 0, be 0) (ab 1, be 1) (lt 0, lt 1, lt 2, lt 3, lt 4) (sm 0, sm 1, sm 2, sm 3, sm 4) lg (nI nb) gi go (nI ns) (fun i => (kd i, ms i, dr i, wa i, re i, lo i, hi i)) (fun i => (scm i, ou (3 * i), ou (3 * i + 1), ou (3 * i + 2), sr (3 * i + 1), sr (3 * i + 2))) (nI nr) dy pt (mh th ab be lg lt sm (nI nb) kd (fun i => (ms i).toInt64) dr wa re lo hi scm ou sr gi go (nI ns).toInt64 (nI nr) dy pt td tw [oc_ (vp_updL o 0 (lt 4))])) _ := n_boards hG
      rw [xif_pos c2, xif_pos c3] at hn
      exact PR_mk ab be lg lt sm nb kd ms dr wa re lo hi scm ou sr gi go ns nr dy pt td tw (vp_updL o 0 (lt 4)) (Nat.zero_le 1) (Nat.zero_le 6) hl rfl hn rfl hP1 ⟨_, rfl, fun _ => up0⟩
    · rw [xif_pos c2, xif_neg c3] at hm
      have hl := w_boards_ok hG rfl rfl hm
      rw [set39] at hl
      have hn : XM G Y_Mo_boards [.ref 22, .int a] (1, ch (ab 0, be 0) (ab 1, be 1) (lt 0, lt 1, lt 2, lt 3, lt 4) (sm 0, sm 1, sm 2, sm 3, sm 4) lg (nI nb) gi go (nI ns) (fun i => (kd i, ms i, dr i, wa i, re i, lo i, hi i)) (fun i => (scm i, ou (3 * i), ou (3 * i + 1), ou (3 * i + 2), sr (3 * i + 1), sr (3 * i + 2))) (nI nr) dy pt (mh th ab be lg lt sm (nI nb) kd (fun i => (ms i).toInt64) dr wa re lo hi scm ou sr gi go (nI ns).toInt64 (nI nr) dy pt td tw [oc_ (vp_updL o 0 (sm 4))])) _ := n_boards hG
      rw [xif_pos c2, xif_neg c3] at hn
      exact PR_mk ab be lg lt sm nb kd ms dr wa re lo hi scm ou sr gi go ns nr dy pt td tw (vp_updL o 0 (sm 4)) (Nat.zero_le 1) (Nat.zero_le 6) hl rfl hn rfl hP1 ⟨_, rfl, fun _ => up0⟩
  · rw [xif_neg c2] at hm
    have hn : XM G Y_Mo_boards [.ref 22, .int a] (1, pq th ab be lg lt sm nb kd ms dr wa re lo hi scm ou sr gi go ns nr dy pt td tw o) _ := n_boards hG
    rw [xif_neg c2] at hn
    exact PR_mk ab be lg lt sm nb kd ms dr wa re lo hi scm ou sr gi go ns nr dy pt td tw o (Nat.le_refl 1) (Nat.le_refl 6) (w_boards_S rfl hm) rfl hn rfl hP1 ⟨0, rfl, fun q => absurd q (by decide)⟩
end XP1
