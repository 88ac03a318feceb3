/-! THE PAIR: one picture of class and reference side by side, and what is kept from call to call -/
def pq (th : Int32) (ab be : Nat → Int32) (lg : Int32) (lt sm : Nat → Int64) (nb : Nat) (kd ms : Nat → Int32) (dr wa re : Nat → Int64) (lo hi scm ou sr : Nat → Int32) (gi go : Int64) (ns nr : Nat) (dy pt : Nat → Int32) (td tw : Int64) (o : Nat → Int64) : List va_E :=
  ch (ab 0, be 0) (ab 1, be 1) (lt 0, lt 1, lt 2, lt 3, lt 4) (sm 0, sm 1, sm 2, sm 3, sm 4) lg (nI nb) gi go (nI ns) (fun i => (kd i, ms i, dr i, wa i, re i, lo i, hi i)) (fun i => (scm i, ou (3 * i), ou (3 * i + 1), ou (3 * i + 2), sr (3 * i + 1), sr (3 * i + 2))) (nI nr) dy pt (mh th ab be lg lt sm (nI nb) kd (fun i => (ms i).toInt64) dr wa re lo hi scm ou sr gi go (nI ns).toInt64 (nI nr) dy pt td tw [oc_ o])
def PI (j : Nat) (ab be : Nat → Int32) (nb : Nat) (ms : Nat → Int32) (dr wa re : Nat → Int64) (scm ou sr : Nat → Int32) (ns nr : Nat) (pt : Nat → Int32) : Prop :=
  (∀ t, t < 2 → 1 ≤ (be t).toInt ∧ (be t).toInt ≤ 10 ∧ 0 ≤ (ab t).toInt ∧ (ab t).toInt ≤ (be t).toInt) ∧ nb ≤ 8 ∧ nr ≤ 8 ∧ ns ≤ j ∧
  (∀ i, i < nb → 1 ≤ (ms i).toInt ∧ (ms i).toInt ≤ 1000000 ∧ 0 ≤ (dr i).toInt ∧ 0 ≤ (wa i).toInt ∧ (dr i).toInt + (wa i).toInt ≤ 1000 * (ms i).toInt) ∧
  (∀ i, nb ≤ i → i < 8 → dr i = 0 ∧ wa i = 0 ∧ re i = -1) ∧
  (∀ i, i < 4 → ¬ scm i = 0 → ∃ x y z : Nat, x < nb ∧ y < nb ∧ z < nb ∧ x ≠ y ∧ y ≠ z ∧ x ≠ z ∧ ou (3 * i) = nI x ∧ ou (3 * i + 1) = nI y ∧ ou (3 * i + 2) = nI z ∧ 0 ≤ (sr (3 * i + 1)).toInt ∧ 0 ≤ (sr (3 * i + 2)).toInt ∧ (sr (3 * i + 1)).toInt + (sr (3 * i + 2)).toInt ≤ 60) ∧
  (∀ i, i < nr → 0 ≤ (pt i).toInt ∧ (pt i).toInt ≤ 200)
def Inv (j : Nat) (h : List va_E) : Prop := ∃ (th : Int32) (ab be : Nat → Int32) (lg : Int32) (lt sm : Nat → Int64) (nb : Nat) (kd ms : Nat → Int32) (dr wa re : Nat → Int64) (lo hi scm ou sr : Nat → Int32) (gi go : Int64) (ns nr : Nat) (dy pt : Nat → Int32) (td tw : Int64) (o : Nat → Int64), PI j ab be nb ms dr wa re scm ou sr ns nr pt ∧ h = pq th ab be lg lt sm nb kd ms dr wa re lo hi scm ou sr gi go ns nr dy pt td tw o
/-- what the answers must be: kind 0 none, 1 an int, 2 a long, 3 a boolean -/
def pA (T : Nat) (code : Int32) (v : Option Value) (o0 : Int64) : Prop := match T with
  | 0 => v = none
  | 1 => ∃ b : Int32, v = some (.int b) ∧ (code = 0 → o0 = b.toInt64)
  | 2 => ∃ b : Int64, v = some (.long b) ∧ (code = 0 → o0 = b)
  | _ => ∃ b : Int32, v = some (.int b) ∧ (code = 0 → o0 = if b = 0 then 0 else 1)
def PR (G : xG) (j : Nat) (yl ym : xY) (al am : List Value) (h : List va_E) (T : Nat) : Prop :=
  ∃ (code : Int32) (h1 h2 : List va_E) (kz : Nat × Nat) (v : Option Value) (o : Nat → Int64) (f1 f2 : List Value), kz.1 ≤ 1 ∧ kz.2 ≤ 6 ∧ XM G yl al (1, h) (.inl (some (.int code)), (0, h1), kz) ∧ h1[22]? = some (.inr (6, f1)) ∧ XM G ym am (1, h1) (.inl v, (0, h2), 0, 0) ∧ XM G Y_Mo_thrown [.ref 22] (1, h2) (.inl (some (.int code)), (1, h2), 0, 0) ∧ h2[22]? = some (.inr (6, f2)) ∧ h2[39]? = some (oc_ o) ∧ Inv (j + 1) h2 ∧ pA T code v (o 0)
theorem PR_mk {G : xG} {j : Nat} {yl ym : xY} {al am : List Value} {h h1 h2 : List va_E} {T : Nat} {kz : Nat × Nat} {v : Option Value} {f1 : List Value} {code : Int32} (ab be : Nat → Int32) (lg : Int32) (lt sm : Nat → Int64) (nb : Nat) (kd ms : Nat → Int32) (dr wa re : Nat → Int64) (lo hi scm ou sr : Nat → Int32) (gi go : Int64) (ns nr : Nat) (dy pt : Nat → Int32) (td tw : Int64) (o : Nat → Int64)
    (k1 : kz.1 ≤ 1) (k2 : kz.2 ≤ 6) (hl : XM G yl al (1, h) (.inl (some (.int code)), (0, h1), kz)) (h22 : h1[22]? = some (.inr (6, f1))) (hn : XM G ym am (1, h1) (.inl v, (0, h2), 0, 0)) (he : h2 = pq code ab be lg lt sm nb kd ms dr wa re lo hi scm ou sr gi go ns nr dy pt td tw o) (hP : PI (j + 1) ab be nb ms dr wa re scm ou sr ns nr pt) (hA : pA T code v (o 0)) : PR G j yl ym al am h T := by
  subst he
  exact ⟨code, h1, _, kz, v, o, f1, _, k1, k2, hl, h22, hn, n_thrown, rfl, rfl, ⟨_, _, _, _, _, _, _, _, _, _, _, _, _, _, _, _, _, _, _, _, _, _, _, _, _, _, hP, rfl⟩, hA⟩
theorem Inv_1 {j : Nat} {h : List va_E} (hI : Inv j h) : ∃ fs gs o, h[0]? = some (.inr (0, fs)) ∧ h[22]? = some (.inr (6, gs)) ∧ h[39]? = some (oc_ o) := by
  obtain ⟨th, ab, be, lg, lt, sm, nb, kd, ms, dr, wa, re, lo, hi, scm, ou, sr, gi, go, ns, nr, dy, pt, td, tw, o, -, rfl⟩ := hI
  exact ⟨_, _, o, rfl, rfl, rfl⟩
theorem PI_up {j j2 : Nat} {ab be : Nat → Int32} {nb : Nat} {ms : Nat → Int32} {dr wa re : Nat → Int64} {scm ou sr : Nat → Int32} {ns nr : Nat} {pt : Nat → Int32} (hj : j ≤ j2) (h : PI j ab be nb ms dr wa re scm ou sr ns nr pt) : PI j2 ab be nb ms dr wa re scm ou sr ns nr pt :=
  ⟨h.1, h.2.1, h.2.2.1, Nat.le_trans h.2.2.2.1 hj, h.2.2.2.2⟩
theorem ch_ext {sa sb : Int32 × Int32} {lt tt : cP} {lg bc : Int32} {gi go : Int64} {sh : Int32} {bn bn2 : Nat → cB} {sc sc2 : Nat → cS} {rw : Int32} {dy pt : Nat → Int32} {R : List va_E} (hb : ∀ i, i < 8 → bn i = bn2 i) (hs : ∀ i, i < 4 → sc i = sc2 i) : ch sa sb lt tt lg bc gi go sh bn sc rw dy pt R = ch sa sb lt tt lg bc gi go sh bn2 sc2 rw dy pt R := by
  unfold ch
  rw [hb 0 (by decide), hb 1 (by decide), hb 2 (by decide), hb 3 (by decide), hb 4 (by decide), hb 5 (by decide), hb 6 (by decide), hb 7 (by decide), hs 0 (by decide), hs 1 (by decide), hs 2 (by decide), hs 3 (by decide)]
/-! numbers -/
theorem in_i {v a z : Int64} : (¬ s_in v a z = 0) ↔ a.toInt ≤ v.toInt ∧ v.toInt ≤ z.toInt := by
  unfold s_in
  by_cases h1 : v < a
  · rw [if_pos h1]
    rw [Int64.lt_iff_toInt_lt] at h1
    exact ⟨fun h => absurd rfl h, fun h => by omega⟩
  · by_cases h2 : z < v
    · rw [if_neg h1, if_pos h2]
      rw [Int64.lt_iff_toInt_lt] at h1 h2
      exact ⟨fun h => absurd rfl h, fun h => by omega⟩
    · rw [if_neg h1, if_neg h2]
      rw [Int64.lt_iff_toInt_lt] at h1 h2
      exact ⟨fun _ => by omega, fun _ => by decide⟩
theorem nI_ti {n : Nat} (h : n < 2147483648) : (nI n).toInt = (n : Int) := nI_toInt (by omega)
theorem ok_of {nb m : Nat} (hn : nb ≤ 8) (hm : m < nb) : okB (nI nb) (nI m) := by
  unfold okB
  simp only [Int32.lt_iff_toInt_lt, Int32.le_iff_toInt_le]
  rw [nI_ti (by omega), nI_ti (by omega), show (0 : Int32).toInt = 0 from by decide, show (8 : Int32).toInt = 8 from by decide]
  omega
theorem of_ok {nb : Nat} {n : Int32} (hn : nb ≤ 8) (h : okB (nI nb) n) : ∃ m, m < nb ∧ n = nI m := by
  obtain ⟨h1, h2, h3⟩ := okB_lt h
  refine ⟨n.toNatClampNeg, ?_, h2⟩
  have h4 := h.2.1
  rw [h2] at h4
  rw [Int32.le_iff_toInt_le, nI_ti (by omega), nI_ti (by omega)] at h4
  omega
theorem nb_of {nb m : Nat} (hn : nb ≤ 8) (hm : m < nb) : s_nb (nI nb) (nI m) = 0 := by
  unfold s_nb
  rw [if_neg, if_pos]
  · rw [Int32.lt_iff_toInt_lt, nI_ti (by omega), nI_ti (by omega)]; omega
  · rw [Int32.lt_iff_toInt_lt, nI_ti (by omega), show (0 : Int32).toInt = 0 from by decide]; omega
theorem of_nb {nb : Nat} {n : Int32} (hn : nb ≤ 8) (h : s_nb (nI nb) n = 0) : ∃ m, m < nb ∧ n = nI m := by
  refine of_ok hn ?_
  unfold s_nb at h
  by_cases h1 : n < 0
  · rw [if_pos h1] at h; exact absurd h (by decide)
  · rw [if_neg h1] at h
    by_cases h2 : n < nI nb
    · rw [Int32.lt_iff_toInt_lt, nI_ti (by omega)] at h2
      refine ⟨h1, ?_, ?_⟩
      · rw [Int32.le_iff_toInt_le, nI_ti (by omega)]; omega
      · rw [Int32.lt_iff_toInt_lt, show (8 : Int32).toInt = 8 from by decide]; omega
    · rw [if_neg h2] at h; exact absurd h (by decide)
theorem nI_c {m : Nat} (h : m < 8) : (nI m).toNatClampNeg = m := nI_clamp (by omega)
theorem nI_inj {a b : Nat} (ha : a < 2147483648) (hb : b < 2147483648) (h : nI a = nI b) : a = b := by
  have := congrArg Int32.toInt h
  rw [nI_ti ha, nI_ti hb] at this
  omega
theorem l0 : (0 : Int32).toInt = 0 := by decide
theorem l1 : (1 : Int32).toInt = 1 := by decide
theorem l3 : (3 : Int32).toInt = 3 := by decide
theorem l4 : (4 : Int32).toInt = 4 := by decide
theorem l5 : (5 : Int32).toInt = 5 := by decide
theorem l8 : (8 : Int32).toInt = 8 := by decide
theorem l10 : (10 : Int32).toInt = 10 := by decide
theorem l60 : (60 : Int32).toInt = 60 := by decide
theorem l200 : (200 : Int32).toInt = 200 := by decide
theorem l365 : (365 : Int32).toInt = 365 := by decide
theorem lk : (1000 : Int32).toInt = 1000 := by decide
theorem lM : (1000000 : Int32).toInt = 1000000 := by decide
theorem q0 : (0 : Int64).toInt = 0 := by decide
theorem q1 : (1 : Int64).toInt = 1 := by decide
theorem q3 : (3 : Int64).toInt = 3 := by decide
theorem q10 : (10 : Int64).toInt = 10 := by decide
theorem q19 : (19 : Int64).toInt = 19 := by decide
theorem q60 : (60 : Int64).toInt = 60 := by decide
theorem q100 : (100 : Int64).toInt = 100 := by decide
theorem q200 : (200 : Int64).toInt = 200 := by decide
theorem q364 : (364 : Int64).toInt = 364 := by decide
theorem qk : (1000 : Int64).toInt = 1000 := by decide
theorem qM : (1000000 : Int64).toInt = 1000000 := by decide
theorem qT : (1000000000000 : Int64).toInt = 1000000000000 := by decide
theorem qF : (63504000 : Int64).toInt = 63504000 := by decide
theorem qf : (25200 : Int64).toInt = 25200 := by decide
