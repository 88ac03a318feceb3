/-! NUMBERS of the pair: rooms, portions, what stays within its bounds -/
def PB (nb : Nat) (ms : Nat → Int32) (dr wa : Nat → Int64) : Prop := ∀ i, i < nb → 1 ≤ (ms i).toInt ∧ (ms i).toInt ≤ 1000000 ∧ 0 ≤ (dr i).toInt ∧ 0 ≤ (wa i).toInt ∧ (dr i).toInt + (wa i).toInt ≤ 1000 * (ms i).toInt
theorem i64e {a b : Int64} (h : a.toInt = b.toInt) : a = b := Int64.toInt_inj.mp h
theorem k1000 {k : Int32} : (k.toInt64 * 1000).toInt = k.toInt * 1000 := by
  have h1 := Int32.toInt_lt k
  have h2 := Int32.le_toInt k
  rw [Jvm.Kit.i64_mul (by rw [Jvm.Kit.i64_of_i32, qk]; omega) (by rw [Jvm.Kit.i64_of_i32, qk]; omega), Jvm.Kit.i64_of_i32, qk]
theorem ip_i {k w : Int32} : (¬ s_ip k w = 0) ↔ okP k w := by
  have a1 := in_i (v := k.toInt64) (a := 0) (z := 1000000)
  have a2 := in_i (v := w.toInt64) (a := 0) (z := 1000)
  rw [Jvm.Kit.i64_of_i32, q0, qM] at a1
  rw [Jvm.Kit.i64_of_i32, q0, qk] at a2
  unfold okP s_ip
  simp only [Int32.lt_iff_toInt_lt, Int32.le_iff_toInt_le, l0, lM, lk]
  by_cases c1 : s_in k.toInt64 0 1000000 = 0
  · rw [if_pos c1]
    constructor
    · intro q; exact absurd rfl q
    · intro q; exact absurd c1 (a1.mpr (by omega))
  · rw [if_neg c1]
    have b1 := a1.mp c1
    by_cases c2 : s_in w.toInt64 0 1000 = 0
    · rw [if_pos c2]
      constructor
      · intro q; exact absurd rfl q
      · intro q; exact absurd c2 (a2.mpr (by omega))
    · rw [if_neg c2]
      have b2 := a2.mp c2
      exact ⟨fun _ => by omega, fun _ => by decide⟩
theorem okP_b {k w : Int32} (h : okP k w) : 0 ≤ k.toInt ∧ k.toInt ≤ 1000000 ∧ 0 ≤ w.toInt ∧ w.toInt ≤ 1000 := by
  unfold okP at h
  simp only [Int32.lt_iff_toInt_lt, Int32.le_iff_toInt_le, l0, lM, lk] at h
  omega
theorem hr_mr {kd lo hi ms : Nat → Int32} {dr wa re : Nat → Int64} {m : Nat} {k : Int32} (hm : m < 8) : s_mr (fun i => (ms i).toInt64) dr wa (nI m) k.toInt64 = s_hr (kd m, ms m, dr m, wa m, re m, lo m, hi m) k := by
  unfold s_mr s_hr s_al s_gr
  rw [nI_c hm]
  show (if 1000 * (ms m).toInt64 < dr m + wa m + 1000 * k.toInt64 then (0 : Int32) else 1) = if (ms m).toInt64 * 1000 < dr m + wa m + k.toInt64 * 1000 then 0 else 1
  rw [Int64.mul_comm 1000 (ms m).toInt64, Int64.mul_comm 1000 k.toInt64]
/-- what a bin with room has when something was poured into it -/
theorem b_pour {kd lo hi : Int32} {re : Int64} {ms k w : Int32} {d a : Int64} (h1 : 1 ≤ ms.toInt) (h2 : ms.toInt ≤ 1000000) (h3 : 0 ≤ d.toInt) (h4 : 0 ≤ a.toInt) (h5 : d.toInt + a.toInt ≤ 1000 * ms.toInt) (k1 : 0 ≤ k.toInt) (k2 : k.toInt ≤ 1000000) (w1 : 0 ≤ w.toInt) (w2 : w.toInt ≤ 1000) (hr : ¬ s_hr (kd, ms, d, a, re, lo, hi) k = 0) :
    0 ≤ (d + k.toInt64 * (1000 - w).toInt64).toInt ∧ 0 ≤ (a + k.toInt64 * w.toInt64).toInt ∧ (d + k.toInt64 * (1000 - w).toInt64).toInt + (a + k.toInt64 * w.toInt64).toInt ≤ 1000 * ms.toInt := by
  have hr2 : ¬ ms.toInt64 * 1000 < d + a + k.toInt64 * 1000 := by
    intro q
    refine hr ?_
    unfold s_hr s_gr
    exact if_pos q
  have e1 : (d + a).toInt = d.toInt + a.toInt := Jvm.Kit.i64_add (by omega) (by omega)
  rw [Int64.lt_iff_toInt_lt, k1000, Jvm.Kit.i64_add (by rw [e1, k1000]; omega) (by rw [e1, k1000]; omega), e1, k1000] at hr2
  have e2 : (1000 - w).toInt = 1000 - w.toInt := by rw [Jvm.Kit.i32_sub (by rw [lk]; omega) (by rw [lk]; omega), lk]
  have f1 : k.toInt * (1000 - w.toInt) = 1000 * k.toInt - k.toInt * w.toInt := by rw [Int.mul_sub]; omega
  have f2 : 0 ≤ k.toInt * w.toInt := Int.mul_nonneg k1 w1
  have f3 : 0 ≤ k.toInt * (1000 - w.toInt) := Int.mul_nonneg k1 (by omega)
  have e3 : (k.toInt64 * w.toInt64).toInt = k.toInt * w.toInt := by
    rw [Jvm.Kit.i64_mul (by rw [Jvm.Kit.i64_of_i32, Jvm.Kit.i64_of_i32]; omega) (by rw [Jvm.Kit.i64_of_i32, Jvm.Kit.i64_of_i32]; omega), Jvm.Kit.i64_of_i32, Jvm.Kit.i64_of_i32]
  have e4 : (k.toInt64 * (1000 - w).toInt64).toInt = k.toInt * (1000 - w.toInt) := by
    rw [Jvm.Kit.i64_mul (by rw [Jvm.Kit.i64_of_i32, Jvm.Kit.i64_of_i32, e2]; omega) (by rw [Jvm.Kit.i64_of_i32, Jvm.Kit.i64_of_i32, e2]; omega), Jvm.Kit.i64_of_i32, Jvm.Kit.i64_of_i32, e2]
  rw [Jvm.Kit.i64_add (by rw [e4]; omega) (by rw [e4]; omega), Jvm.Kit.i64_add (by rw [e3]; omega) (by rw [e3]; omega), e3, e4]
  omega
theorem PB_pour {nb m : Nat} {ms kd lo hi : Nat → Int32} {dr wa re : Nat → Int64} {k w : Int32} (hB : PB nb ms dr wa) (hm : m < nb) (k1 : 0 ≤ k.toInt) (k2 : k.toInt ≤ 1000000) (w1 : 0 ≤ w.toInt) (w2 : w.toInt ≤ 1000) (hr : ¬ s_hr (kd m, ms m, dr m, wa m, re m, lo m, hi m) k = 0) : PB nb ms (vp_updL dr m (dr m + k.toInt64 * (1000 - w).toInt64)) (vp_updL wa m (wa m + k.toInt64 * w.toInt64)) := by
  intro i hi
  unfold vp_updL
  by_cases c : i = m
  · subst c
    rw [if_pos rfl, if_pos rfl]
    obtain ⟨h1, h2, h3, h4, h5⟩ := hB i hi
    obtain ⟨g1, g2, g3⟩ := b_pour h1 h2 h3 h4 h5 k1 k2 w1 w2 hr
    exact ⟨h1, h2, g1, g2, g3⟩
  · rw [if_neg c, if_neg c]
    exact hB i hi
theorem PE_upd {nb m : Nat} {dr wa re : Nat → Int64} {x z : Int64} (hm : m < nb) (h : ∀ i, nb ≤ i → i < 8 → dr i = 0 ∧ wa i = 0 ∧ re i = -1) : ∀ i, nb ≤ i → i < 8 → vp_updL dr m x i = 0 ∧ vp_updL wa m z i = 0 ∧ re i = -1 := by
  intro i h1 h2
  unfold vp_updL
  rw [if_neg (by omega), if_neg (by omega)]
  exact h i h1 h2
/-! taking: the water of k kilograms -/
theorem b_take {ms k : Int32} {d a : Int64} (h2 : ms.toInt ≤ 1000000) (h3 : 0 ≤ d.toInt) (h4 : 0 ≤ a.toInt) (h5 : d.toInt + a.toInt ≤ 1000 * ms.toInt) (k1 : 1 ≤ k.toInt) (k2 : k.toInt ≤ 1000000) (hr : 1000 * k.toInt ≤ d.toInt + a.toInt) :
    0 ≤ (a * (1000 * k.toInt64) / (d + a)).toInt ∧ (a * (1000 * k.toInt64) / (d + a)).toInt ≤ a.toInt ∧ (a * (1000 * k.toInt64) / (d + a)).toInt ≤ 1000 * k.toInt ∧ 1000 * k.toInt - (a * (1000 * k.toInt64) / (d + a)).toInt ≤ d.toInt ∧ (1000 * k.toInt64 - a * (1000 * k.toInt64) / (d + a)).toInt = 1000 * k.toInt - (a * (1000 * k.toInt64) / (d + a)).toInt := by
  have e1 : (d + a).toInt = d.toInt + a.toInt := Jvm.Kit.i64_add (by omega) (by omega)
  have e2 := k_mul (k := k) (by omega) k2
  have f1 : 0 ≤ a.toInt * (1000 * k.toInt) := Int.mul_nonneg h4 (by omega)
  have f2 : a.toInt * (1000 * k.toInt) ≤ 1000000000 * (1000 * k.toInt) := Int.mul_le_mul_of_nonneg_right (by omega) (by omega)
  have e3 : (a * (1000 * k.toInt64)).toInt = a.toInt * (1000 * k.toInt) := by
    rw [Jvm.Kit.i64_mul (by rw [e2]; omega) (by rw [e2]; omega), e2]
  have e4 : (a * (1000 * k.toInt64) / (d + a)).toInt = a.toInt * (1000 * k.toInt) / (d.toInt + a.toInt) := by
    rw [Jvm.Kit.i64_div (by rw [e1, e3]; omega), e1, e3, Int.tdiv_eq_ediv_of_nonneg f1]
  have g1 : 0 ≤ a.toInt * (1000 * k.toInt) / (d.toInt + a.toInt) := Int.ediv_nonneg f1 (by omega)
  have g2 : a.toInt * (1000 * k.toInt) / (d.toInt + a.toInt) ≤ a.toInt := by
    apply Int.ediv_le_of_le_mul (by omega)
    exact Int.mul_le_mul_of_nonneg_left hr h4
  have g3 : a.toInt * (1000 * k.toInt) / (d.toInt + a.toInt) ≤ 1000 * k.toInt := by
    apply Int.ediv_le_of_le_mul (by omega)
    rw [Int.mul_comm]
    exact Int.mul_le_mul_of_nonneg_left (by omega) (by omega)
  have g4 : 1000 * k.toInt - d.toInt ≤ a.toInt * (1000 * k.toInt) / (d.toInt + a.toInt) := by
    apply Int.le_ediv_of_mul_le (by omega)
    have p1 : d.toInt * (1000 * k.toInt) ≤ d.toInt * (d.toInt + a.toInt) := Int.mul_le_mul_of_nonneg_left hr h3
    rw [Int.sub_mul, Int.mul_comm (1000 * k.toInt) (d.toInt + a.toInt), Int.add_mul]
    omega
  rw [e4]
  refine ⟨g1, g2, g3, by omega, ?_⟩
  rw [Jvm.Kit.i64_sub (by rw [e2, e4]; omega) (by rw [e2, e4]; omega), e2, e4]
theorem PB_take {nb m : Nat} {ms : Nat → Int32} {dr wa : Nat → Int64} {k : Int32} (hB : PB nb ms dr wa) (hm : m < nb) (k1 : 1 ≤ k.toInt) (k2 : k.toInt ≤ 1000000) (hr : 1000 * k.toInt ≤ (dr m).toInt + (wa m).toInt) : PB nb ms (vp_updL dr m (dr m - (1000 * k.toInt64 - wa m * (1000 * k.toInt64) / (dr m + wa m)))) (vp_updL wa m (wa m - wa m * (1000 * k.toInt64) / (dr m + wa m))) := by
  intro i hi
  unfold vp_updL
  by_cases c : i = m
  · subst c
    rw [if_pos rfl, if_pos rfl]
    obtain ⟨h1, h2, h3, h4, h5⟩ := hB i hi
    obtain ⟨g1, g2, g3, g4, g5⟩ := b_take h2 h3 h4 h5 k1 k2 hr
    rw [Jvm.Kit.i64_sub (x := dr i) (by rw [g5]; omega) (by rw [g5]; omega), Jvm.Kit.i64_sub (x := wa i) (by omega) (by omega), g5]
    exact ⟨h1, h2, by omega, by omega, by omega⟩
  · rw [if_neg c, if_neg c]
    exact hB i hi
/-- there is enough: class and reference ask alike -/
theorem ha_i {kd lo hi ms : Nat → Int32} {dr wa re : Nat → Int64} {m : Nat} {k : Int32} (hm : m < 8) : (¬ s_ha dr wa (nI m) k = 0) ↔ okE (kd m, ms m, dr m, wa m, re m, lo m, hi m) k := by
  unfold s_ha okE s_al s_gr
  rw [nI_c hm]
  show (¬ (if dr m + wa m < 1000 * k.toInt64 then (0 : Int32) else 1) = 0) ↔ k.toInt64 * 1000 ≤ dr m + wa m
  rw [Int64.mul_comm 1000 k.toInt64, ← Int64.not_lt]
  by_cases c : dr m + wa m < k.toInt64 * 1000
  · rw [if_pos c]; exact ⟨fun q => absurd rfl q, fun q => absurd c q⟩
  · rw [if_neg c]; exact ⟨fun _ => c, fun _ => by decide⟩
theorem okE_b {kd lo hi ms : Int32} {d a re : Int64} {k : Int32} (h2 : ms.toInt ≤ 1000000) (h3 : 0 ≤ d.toInt) (h4 : 0 ≤ a.toInt) (h5 : d.toInt + a.toInt ≤ 1000 * ms.toInt) (h : okE (kd, ms, d, a, re, lo, hi) k) : 1000 * k.toInt ≤ d.toInt + a.toInt := by
  unfold okE s_gr at h
  rw [Int64.le_iff_toInt_le, k1000] at h
  have h' : k.toInt * 1000 ≤ (d + a).toInt := h
  rw [Jvm.Kit.i64_add (by omega) (by omega)] at h'
  omega
theorem wi_e {kd lo hi ms : Int32} {d a re : Int64} {k : Int32} (h : 1 ≤ (d + a).toInt) : s_wi (kd, ms, d, a, re, lo, hi) k = a * (1000 * k.toInt64) / (d + a) := by
  unfold s_wi s_po s_gr
  show (if 1 ≤ d + a then a * (k.toInt64 * 1000) / (d + a) else 0) = _
  rw [if_pos (by rw [Int64.le_iff_toInt_le, q1]; exact h), Int64.mul_comm k.toInt64 1000]
theorem di_e {kd lo hi ms : Int32} {d a re : Int64} {k : Int32} (h : 1 ≤ (d + a).toInt) : s_di (kd, ms, d, a, re, lo, hi) k = 1000 * k.toInt64 - a * (1000 * k.toInt64) / (d + a) := by
  unfold s_di
  rw [wi_e h, Int64.mul_comm k.toInt64 1000]
/-! sums and rows -/
theorem su_e {bn : Nat → cB} {dr : Nat → Int64} (hb : ∀ i, (bn i).2.2.1 = dr i) {nb : Nat} (hn : nb ≤ 8) (h0 : ∀ i, nb ≤ i → i < 8 → dr i = 0) : ∀ (n i : Nat) (acc : Int64), i + n = 8 → s_su bn n i acc = s_mu dr (nb - i) i acc := by
  intro n
  induction n with
  | zero =>
    intro i acc hi
    rw [show nb - i = 0 by omega]
    rfl
  | succ n ih =>
    intro i acc hi
    unfold s_su
    rw [ih (i + 1) _ (by omega), hb]
    by_cases c : i < nb
    · rw [show nb - i = (nb - (i + 1)) + 1 by omega]
      conv => rhs; unfold s_mu
      rw [nI_c (by omega)]
    · rw [show nb - i = 0 by omega, show nb - (i + 1) = 0 by omega]
      unfold s_mu
      rw [h0 i (by omega) (by omega), Int64.add_zero]
theorem gl_e {bn : Nat → cB} {dr wa re : Nat → Int64} (hb : ∀ i, s_gr (bn i) = dr i + wa i ∧ (bn i).2.2.2.2.1 = re i) {nb : Nat} (hn : nb ≤ 8) (h0 : ∀ i, nb ≤ i → i < 8 → re i = -1) : ∀ (n i : Nat) (acc : Int64), i + n = 8 → s_gl bn n i acc = s_ml re dr wa (nb - i) i acc := by
  intro n
  induction n with
  | zero =>
    intro i acc hi
    rw [show nb - i = 0 by omega]
    rfl
  | succ n ih =>
    intro i acc hi
    unfold s_gl
    rw [ih (i + 1) _ (by omega), (hb i).1, (hb i).2]
    by_cases c : i < nb
    · rw [show nb - i = (nb - (i + 1)) + 1 by omega]
      conv => rhs; unfold s_ml
      unfold s_al
      rw [nI_c (by omega)]
      by_cases c2 : re i = -1
      · rw [if_pos c2, if_pos c2]
      · rw [if_neg c2, if_neg c2]
        simp only [Int64.sub_eq_add_neg, Int64.add_assoc]
    · rw [show nb - i = 0 by omega, show nb - (i + 1) = 0 by omega]
      unfold s_ml
      rw [if_pos (h0 i (by omega) (by omega))]
theorem pl_e {dy pt : Nat → Int32} {d : Int32} {nr : Nat} (hn : nr ≤ 8) : ∀ (n i : Nat) (acc : Int32), i + n = 8 → (s_pl (nI nr) dy pt d n i acc).toInt64 = s_mp dy pt d (nr - i) i acc.toInt64 := by
  intro n
  induction n with
  | zero =>
    intro i acc hi
    rw [show nr - i = 0 by omega]
    rfl
  | succ n ih =>
    intro i acc hi
    unfold s_pl
    by_cases c : i < nr
    · rw [if_neg (by rw [Int32.le_iff_toInt_le, nI_ti (by omega), nI_ti (by omega)]; omega), ih (i + 1) _ (by omega), show nr - i = (nr - (i + 1)) + 1 by omega]
      conv => rhs; unfold s_mp
      by_cases c2 : d < dy (nI i).toNatClampNeg
      · rw [if_pos c2, if_pos c2]
      · rw [if_neg c2, if_neg c2]
    · rw [if_pos (by rw [Int32.le_iff_toInt_le, nI_ti (by omega), nI_ti (by omega)]; omega), show nr - i = 0 by omega]
      rfl
theorem pl_b {dy pt : Nat → Int32} {d : Int32} {nr : Nat} (hn : nr ≤ 8) (hp : ∀ i, i < nr → 0 ≤ (pt i).toInt ∧ (pt i).toInt ≤ 200) : ∀ (n i : Nat) (acc : Int32), i + n = 8 → 0 ≤ acc.toInt → acc.toInt ≤ 200 → 0 ≤ (s_pl (nI nr) dy pt d n i acc).toInt ∧ (s_pl (nI nr) dy pt d n i acc).toInt ≤ 200 := by
  intro n
  induction n with
  | zero =>
    intro i acc hi a1 a2
    exact ⟨a1, a2⟩
  | succ n ih =>
    intro i acc hi a1 a2
    unfold s_pl
    by_cases c : i < nr
    · rw [if_neg (by rw [Int32.le_iff_toInt_le, nI_ti (by omega), nI_ti (by omega)]; omega)]
      by_cases c2 : d < dy (nI i).toNatClampNeg
      · rw [if_pos c2]; exact ih _ _ (by omega) a1 a2
      · rw [if_neg c2]
        have := hp i c
        rw [nI_c (by omega)]
        exact ih _ _ (by omega) this.1 this.2
    · rw [if_pos (by rw [Int32.le_iff_toInt_le, nI_ti (by omega), nI_ti (by omega)]; omega)]
      exact ⟨a1, a2⟩
/-- heat: cut at 0 before or after the percent -/
theorem he_e {x z : Int64} {p : Int32} (x1 : 0 ≤ x.toInt) (x2 : x.toInt ≤ 1000000000) (z1 : 0 ≤ z.toInt) (z2 : z.toInt ≤ 1000000000) (p1 : 0 ≤ p.toInt) (p2 : p.toInt ≤ 200) : (if 0 ≤ (x * 19 - z * 3) * p.toInt64 / 100 then (x * 19 - z * 3) * p.toInt64 / 100 else 0) = s_mt x z p.toInt64 := by
  have e1 : (x * 19).toInt = x.toInt * 19 := by rw [Jvm.Kit.i64_mul (by rw [q19]; omega) (by rw [q19]; omega), q19]
  have e2 : (z * 3).toInt = z.toInt * 3 := by rw [Jvm.Kit.i64_mul (by rw [q3]; omega) (by rw [q3]; omega), q3]
  have e3 : (x * 19 - z * 3).toInt = x.toInt * 19 - z.toInt * 3 := by rw [Jvm.Kit.i64_sub (by rw [e1, e2]; omega) (by rw [e1, e2]; omega), e1, e2]
  unfold s_mt
  by_cases c : 0 ≤ x * 19 - z * 3
  · rw [if_pos c]
    rw [Int64.le_iff_toInt_le, q0, e3] at c
    have m1 : 0 ≤ (x.toInt * 19 - z.toInt * 3) * p.toInt := Int.mul_nonneg c p1
    have m2 : (x.toInt * 19 - z.toInt * 3) * p.toInt ≤ (x.toInt * 19 - z.toInt * 3) * 200 := Int.mul_le_mul_of_nonneg_left p2 c
    have e4 : ((x * 19 - z * 3) * p.toInt64).toInt = (x.toInt * 19 - z.toInt * 3) * p.toInt := by
      rw [Jvm.Kit.i64_mul (by rw [e3, Jvm.Kit.i64_of_i32]; omega) (by rw [e3, Jvm.Kit.i64_of_i32]; omega), e3, Jvm.Kit.i64_of_i32]
    rw [if_pos]
    rw [Int64.le_iff_toInt_le, q0, Jvm.Kit.i64_div (by rw [e4, q100]; omega), e4, q100, Int.tdiv_eq_ediv_of_nonneg m1]
    omega
  · rw [if_neg c]
    rw [Int64.le_iff_toInt_le, q0, e3] at c
    have m1 : 0 ≤ (z.toInt * 3 - x.toInt * 19) * p.toInt := Int.mul_nonneg (by omega) p1
    have m2 : (z.toInt * 3 - x.toInt * 19) * p.toInt ≤ (z.toInt * 3 - x.toInt * 19) * 200 := Int.mul_le_mul_of_nonneg_left p2 (by omega)
    have m3 : (x.toInt * 19 - z.toInt * 3) * p.toInt = - ((z.toInt * 3 - x.toInt * 19) * p.toInt) := by rw [← Int.neg_mul]; congr 1; omega
    have e4 : ((x * 19 - z * 3) * p.toInt64).toInt = - ((z.toInt * 3 - x.toInt * 19) * p.toInt) := by
      rw [Jvm.Kit.i64_mul (by rw [e3, Jvm.Kit.i64_of_i32, m3]; omega) (by rw [e3, Jvm.Kit.i64_of_i32, m3]; omega), e3, Jvm.Kit.i64_of_i32, m3]
    have e5 : ((x * 19 - z * 3) * p.toInt64 / 100).toInt = - ((z.toInt * 3 - x.toInt * 19) * p.toInt / 100) := by
      rw [Jvm.Kit.i64_div (by rw [e4, q100]; omega), e4, q100, Int.neg_tdiv, Int.tdiv_eq_ediv_of_nonneg m1]
    by_cases c2 : 0 ≤ (x * 19 - z * 3) * p.toInt64 / 100
    · rw [if_pos c2]
      rw [Int64.le_iff_toInt_le, q0, e5] at c2
      refine i64e ?_
      rw [e5, q0]
      omega
    · rw [if_neg c2]

/-! a log: both ways to take a share agree, for all is a multiple of what every share's lower number divides -/
theorem d_25200 {b : Int} (h1 : 1 ≤ b) (h2 : b ≤ 10) : ∃ c, 25200 = b * c ∧ 0 ≤ c ∧ c ≤ 25200 := by
  have : b = 1 ∨ b = 2 ∨ b = 3 ∨ b = 4 ∨ b = 5 ∨ b = 6 ∨ b = 7 ∨ b = 8 ∨ b = 9 ∨ b = 10 := by omega
  rcases this with h | h | h | h | h | h | h | h | h | h <;> subst h
  · exact ⟨25200, by decide⟩
  · exact ⟨12600, by decide⟩
  · exact ⟨8400, by decide⟩
  · exact ⟨6300, by decide⟩
  · exact ⟨5040, by decide⟩
  · exact ⟨4200, by decide⟩
  · exact ⟨3600, by decide⟩
  · exact ⟨3150, by decide⟩
  · exact ⟨2800, by decide⟩
  · exact ⟨2520, by decide⟩
theorem po_e {w : Int64} {a b : Int32} {W : Int} (hw : w.toInt = 25200 * W) (w1 : 0 ≤ W) (w2 : W ≤ 2520000) (b1 : 1 ≤ b.toInt) (b2 : b.toInt ≤ 10) (a1 : 0 ≤ a.toInt) (a2 : a.toInt ≤ b.toInt) : s_po w a.toInt64 b.toInt64 = w / b.toInt64 * a.toInt64 ∧ ∃ c, 25200 = b.toInt * c ∧ (w / b.toInt64 * a.toInt64).toInt = c * W * a.toInt ∧ c * W * a.toInt ≤ 25200 * W := by
  obtain ⟨c, hc, c1, c2⟩ := d_25200 b1 b2
  have hw2 : w.toInt = b.toInt * (c * W) := by rw [hw, hc, Int.mul_assoc]
  have n1 : 0 ≤ c * W := Int.mul_nonneg c1 w1
  have n2 : 0 ≤ c * W * a.toInt := Int.mul_nonneg n1 a1
  have n3 : c * W * a.toInt ≤ c * W * b.toInt := Int.mul_le_mul_of_nonneg_left a2 n1
  have n4 : c * W * b.toInt = 25200 * W := by rw [Int.mul_comm (c * W), ← hw2, hw]
  have n5 : c * W * a.toInt ≤ 63504000000 := by omega
  have n6 : c * W ≤ 63504000000 := by
    have : c * W ≤ 25200 * W := Int.mul_le_mul_of_nonneg_right c2 w1
    omega
  have n7 : w.toInt * a.toInt = b.toInt * (c * W * a.toInt) := by rw [hw2, Int.mul_assoc]
  have n8 : w.toInt * a.toInt ≤ w.toInt * 10 := Int.mul_le_mul_of_nonneg_left (by omega) (by omega)
  have n9 : 0 ≤ w.toInt * a.toInt := Int.mul_nonneg (by omega) a1
  have e1 : (w / b.toInt64).toInt = c * W := by
    rw [Jvm.Kit.i64_div (by rw [Jvm.Kit.i64_of_i32]; omega), Jvm.Kit.i64_of_i32, Int.tdiv_eq_ediv_of_nonneg (by omega), hw2, Int.mul_ediv_cancel_left _ (by omega)]
  have e2 : (w / b.toInt64 * a.toInt64).toInt = c * W * a.toInt := by
    rw [Jvm.Kit.i64_mul (by rw [e1, Jvm.Kit.i64_of_i32]; omega) (by rw [e1, Jvm.Kit.i64_of_i32]; omega), e1, Jvm.Kit.i64_of_i32]
  have e3 : (w * a.toInt64).toInt = w.toInt * a.toInt := by
    rw [Jvm.Kit.i64_mul (by rw [Jvm.Kit.i64_of_i32]; omega) (by rw [Jvm.Kit.i64_of_i32]; omega), Jvm.Kit.i64_of_i32]
  refine ⟨?_, c, hc, e2, by omega⟩
  unfold s_po
  rw [if_pos (by rw [Int64.le_iff_toInt_le, q1, Jvm.Kit.i64_of_i32]; omega)]
  refine i64e ?_
  rw [e2, Jvm.Kit.i64_div (by rw [e3, Jvm.Kit.i64_of_i32]; omega), e3, Jvm.Kit.i64_of_i32, Int.tdiv_eq_ediv_of_nonneg n9, n7, Int.mul_ediv_cancel_left _ (by omega)]
theorem lw_e {v : Int32} : s_lw v = 63504000 * v.toInt64 := Int64.mul_comm _ _
theorem lg_e {v b k : Int32} {ab be : Nat → Int32} (v1 : 1 ≤ v.toInt) (v2 : v.toInt ≤ 1000) (b1 : 0 ≤ b.toInt) (k1 : 0 ≤ k.toInt) (h0 : 1 ≤ (be 0).toInt ∧ (be 0).toInt ≤ 10 ∧ 0 ≤ (ab 0).toInt ∧ (ab 0).toInt ≤ (be 0).toInt) (h1 : 1 ≤ (be 1).toInt ∧ (be 1).toInt ≤ 10 ∧ 0 ≤ (ab 1).toInt ∧ (ab 1).toInt ≤ (be 1).toInt) :
    s_lb (ab 0, be 0) v = s_kb ab be v ∧ s_ll (ab 0, be 0) v b k = s_kl ab be v b k ∧ (0 ≤ s_kl ab be v b k → s_lp (ab 0, be 0) (ab 1, be 1) v b k = (s_kb ab be v, s_kl ab be v b k - s_ko ab be v b k, 25200 * k.toInt64, s_ko ab be v b k, 25200 * b.toInt64)) := by
  have b2 := Int32.toInt_lt b
  have k2 := Int32.toInt_lt k
  have e1 : (63504000 * v.toInt64).toInt = 25200 * (2520 * v.toInt) := by
    rw [Jvm.Kit.i64_mul (by rw [Jvm.Kit.i64_of_i32, qF]; omega) (by rw [Jvm.Kit.i64_of_i32, qF]; omega), Jvm.Kit.i64_of_i32, qF]; omega
  obtain ⟨f1, c, hc, f2, f3⟩ := po_e (a := ab 0) (b := be 0) e1 (by omega) (by omega) h0.1 h0.2.1 h0.2.2.1 h0.2.2.2
  have g1 : s_lb (ab 0, be 0) v = s_kb ab be v := by
    unfold s_lb s_kb
    rw [lw_e]
    exact f1
  have g2 : s_ll (ab 0, be 0) v b k = s_kl ab be v b k := by
    unfold s_ll s_kl
    rw [g1, lw_e]
    grind
  refine ⟨g1, g2, fun hl => ?_⟩
  obtain ⟨c', hc', -, -⟩ := d_25200 h0.1 h0.2.1
  have hcc : c = c' := Int.eq_of_mul_eq_mul_left (by omega) (hc.symm.trans hc')
  have kb1 : (s_kb ab be v).toInt = c * (2520 * v.toInt) * (ab 0).toInt := f2
  have kb2 : ∃ q, (s_kb ab be v).toInt = 25200 * q ∧ 0 ≤ q ∧ q ≤ 2520000 := by
    have hd : ∃ d, 2520 = (be 0).toInt * d ∧ 0 ≤ d := by
      have : (be 0).toInt = 1 ∨ (be 0).toInt = 2 ∨ (be 0).toInt = 3 ∨ (be 0).toInt = 4 ∨ (be 0).toInt = 5 ∨ (be 0).toInt = 6 ∨ (be 0).toInt = 7 ∨ (be 0).toInt = 8 ∨ (be 0).toInt = 9 ∨ (be 0).toInt = 10 := by omega
      rcases this with h | h | h | h | h | h | h | h | h | h <;> rw [h]
      · exact ⟨2520, by decide⟩
      · exact ⟨1260, by decide⟩
      · exact ⟨840, by decide⟩
      · exact ⟨630, by decide⟩
      · exact ⟨504, by decide⟩
      · exact ⟨420, by decide⟩
      · exact ⟨360, by decide⟩
      · exact ⟨315, by decide⟩
      · exact ⟨280, by decide⟩
      · exact ⟨252, by decide⟩
    obtain ⟨d, hd, d1⟩ := hd
    have hcd : c = 10 * d := by
      refine Int.eq_of_mul_eq_mul_left (a := (be 0).toInt) (by omega) ?_
      rw [← hc, Int.mul_comm 10 d, ← Int.mul_assoc, ← hd]
      decide
    have n0 : 0 ≤ d * v.toInt * (ab 0).toInt := Int.mul_nonneg (Int.mul_nonneg d1 (by omega)) h0.2.2.1
    have n1 : c * (2520 * v.toInt) * (ab 0).toInt = 25200 * (d * v.toInt * (ab 0).toInt) := by
      rw [hcd]
      grind
    refine ⟨d * v.toInt * (ab 0).toInt, by rw [kb1, n1], n0, ?_⟩
    omega
  obtain ⟨q, hq, hq1, hq2⟩ := kb2
  have e2 : (25200 * (b.toInt64 + k.toInt64)).toInt = 25200 * (b.toInt + k.toInt) := by
    have e3 : (b.toInt64 + k.toInt64).toInt = b.toInt + k.toInt := by
      rw [Jvm.Kit.i64_add (by rw [Jvm.Kit.i64_of_i32, Jvm.Kit.i64_of_i32]; omega) (by rw [Jvm.Kit.i64_of_i32, Jvm.Kit.i64_of_i32]; omega), Jvm.Kit.i64_of_i32, Jvm.Kit.i64_of_i32]
    rw [Jvm.Kit.i64_mul (by rw [e3, qf]; omega) (by rw [e3, qf]; omega), e3, qf]
  have e4 : (63504000 * v.toInt64 - s_kb ab be v).toInt = 25200 * (2520 * v.toInt) - 25200 * q := by
    rw [Jvm.Kit.i64_sub (by rw [e1, hq]; omega) (by rw [e1, hq]; omega), e1, hq]
  have e5 : (s_kl ab be v b k).toInt = 25200 * (2520 * v.toInt - q - (b.toInt + k.toInt)) := by
    unfold s_kl
    rw [Jvm.Kit.i64_sub (by rw [e4, e2]; omega) (by rw [e4, e2]; omega), e4, e2]
    omega
  rw [Int64.le_iff_toInt_le, q0, e5] at hl
  obtain ⟨p1, -⟩ := po_e (a := ab 1) (b := be 1) e5 (by omega) (by omega) h1.1 h1.2.1 h1.2.2.1 h1.2.2.2
  unfold s_lp
  rw [g1, g2]
  show (_, _ - s_po (s_kl ab be v b k) (ab 1).toInt64 (be 1).toInt64, _, s_po (s_kl ab be v b k) (ab 1).toInt64 (be 1).toInt64, _) = _
  rw [p1, Int64.mul_comm k.toInt64, Int64.mul_comm b.toInt64]
  rfl
