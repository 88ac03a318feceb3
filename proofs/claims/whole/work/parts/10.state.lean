/-! THE STATE: what a picture of the class's objects and of the reference's is -/
abbrev cB : Type := Int32 × Int32 × Int64 × Int64 × Int64 × Int32 × Int32
abbrev cS : Type := Int32 × Int32 × Int32 × Int32 × Int32 × Int32
abbrev cP : Type := Int64 × Int64 × Int64 × Int64 × Int64
/-- a bin: kind, most, dry, water, reading, low, high -/
def bc_ (b : cB) : va_E := .inr (3, [.int b.1, .int b.2.1, .long b.2.2.1, .long b.2.2.2.1, .long b.2.2.2.2.1, .int b.2.2.2.2.2.1, .int b.2.2.2.2.2.2])
/-- a screen: told, bin0, bin1, bin2, share1, share2 -/
def sc_ (c : cS) : va_E := .inr (4, [.int c.1, .int c.2.1, .int c.2.2.1, .int c.2.2.2.1, .int c.2.2.2.2.1, .int c.2.2.2.2.2])
/-- parts: bark, chips, dust, offcuts, boards -/
def pc_ (p : cP) : va_E := .inr (2, [.long p.1, .long p.2.1, .long p.2.2.1, .long p.2.2.2.1, .long p.2.2.2.2])
def fB : Nat → Option Nat := va_up (va_up (va_up (va_up (va_up (va_up (va_up (va_up (fun _ => none) 0 (some 6)) 1 (some 7)) 2 (some 8)) 3 (some 9)) 4 (some 10)) 5 (some 11)) 6 (some 12)) 7 (some 13)
def fS : Nat → Option Nat := va_up (va_up (va_up (va_up (fun _ => none) 0 (some 15)) 1 (some 16)) 2 (some 17)) 3 (some 18)
theorem lt8 {P : Nat → Prop} (h0 : P 0) (h1 : P 1) (h2 : P 2) (h3 : P 3) (h4 : P 4) (h5 : P 5) (h6 : P 6) (h7 : P 7) {i : Nat} (hi : i < 8) : P i := by
  match i, hi with
  | 0, _ => exact h0
  | 1, _ => exact h1
  | 2, _ => exact h2
  | 3, _ => exact h3
  | 4, _ => exact h4
  | 5, _ => exact h5
  | 6, _ => exact h6
  | 7, _ => exact h7
  | i + 8, h => exact absurd h (by omega)
theorem lt4 {P : Nat → Prop} (h0 : P 0) (h1 : P 1) (h2 : P 2) (h3 : P 3) {i : Nat} (hi : i < 4) : P i := by
  match i, hi with
  | 0, _ => exact h0
  | 1, _ => exact h1
  | 2, _ => exact h2
  | 3, _ => exact h3
  | i + 4, h => exact absurd h (by omega)
theorem fB_at {i : Nat} (hi : i < 8) : fB i = some (6 + i) := lt8 (P := fun i => fB i = some (6 + i)) rfl rfl rfl rfl rfl rfl rfl rfl hi
theorem fS_at {i : Nat} (hi : i < 4) : fS i = some (15 + i) := lt4 (P := fun i => fS i = some (15 + i)) rfl rfl rfl rfl hi
/-- the class's objects: places 0 to 21 -/
def ch (sa sb : Int32 × Int32) (lt tt : cP) (lg bc : Int32) (gi go : Int64) (sh : Int32) (bn : Nat → cB) (sc : Nat → cS) (rw : Int32) (dy pt : Nat → Int32) (R : List va_E) : List va_E :=
  .inr (0, [.ref 1, .ref 2, .ref 3, .ref 4, .int lg, .ref 5, .int bc, .ref 14, .ref 19, .long gi, .long go, .int sh]) ::
  .inr (1, [.int sa.1, .int sa.2]) :: .inr (1, [.int sb.1, .int sb.2]) :: pc_ lt :: pc_ tt ::
  .inl (3, 8, .inr (.inr (.inr (.inr fB)))) ::
  bc_ (bn 0) :: bc_ (bn 1) :: bc_ (bn 2) :: bc_ (bn 3) :: bc_ (bn 4) :: bc_ (bn 5) :: bc_ (bn 6) :: bc_ (bn 7) ::
  .inl (4, 4, .inr (.inr (.inr (.inr fS)))) ::
  sc_ (sc 0) :: sc_ (sc 1) :: sc_ (sc 2) :: sc_ (sc 3) ::
  .inr (5, [.int rw, .ref 20, .ref 21]) :: .inl (0, 8, .inl dy) :: .inl (0, 8, .inl pt) :: R
/-- the reference's: places 22 to 38 -/
def mh (th : Int32) (ab be : Nat → Int32) (lg : Int32) (lt sm : Nat → Int64) (bs : Int32) (kd : Nat → Int32) (mo dr wa re : Nat → Int64) (lo hi : Nat → Int32) (sc ou sr : Nat → Int32) (gi go sh : Int64) (rw : Int32) (dy pt : Nat → Int32) (td tw : Int64) (R : List va_E) : List va_E :=
  .inr (6, [.int th, .ref 23, .ref 24, .int lg, .ref 25, .ref 26, .int bs, .ref 27, .ref 28, .ref 29, .ref 30, .ref 31, .ref 32, .ref 33, .ref 34, .ref 35, .ref 36, .long gi, .long go, .long sh, .int rw, .ref 37, .ref 38, .long td, .long tw]) ::
  .inl (0, 2, .inl ab) :: .inl (0, 2, .inl be) :: .inl (1, 5, .inr (.inl lt)) :: .inl (1, 5, .inr (.inl sm)) ::
  .inl (0, 8, .inl kd) :: .inl (1, 8, .inr (.inl mo)) :: .inl (1, 8, .inr (.inl dr)) :: .inl (1, 8, .inr (.inl wa)) :: .inl (1, 8, .inr (.inl re)) ::
  .inl (0, 8, .inl lo) :: .inl (0, 8, .inl hi) :: .inl (2, 4, .inl sc) :: .inl (0, 12, .inl ou) :: .inl (0, 12, .inl sr) :: .inl (0, 8, .inl dy) :: .inl (0, 8, .inl pt) :: R
theorem xset_get {h : List va_E} {p : Nat} {c d : va_E} (hh : h[p]? = some d) : (h.set p c)[p]? = some c := by
  have hl : p < h.length := (List.getElem?_eq_some_iff.mp hh).1
  rw [List.getElem?_set, if_pos rfl, if_pos hl]
/-- the array types of the picture -/
def gTok (G : xG) : Prop := ∃ c0 c1 c2 c3 c4 : ClassId, gT G = [(c0, .int), (c1, .long), (c2, .boolean), (c3, .object "ResidueFlows$Bin"), (c4, .object "ResidueFlows$Screen")]
section XO
variable {G : xG} {y : xY} {pc : Nat} {L : List (Nat × Value)} {st : List Value} {w : xH} {r : xR}
/-- a call of a method that checks: it returns, or throws -/
theorem J_callO {P : Prop} {z : xY} {avs st0 : List Value} {v : Option Value} {E : String} (hg : xGo G y (0, 0) pc L st0 w z avs st) (hz : xwd z ∈ xTw ∧ Cond.initialized z.1.cls ∈ xTw) (hR : xcR z (0, 0) y.2.2.2.2.1) (hst : (st.map fun v => v.category).sum ≤ 8) (hM : (P → XM G z avs (1, w.2) (.inl v, (1, w.2), 0, 0)) ∧ (¬ P → XM G z avs (1, w.2) (.inr E, (0, w.2), 1, 6))) (hhh : y.2.2.2.2.2 = []) (ok : P → JW G y (0, 0) (pc + 3) L (v.toList ++ st) w r) (no : ¬ P → r = (.inr E, (0, w.2), 1, 6)) : JW G y (0, 0) pc L st0 w r := by
  by_cases h : P
  · exact J_callP hg hz hR hst (hM.1 h) (ok h)
  · exact J_callE hg hz hR hst (hM.2 h) hhh (no h)
end XO
theorem XM_if {G : xG} {y : xY} {avs : List Value} {w : xH} {P : Prop} {a b : xR} (h : ∀ r, (P → r = a) → (¬ P → r = b) → XM G y avs w r) : (P → XM G y avs w a) ∧ (¬ P → XM G y avs w b) :=
  ⟨fun p => h a (fun _ => rfl) (fun n => absurd p n), fun n => h b (fun p => absurd p n) (fun _ => rfl)⟩
theorem gt0 {G : xG} (h : gTok G) : ∃ cA, (gT G)[0]? = some (cA, .int) := by obtain ⟨c0, c1, c2, c3, c4, e⟩ := h; rw [e]; exact ⟨_, rfl⟩
theorem gt1 {G : xG} (h : gTok G) : ∃ cA, (gT G)[1]? = some (cA, .long) := by obtain ⟨c0, c1, c2, c3, c4, e⟩ := h; rw [e]; exact ⟨_, rfl⟩
theorem gt2 {G : xG} (h : gTok G) : ∃ cA, (gT G)[2]? = some (cA, .boolean) := by obtain ⟨c0, c1, c2, c3, c4, e⟩ := h; rw [e]; exact ⟨_, rfl⟩
theorem gt3 {G : xG} (h : gTok G) : ∃ cA, (gT G)[3]? = some (cA, .object "ResidueFlows$Bin") := by obtain ⟨c0, c1, c2, c3, c4, e⟩ := h; rw [e]; exact ⟨_, rfl⟩
theorem gt4 {G : xG} (h : gTok G) : ∃ cA, (gT G)[4]? = some (cA, .object "ResidueFlows$Screen") := by obtain ⟨c0, c1, c2, c3, c4, e⟩ := h; rw [e]; exact ⟨_, rfl⟩
theorem gt3' {G : xG} (h : gTok G) : ∃ cA C, (gT G)[3]? = some (cA, .object C) := by obtain ⟨c, e⟩ := gt3 h; exact ⟨c, _, e⟩
theorem gt4' {G : xG} (h : gTok G) : ∃ cA C, (gT G)[4]? = some (cA, .object C) := by obtain ⟨c, e⟩ := gt4 h; exact ⟨c, _, e⟩
section XS
variable {sa sb : Int32 × Int32} {lt tt : cP} {lg bc : Int32} {gi go : Int64} {sh : Int32} {bn : Nat → cB} {sc : Nat → cS} {rw : Int32} {dy pt : Nat → Int32} {R : List va_E} {i : Nat}
theorem ch_bin (hi : i < 8) : (ch sa sb lt tt lg bc gi go sh bn sc rw dy pt R)[6 + i]? = some (bc_ (bn i)) := lt8 (P := fun i => (ch sa sb lt tt lg bc gi go sh bn sc rw dy pt R)[6 + i]? = some (bc_ (bn i))) rfl rfl rfl rfl rfl rfl rfl rfl hi
theorem ch_setb (hi : i < 8) {v : cB} : (ch sa sb lt tt lg bc gi go sh bn sc rw dy pt R).set (6 + i) (bc_ v) = ch sa sb lt tt lg bc gi go sh (vf_upd bn i v) sc rw dy pt R := lt8 (P := fun i => (ch sa sb lt tt lg bc gi go sh bn sc rw dy pt R).set (6 + i) (bc_ v) = ch sa sb lt tt lg bc gi go sh (vf_upd bn i v) sc rw dy pt R) rfl rfl rfl rfl rfl rfl rfl rfl hi
theorem ch_scr (hi : i < 4) : (ch sa sb lt tt lg bc gi go sh bn sc rw dy pt R)[15 + i]? = some (sc_ (sc i)) := lt4 (P := fun i => (ch sa sb lt tt lg bc gi go sh bn sc rw dy pt R)[15 + i]? = some (sc_ (sc i))) rfl rfl rfl rfl hi
theorem ch_sets (hi : i < 4) {v : cS} : (ch sa sb lt tt lg bc gi go sh bn sc rw dy pt R).set (15 + i) (sc_ v) = ch sa sb lt tt lg bc gi go sh bn (vf_upd sc i v) rw dy pt R := lt4 (P := fun i => (ch sa sb lt tt lg bc gi go sh bn sc rw dy pt R).set (15 + i) (sc_ v) = ch sa sb lt tt lg bc gi go sh bn (vf_upd sc i v) rw dy pt R) rfl rfl rfl rfl hi
end XS
noncomputable def xif {α : Type} (P : Prop) (a b : α) : α := @ite _ P (Classical.propDecidable P) a b
theorem xif_pos {α : Type} {P : Prop} {a b : α} (h : P) : xif P a b = a := if_pos h
theorem xif_neg {α : Type} {P : Prop} {a b : α} (h : ¬ P) : xif P a b = b := if_neg h
/-- a bin's number is good -/
def okB (bc n : Int32) : Prop := ¬ n < 0 ∧ ¬ bc ≤ n ∧ n < 8
theorem okB_lt {bc n : Int32} (h : okB bc n) : n.toNatClampNeg < 8 ∧ n = nI n.toNatClampNeg ∧ vp_in n 8 := by
  have e8 : (8 : Int32).toInt = ((8 : Nat) : Int) := by decide
  obtain ⟨j, hj, e⟩ := nI_of2 e8 h.1 (Int32.le_of_lt h.2.2)
  have hj8 : j < 8 := by
    rcases Nat.lt_or_ge j 8 with q | q
    · exact q
    · have : j = 8 := by omega
      subst this
      exact absurd h.2.2 (by rw [e]; decide)
  subst e
  rw [nI_clamp (by omega)]
  exact ⟨hj8, rfl, vp_in_nI hj8 (by decide)⟩
def okS (n : Int32) : Prop := ¬ n < 0 ∧ n < 4
theorem okS_lt {n : Int32} (h : okS n) : n.toNatClampNeg < 4 ∧ n = nI n.toNatClampNeg ∧ vp_in n 4 := by
  have e8 : (4 : Int32).toInt = ((4 : Nat) : Int) := by decide
  obtain ⟨j, hj, e⟩ := nI_of2 e8 h.1 (Int32.le_of_lt h.2)
  have hj8 : j < 4 := by
    rcases Nat.lt_or_ge j 4 with q | q
    · exact q
    · have : j = 4 := by omega
      subst this
      exact absurd h.2 (by rw [e]; decide)
  subst e
  rw [nI_clamp (by omega)]
  exact ⟨hj8, rfl, vp_in_nI hj8 (by decide)⟩
theorem ti {k : Int32} {n : Int} (c : Int32) (hc : c.toInt = n) (h : ¬ k = c) : ¬ k.toInt = n := fun q => h (Int32.toInt_inj.mp (q.trans hc.symm))
