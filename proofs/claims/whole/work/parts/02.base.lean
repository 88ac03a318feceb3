/-! A LOGIC OVER THE MACHINE: one world for all (the law's own, the class's, the reference's cells), whose places are numbers from the law's start on.
A method is met by 'XM': from any heap that holds the picture w it ends as r says. 'JW' is the same from a frame. -/
abbrev xY : Type := MethodName × ByteArray × Nat × Option FieldType × Room × List (Nat × Nat × Nat × Nat)
abbrev xG : Type := Launch × va_G × List (ClassId × FieldType) × Nat × Nat × Nat × (Nat → Int32)
/-- a picture of the heap: its mode (1: nothing was written since the method's entry; 2: every cell made so far is in the picture; 0: neither) and its cells; a reference is a place in the list -/
abbrev xH : Type := Nat × List va_E
/-- an end: the answer, or the class of what is thrown; the picture; how many cells and slots came at most -/
abbrev xR : Type := (Option Value ⊕ String) × xH × Nat × Nat
abbrev gl (G : xG) : Launch := G.1
abbrev gD (G : xG) : va_G := G.2.1
abbrev gT (G : xG) : List (ClassId × FieldType) := G.2.2.1
abbrev gb (G : xG) : Nat := G.2.2.2.1
abbrev gs (G : xG) : Nat := G.2.2.2.2.1
abbrev gN (G : xG) : Nat := G.2.2.2.2.2.1
abbrev gx (G : xG) : Nat → Int32 := G.2.2.2.2.2.2
/-- a value of the picture as the machine has it: a reference's place counts from the law's start; '.float 0' stands for the script -/
def xv (G : xG) (v : Value) : Value := match v with
  | .ref i => .ref (gb G + i)
  | .float _ => .ref (gs G)
  | w => w
theorem xv_cat (G : xG) (v : Value) : (xv G v).category = v.category := by cases v <;> rfl
def xe (G : xG) (c : va_E) : va_E := match c with
  | .inl (t, n, .inr (.inr (.inr (.inr g)))) => .inl (((gT G).getD t (0, .int)).1, n, .inr (.inr (.inr (.inr (fun j => (g j).map (fun i => gb G + i))))))
  | .inl (t, n, f) => .inl (((gT G).getD t (0, .int)).1, n, f)
  | .inr (ci, fs) => .inr (ci, fs.map (xv G))
def xws (G : xG) (h : List va_E) : va_W := h.mapIdx (fun i c => (gb G + i, xe G c))
theorem xws_at (G : xG) (h : List va_E) (k : Nat) : (xws G h)[k]? = (h[k]?).map (fun c => (gb G + k, xe G c)) := by
  unfold xws
  rw [List.getElem?_mapIdx]
theorem xws_get {G : xG} {h : List va_E} {i : Nat} {c : va_E} (hc : h[i]? = some c) : (xws G h)[i]? = some (gb G + i, xe G c) := by
  rw [xws_at, hc]; rfl
theorem xws_inv {G : xG} {h : List va_E} {k : Nat} {q : Nat × va_E} (hq : (xws G h)[k]? = some q) : ∃ c, h[k]? = some c ∧ q = (gb G + k, xe G c) := by
  rw [xws_at] at hq
  cases hc : h[k]? with
  | none => rw [hc] at hq; cases hq
  | some c => rw [hc] at hq; exact ⟨c, rfl, (Option.some.inj hq).symm⟩
theorem xws_set (G : xG) (h : List va_E) (i : Nat) (c : va_E) : xws G (h.set i c) = (xws G h).set i (gb G + i, xe G c) := by
  apply List.ext_getElem?
  intro k
  rw [xws_at, List.getElem?_set, List.getElem?_set, xws_at]
  have hlen : (xws G h).length = h.length := by unfold xws; simp
  rw [hlen]
  by_cases hk : i = k
  · subst hk
    by_cases hl : i < h.length
    · simp [hl]
    · simp [hl]
  · simp [hk]
theorem xws_app (G : xG) (h : List va_E) (c : va_E) : xws G (h ++ [c]) = xws G h ++ [(gb G + h.length, xe G c)] := by
  apply List.ext_getElem?
  intro k
  have hlen : (xws G h).length = h.length := by unfold xws; simp
  rw [xws_at]
  rcases Nat.lt_trichotomy k h.length with hk | hk | hk
  · rw [List.getElem?_append_left hk, List.getElem?_append_left (by rw [hlen]; exact hk), xws_at]
  · subst hk
    rw [List.getElem?_append_right (Nat.le_refl _), List.getElem?_append_right (by rw [hlen]; exact Nat.le_refl _), hlen]
    simp
  · rw [List.getElem?_eq_none (by simp; omega), List.getElem?_eq_none (by simp [hlen]; omega)]
    rfl
def xA (G : xG) : Nat → Prop := fun q => gb G ≤ q
theorem xD (G : xG) (h : List va_E) : va_D (xA G) (xws G h) := by
  refine ⟨fun i j p q hi hj he => ?_, fun k q hk => ?_⟩
  · obtain ⟨c, -, rfl⟩ := xws_inv hi
    obtain ⟨d, -, rfl⟩ := xws_inv hj
    exact Nat.add_left_cancel he
  · obtain ⟨c, -, rfl⟩ := xws_inv hk
    exact Nat.le_add_right _ _
/-- the heap holds the picture -/
def xW (G : xG) (h : List va_E) (H : Heap) : Prop := va_P (gD G) xcl (xws G h) H
theorem xW_len {G : xG} {h : List va_E} {H : Heap} (hW : xW G h H) (hb : gb G ≤ H.size) : gb G + h.length ≤ H.size := by
  cases hn : h.length with
  | zero => exact hb
  | succ n =>
    have hi : n < h.length := by omega
    have h1 : h[n]? = some h[n] := List.getElem?_eq_getElem hi
    have h2 := (hW n _ (xws_get (G := G) h1)).lt
    have h3 : gb G + n < H.size := h2
    omega
/-- what holds at every state: the flags, the tables' numbers, the two statics of Throwable, the nest's words, the script -/
def xKx (U : State) : Prop := (∀ q ∈ xTs, (Cond.stringRef q.1 q.2.1 q.2.2).before #[] U = true) ∧ (∀ q ∈ xTk, (Cond.castable q.1 q.2).before #[] U = true) ∧ (∀ q ∈ xTd, (Cond.declares q).before #[] U = true) ∧ (Cond.laysStatic "java/lang/Throwable" "UNASSIGNED_STACK" "[Ljava/lang/StackTraceElement;").before #[] U = true ∧ (Cond.laysStatic "java/lang/Throwable" "SUPPRESSED_SENTINEL" "Ljava/util/List;").before #[] U = true ∧ ∀ q ∈ xTo, va_AO q U
def xK (G : xG) (U : State) : Prop := (gl G).stackTraces = false ∧ gb G ≤ U.heap.size ∧ va_K (gD G) xcl (gT G) U ∧ va_Zq "java/lang/Throwable" "UNASSIGNED_STACK" "[Ljava/lang/StackTraceElement;" (xA G) U U.heap ∧ va_Zq "java/lang/Throwable" "SUPPRESSED_SENTINEL" "Ljava/util/List;" (xA G) U U.heap ∧ (∀ q ∈ xTn, va_Nw (.methodLinkNest q.1 q.2.1 q.2.2.1 q.2.2.2) U) ∧ va_X (gs G) (gN G) (gx G) U U.heap ∧ gs G < gb G ∧ (∀ q ∈ xTc, ∀ c t : ClassId, U.vm.findClass q.1 = some c → U.vm.findClass q.2 = some t → U.vm.assignable c t = false) ∧ xKx U
theorem xLS {A : Nat → Prop} {C n d : String} {s U : State} (hvm : s.vm.Alike U.vm) (hH : ∀ q : Nat, q < s.heap.size → ¬ A q → U.heap[q]? = s.heap[q]?) (hz : va_Zq C n d A s s.heap) (h : (Cond.laysStatic C n d).before #[] s = true) : (Cond.laysStatic C n d).before #[] U = true := by
  obtain ⟨c, k, i, f, a, cell, h1, h2, h3, h4, h5, h6, h7, h8, h9⟩ := Cond.laysStatic_spec h
  have hA : ¬ A a := by
    rcases hz with ⟨cf, kf, fi, f', a', cell', g1, g2, g3, g4, g5, g6, g7, g8⟩ | ⟨t, cf, kf, fi, f', a', cell', g1, g2, g3, g4, g5, g6, g7, g8⟩
    · cases h2.symm.trans g1
      cases h4.symm.trans g4
      exact g8
    · cases h2.symm.trans g1
      cases h4.symm.trans g4
      exact g8
  obtain ⟨k', hi', he⟩ := State.fieldFound?_setVm hvm h2
  exact Cond.laysStatic_of (s := U) (by rw [hvm.findClass]; exact h1) hi' h3 (by rw [he]; exact h4) (by rw [hH a (Array.getElem?_eq_some_iff.mp h5).1 hA]; exact h5) h6 h7 h8 (by rw [he]; exact h9)
theorem xK.moved {G : xG} {s U : State} (h : xK G s) (hW : s.WarmedH U.vm) (hz : s.heap.size ≤ U.heap.size) (hH : ∀ q : Nat, q < s.heap.size → ¬ xA G q → U.heap[q]? = s.heap[q]?) : xK G U := by
  obtain ⟨h1, h2, h3, h4, h5, h6, h7, h8, h9, k1, k2, k3, k4, k5, k6⟩ := h
  refine ⟨h1, Nat.le_trans h2 hz, va_K.moved hW.alike h3, va_Zq.moved hW.alike (h4.kept hH), va_Zq.moved hW.alike (h5.kept hH), fun q hq => va_Nw.warmM hW (h6 q hq), va_X.moved hW.alike (h7.kept (hH _ (Nat.lt_of_lt_of_le h8 h2) (Nat.not_le.mpr h8))), h8, fun q hq c t e1 e2 => ?_, fun q hq => ?_, fun q hq => ?_, fun q hq => ?_, xLS hW.alike hH h4 k4, xLS hW.alike hH h5 k5, fun q hq => (k6 q hq).moved hW.alike⟩
  · rw [hW.alike.findClass] at e1 e2
    rw [hW.alike.assignable]
    exact h9 q hq c t e1 e2
  · exact Cond.stringRef_warmed (args := #[]) hW (k1 q hq)
  · have e := Cond.castable_setVm (args := #[]) (s := s) hW.alike q.1 q.2
    exact va_tabs rfl (rfl : (s.setVm U.vm).vm = U.vm) (e.trans (k2 q hq))
  · have e := Cond.declares_setVm (args := #[]) (s := s) hW.alike q
    exact va_tabs rfl (rfl : (s.setVm U.vm).vm = U.vm) (e.trans (k3 q hq))
/-- the method's own word -/
def xwd (y : xY) : Cond := match y.2.2.2.2.2 with
  | [] => .code y.1 y.2.1 y.2.2.1 y.2.2.2.1
  | q :: r => .codeWith y.1 y.2.1 y.2.2.1 y.2.2.2.1 (q :: r)
def xTab (y : xY) (c : Code) : Prop := c.exceptionTable.toList.map (fun h => (h.startPc, h.endPc, h.handlerPc, h.catchType)) = y.2.2.2.2.2
theorem xwd_spec {y : xY} {args : Array Value} {s : State} (h : (xwd y).before args s = true) : ∃ mk methY cY, s.methodNamed? y.1 = some mk ∧ s.vm.method? mk = some methY ∧ methY.code = some cY ∧ cY.code = y.2.1 ∧ cY.maxLocals = y.2.2.1 ∧ methY.sig.returnType = y.2.2.2.1 ∧ methY.locks = false ∧ xTab y cY ∧ parseMethodDescriptor y.1.desc = some methY.sig := by
  obtain ⟨nm, by_, ml, rt, rm, hh⟩ := y
  cases hh with
  | nil =>
    have h' : (Cond.code nm by_ ml rt).before args s = true := h
    obtain ⟨mk, hn⟩ := Cond.code_named h'
    obtain ⟨methY, cY, h1, h2, h3, h4, h5, h6, h7, h8⟩ := Cond.code_spec hn h'
    refine ⟨mk, methY, cY, hn, h1, h2, h3, h4, h5, h6, ?_, h8⟩
    show cY.exceptionTable.toList.map _ = []
    have : cY.exceptionTable = #[] := by simpa [Array.isEmpty_iff] using h7
    rw [this]; rfl
  | cons q r =>
    have h' : (Cond.codeWith nm by_ ml rt (q :: r)).before args s = true := h
    obtain ⟨mk, methY, cY, hn, h1, h2, h3, h4, h5, h6, h7, h8⟩ := Cond.codeWith_spec h'
    exact ⟨mk, methY, cY, hn, h1, h2, h3, h4, h6, h7, h5, h8⟩
/-- where a frame stands -/
def xC (G : xG) (y : xY) (p : Program) (s : State) (m : MethodId) (args : Array Value) (meth : Method) (c : Code) : Prop :=
  p.tables.exec = Jvm.exec ∧ c.code = y.2.1 ∧ meth.sig.returnType = y.2.2.2.1 ∧ c.maxLocals = y.2.2.1 ∧ s.vm.findClass y.1.cls = some m.cls ∧ (∀ w ∈ xTw, w.before args s = true) ∧ meth.locks = false ∧ xTab y c ∧ xK G s ∧ meth.name = y.1.name
def xO (G : xG) (out : Option Value ⊕ String) (st : State) (o : Outcome) (t : State) : Prop := match out with
  | .inl v => o = .returned (v.map (xv G))
  | .inr E => ∃ (x : Addr) (cell : Cell), o = .threw x ∧ t.heap[x]? = some cell ∧ cell.vm = .none ∧ st.vm.findClass E = some cell.cls
def xQ (G : xG) (r : xR) (st : State) (o : Outcome) (t : State) : Prop :=
  xO G r.1 st o t ∧ xW G r.2.1.2 t.heap ∧ va_F (xA G) st t ∧ ∃ L : List Loc, st.WarmedH t.vm ∧ st.sameButNew ({ t with vm := st.vm } : State) L r.2.2.1 r.2.2.2 ∧ (∀ q ∈ L, xA G q.base) ∧ (r.2.1.1 = 1 → t.heap = st.heap ∧ L = [])
def XM (G : xG) (y : xY) (avs : List Value) (w : xH) (r : xR) : Prop :=
  MetFree (gl G) y.1 (headSpec (xwd y :: xTw) y.2.2.2.2.1) (fun a U => a = (avs.map (xv G)).toArray ∧ xW G w.2 U.heap ∧ xK G U ∧ (w.1 = 2 → U.heap.size = gb G + w.2.length)) (fun _ _ _ _ _ => True) (fun _ st o t => xQ G r st o t)
def xZ (G : xG) (r : xR) (below : List Frame) (s : State) : State → Prop := fun t => ∃ o, t.status = .running ∧ Ended t below o ∧ xQ G r s o t
def xmp (G : xG) (L : List (Nat × Value)) : List (Nat × Value) := L.map (fun q => (q.1, xv G q.2))
def xM (G : xG) (k : Nat × Nat) (w : xH) (s : State) (H : Heap) (locs : List Loc) : Prop := (w.1 = 1 → H = s.heap ∧ locs = []) ∧ (w.1 = 2 → s.heap.size + k.1 = gb G + w.2.length)
def JW (G : xG) (y : xY) (k : Nat × Nat) (pc : Nat) (L : List (Nat × Value)) (st : List Value) (w : xH) (r : xR) : Prop :=
  ∀ (p : Program) (e : Env) (s : State) (m : MethodId) (args : Array Value) (below : List Frame) (meth : Method) (c : Code) (H : Heap) (locs : List Loc) (ls : Array Slot),
    xC G y p s m args meth c → va_S (xA G) s.heap H locs → xW G w.2 H → xM G k w s H locs → lv_has ls y.2.2.1 (xmp G L) →
    W p (gl G) e y.2.2.2.2.1 s m args below meth c H locs k.1 k.2 (xZ G r below s) (F0 m pc ls (st.map (xv G)))
theorem x_mono {p : Program} {l : Launch} {e : Env} {R : Room} {s : State} {m : MethodId} {args : Array Value} {below : List Frame} {meth : Method} {c : Code} {H : Heap} {locs : List Loc} {cells slots : Nat} {Q Q' : State → Prop} {g : JFrame} (h : ∀ t, Q t → Q' t) (k : W p l e R s m args below meth c H locs cells slots Q g) : W p l e R s m args below meth c H locs cells slots Q' g :=
  fun T hT X => by
    obtain ⟨t, a, b⟩ := k T hT X
    exact ⟨t, a, h t b⟩
theorem lv_args_map (G : xG) : ∀ (vs : List Value) (i : Nat), lv_args i (vs.map (xv G)) = xmp G (lv_args i vs)
  | [], _ => rfl
  | v :: vs, i => by
    show (i, xv G v) :: lv_args (if (xv G v).category = 2 then i + 2 else i + 1) (vs.map (xv G)) = (i, xv G v) :: xmp G (lv_args (if v.category = 2 then i + 2 else i + 1) vs)
    rw [xv_cat, lv_args_map G vs]
theorem lg_sl_len (G : xG) (vs : List Value) : (lg_sl (vs.map (xv G))).length = (lg_sl vs).length := by
  induction vs with
  | nil => rfl
  | cons v t ih =>
    simp only [lg_sl, List.map_cons, List.flatMap_cons, List.length_append, xv_cat] at ih ⊢
    rw [ih]
    split <;> rfl
/-- a method is met if its body is -/
theorem XM_of {G : xG} {y : xY} {avs : List Value} {w : xH} {r : xR} (hy : plainName y.1.cls = true) (hn : (lg_sl avs).length ≤ y.2.2.1) (hw : w.1 = 1 ∨ w.1 = 2) (h : JW G y (0, 0) 0 (lv_args 0 avs) [] w r) : XM G y avs w r := by
  refine MetFree.of_bodyS (code := y.2.1) (maxLocals := y.2.2.1) (ret := y.2.2.2.1) hy ?_ ?_
  · intro args s m hp hnm
    obtain ⟨mk, methY, cY, h0, h1, h2, h3, h4, h5, h6, h7, h8⟩ := xwd_spec (atoms_spec (ws := xwd y :: xTw) hp _ List.mem_cons_self)
    cases hnm.symm.trans h0
    exact ⟨methY, cY, h1, h2, h3, h4, h5, h6⟩
  · intro p e s m args below meth c s₁ B hml hP _
    obtain ⟨rfl, hW, hK, hE⟩ := hP
    have hts := atoms_spec (ws := xwd y :: xTw) B.pre
    have hh0 : s₁.heap = s.heap := by rw [B.state]; rfl
    obtain ⟨mk, methY, cY, h0, h1, h2, h3, h4, h5, h6, h7, h8⟩ := xwd_spec (hts _ List.mem_cons_self)
    cases B.named.symm.trans h0
    cases B.method.symm.trans h1
    have X₀ := Stand.of_body B
    cases X₀.code.symm.trans h2
    have hl := lv_entry (avs.map (xv G)) (n := y.2.2.1) (by rw [lg_sl_len]; exact hn)
    have K := h p e s m _ below meth c s.heap [] _ ⟨B.exec, h3, h5, h4, findClass_of_methodNamed B.named, fun w hw => hts w (List.mem_cons_of_mem _ hw), h6, h7, hK, (name_of_methodNamed B.named B.method).1⟩ va_S.rf hW ⟨fun _ => ⟨rfl, rfl⟩, fun h2 => hE h2⟩ (by rw [← lv_args_map]; exact hl)
    have K2 := K s₁ hh0 X₀
    rw [show F0 m 0 _ (([] : List Value).map (xv G)) = entryFrame m ((avs.map (xv G))).toArray y.2.2.1 from (lg_entry_eq m (avs.map (xv G)) y.2.2.1).symm] at K2
    obtain ⟨t, a1, o, b1, b2, b3⟩ := K2
    exact ⟨t, o, a1, b1, b2, b3⟩
