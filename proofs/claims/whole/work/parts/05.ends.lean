section XE
variable {G : xG} {y : xY} {k : Nat × Nat} {pc : Nat} {L : List (Nat × Value)} {st : List Value} {w : xH} {r : xR}
/-- a return, from what the kit's own rows leave -/
theorem xZ_ret {G : xG} {r : xR} {k : Nat × Nat} {w : xH} {below : List Frame} {s : State} {args : Array Value} {H : Heap} {locs : List Loc} {o0 : Option Value} (hr : r = (.inl o0, w, k)) (hS : va_S (xA G) s.heap H locs) (hW : xW G w.2 H) (hM : xM G k w s H locs) (t : State)
    (h : ∃ o, t.status = .running ∧ Ended t below o ∧ (o = .returned (o0.map (xv G)) ∧ t.heap = H ∧ s.WarmedH t.vm) ∧ s.sameButNew ({ t with vm := s.vm } : State) locs k.1 k.2) : xZ G r below s t := by
  obtain ⟨o, h1, h2, ⟨h3, h4, h5⟩, h6⟩ := h
  subst hr
  exact ⟨o, h1, h2, h3, by show xW G w.2 t.heap; rw [h4]; exact hW, hS.F h4, locs, h5, h6, hS.2.2, fun q => ⟨h4.trans (hM.1 q).1, (hM.1 q).2⟩⟩
/-- a method leaves with a value: the kit's 'leave', with the places that were written -/
theorem x_iret {p : Program} {l : Launch} {e : Env} {R : Room} {s : State} {m : MethodId} {args : Array Value} {below : List Frame} {meth : Method} {c : Code} {H : Heap} {locs : List Loc} {a b : Nat} {cc : ByteArray} {v : Int32} {ty : FieldType} (hexec : p.tables.exec = Jvm.exec) (hb : c.code = cc) (hr : meth.sig.returnType = some ty) (hn : narrow ty (.int v) = .int v) (hty : ty = .int ∨ ty = .boolean)
    {pc : Nat} {ls : Array Slot} (hdg : decode cc pc = .ok (.ireturn, 1)) (hlocks : meth.locks = false) : W p l e R s m args below meth c H locs a b (fun t => ∃ o, t.status = .running ∧ Ended t below o ∧ (o = .returned (some (.int v)) ∧ t.heap = H ∧ s.WarmedH t.vm) ∧ s.sameButNew ({ t with vm := s.vm } : State) locs a b) (F0 m pc ls [.int v]) := by
  intro T hT X
  obtain ⟨fs, hret, hrun, hended, hW, hframe⟩ := X.leave (v := some (.int v)) (hlocks := hlocks) (fun h => by rw [hr] at h; cases h)
  have hmeth' : T.vm.method? m = some meth := X.method'
  refine ⟨T.setFrames fs, ?_, .returned (some (.int v)), hrun, hended, ⟨rfl, hT, hW⟩, hframe⟩
  jvm_step X.here [X.here.top, hexec, hb, hdg, hmeth', hr, hn]
  (try refine ⟨rfl, ?_⟩); (try refine ⟨rfl, ?_⟩)
  first | (intro acts; rw [hret _ acts rfl rfl rfl]) | rw [hret _ _ rfl rfl rfl]
  exact Steps.refl _
theorem x_lret {p : Program} {l : Launch} {e : Env} {R : Room} {s : State} {m : MethodId} {args : Array Value} {below : List Frame} {meth : Method} {c : Code} {H : Heap} {locs : List Loc} {a b : Nat} {cc : ByteArray} {v : Int64} (hexec : p.tables.exec = Jvm.exec) (hb : c.code = cc) (hr : meth.sig.returnType = some .long)
    {pc : Nat} {ls : Array Slot} (hdg : decode cc pc = .ok (.lreturn, 1)) (hlocks : meth.locks = false) : W p l e R s m args below meth c H locs a b (fun t => ∃ o, t.status = .running ∧ Ended t below o ∧ (o = .returned (some (.long v)) ∧ t.heap = H ∧ s.WarmedH t.vm) ∧ s.sameButNew ({ t with vm := s.vm } : State) locs a b) (F0 m pc ls [.long v]) := by
  intro T hT X
  obtain ⟨fs, hret, hrun, hended, hW, hframe⟩ := X.leave (v := some (.long v)) (hlocks := hlocks) (fun h => by rw [hr] at h; cases h)
  have hmeth' : T.vm.method? m = some meth := X.method'
  refine ⟨T.setFrames fs, ?_, .returned (some (.long v)), hrun, hended, ⟨rfl, hT, hW⟩, hframe⟩
  jvm_step X.here [X.here.top, hexec, hb, hdg, hmeth', hr, narrow]
  (try refine ⟨rfl, ?_⟩); (try refine ⟨rfl, ?_⟩)
  first | (intro acts; rw [hret _ acts rfl rfl rfl]) | rw [hret _ _ rfl rfl rfl]
  exact Steps.refl _
theorem x_aret {p : Program} {l : Launch} {e : Env} {R : Room} {s : State} {m : MethodId} {args : Array Value} {below : List Frame} {meth : Method} {c : Code} {H : Heap} {locs : List Loc} {a b : Nat} {cc : ByteArray} {v : Nat} {n : String} (hexec : p.tables.exec = Jvm.exec) (hb : c.code = cc) (hr : meth.sig.returnType = some (.object n))
    {pc : Nat} {ls : Array Slot} (hdg : decode cc pc = .ok (.areturn, 1)) (hlocks : meth.locks = false) : W p l e R s m args below meth c H locs a b (fun t => ∃ o, t.status = .running ∧ Ended t below o ∧ (o = .returned (some (.ref v)) ∧ t.heap = H ∧ s.WarmedH t.vm) ∧ s.sameButNew ({ t with vm := s.vm } : State) locs a b) (F0 m pc ls [.ref v]) := by
  intro T hT X
  obtain ⟨fs, hret, hrun, hended, hW, hframe⟩ := X.leave (v := some (.ref v)) (hlocks := hlocks) (fun h => by rw [hr] at h; cases h)
  have hmeth' : T.vm.method? m = some meth := X.method'
  refine ⟨T.setFrames fs, ?_, .returned (some (.ref v)), hrun, hended, ⟨rfl, hT, hW⟩, hframe⟩
  jvm_step X.here [X.here.top, hexec, hb, hdg, hmeth', hr]
  (try refine ⟨rfl, ?_⟩); (try refine ⟨rfl, ?_⟩)
  first | (intro acts; rw [hret _ acts rfl rfl rfl]) | rw [hret _ _ rfl rfl rfl]
  exact Steps.refl _
theorem x_vret {p : Program} {l : Launch} {e : Env} {R : Room} {s : State} {m : MethodId} {args : Array Value} {below : List Frame} {meth : Method} {c : Code} {H : Heap} {locs : List Loc} {a b : Nat} {cc : ByteArray} (hexec : p.tables.exec = Jvm.exec) (hb : c.code = cc) (hr : meth.sig.returnType = none)
    {pc : Nat} {ls : Array Slot} (hdg : decode cc pc = .ok (.return_, 1)) (hlocks : meth.locks = false) : W p l e R s m args below meth c H locs a b (fun t => ∃ o, t.status = .running ∧ Ended t below o ∧ (o = .returned none ∧ t.heap = H ∧ s.WarmedH t.vm) ∧ s.sameButNew ({ t with vm := s.vm } : State) locs a b) (F0 m pc ls []) := by
  intro T hT X
  obtain ⟨fs, hret, hrun, hended, hW, hframe⟩ := X.leave (v := none) (hlocks := hlocks) (fun _ => rfl)
  have hmeth' : T.vm.method? m = some meth := X.method'
  refine ⟨T.setFrames fs, ?_, .returned none, hrun, hended, ⟨rfl, hT, hW⟩, hframe⟩
  jvm_step X.here [X.here.top, hexec, hb, hdg, hmeth', hr]
  (try refine ⟨rfl, ?_⟩); (try refine ⟨rfl, ?_⟩)
  first | (intro acts; rw [hret _ acts rfl rfl rfl]) | rw [hret _ _ rfl rfl rfl]
  exact Steps.refl _
theorem J_ireturn {v : Int32} (hd : decode y.2.1 pc = .ok (.ireturn, 1)) (hy : y.2.2.2.1 = some .int) (hr : r = (.inl (some (.int v)), w, k)) : JW G y k pc L [.int v] w r :=
  fun p e s m args below meth c H locs ls C hS hW hM hl => x_mono (xZ_ret (args := args) hr hS hW hM) (x_iret (ty := .int) C.1 C.2.1 (C.2.2.1.trans hy) rfl (Or.inl rfl) hd C.2.2.2.2.2.2.1)
theorem J_zreturn {v : Int32} (hd : decode y.2.1 pc = .ok (.ireturn, 1)) (hy : y.2.2.2.1 = some .boolean) (hv : narrow .boolean (.int v) = .int v) (hr : r = (.inl (some (.int v)), w, k)) : JW G y k pc L [.int v] w r :=
  fun p e s m args below meth c H locs ls C hS hW hM hl => x_mono (xZ_ret (args := args) hr hS hW hM) (x_iret (ty := .boolean) C.1 C.2.1 (C.2.2.1.trans hy) hv (Or.inr rfl) hd C.2.2.2.2.2.2.1)
theorem J_lreturn {v : Int64} (hd : decode y.2.1 pc = .ok (.lreturn, 1)) (hy : y.2.2.2.1 = some .long) (hr : r = (.inl (some (.long v)), w, k)) : JW G y k pc L [.long v] w r :=
  fun p e s m args below meth c H locs ls C hS hW hM hl => x_mono (xZ_ret (args := args) hr hS hW hM) (x_lret C.1 C.2.1 (C.2.2.1.trans hy) hd C.2.2.2.2.2.2.1)
theorem J_areturn {i : Nat} {n : String} (hd : decode y.2.1 pc = .ok (.areturn, 1)) (hy : y.2.2.2.1 = some (.object n)) (hr : r = (.inl (some (.ref i)), w, k)) : JW G y k pc L [.ref i] w r :=
  fun p e s m args below meth c H locs ls C hS hW hM hl => x_mono (xZ_ret (args := args) hr hS hW hM) (x_aret C.1 C.2.1 (C.2.2.1.trans hy) hd C.2.2.2.2.2.2.1)
theorem J_return (hd : decode y.2.1 pc = .ok (.return_, 1)) (hy : y.2.2.2.1 = none) (hr : r = (.inl none, w, k)) : JW G y k pc L [] w r :=
  fun p e s m args below meth c H locs ls C hS hW hM hl => x_mono (xZ_ret (args := args) hr hS hW hM) (x_vret C.1 C.2.1 (C.2.2.1.trans hy) hd C.2.2.2.2.2.2.1)
/-- the two words of the statics, out of the world -/
theorem xZq_isRef {C n d : String} {A : Nat → Prop} {U : State} {args : Array Value} (h : va_Zq C n d A U U.heap) : (Cond.isRef (.static C n d)).before args U = true := by
  rcases h with h | ⟨t, h⟩
  · obtain ⟨cf, kf, fi, f, a, cell, h1, h2, h3, h4, h5, h6, h7, h8⟩ := h
    simp [Cond.before, Cond.holds, Cond.value, Term.eval, State.fieldNamed?, h1, h2, h4, h5, h6, h7, Value.isRef]
  · obtain ⟨cf, kf, fi, f, a, cell, h1, h2, h3, h4, h5, h6, h7, h8⟩ := h
    simp [Cond.before, Cond.holds, Cond.value, Term.eval, State.fieldNamed?, h1, h2, h4, h5, h6, h7, Value.isRef]
/-- 'new E; dup; ldc; invokespecial; athrow', nothing written before: the words of the throw -/
def xth (own : String) (ik ic : Nat) (E : String) (names : List String) : Prop :=
  (∀ a ∈ Bundle.ownAtoms own ic E names, a ∈ xTw ∨ a = .isRef (.static "java/lang/Throwable" "UNASSIGNED_STACK" "[Ljava/lang/StackTraceElement;") ∨ a = .isRef (.static "java/lang/Throwable" "SUPPRESSED_SENTINEL" "Ljava/util/List;") ∨ a = .laysStatic "java/lang/Throwable" "UNASSIGNED_STACK" "[Ljava/lang/StackTraceElement;" ∨ a = .laysStatic "java/lang/Throwable" "SUPPRESSED_SENTINEL" "Ljava/util/List;" ∨ (∃ q ∈ xTk, a = .castable q.1 q.2) ∨ (∃ q ∈ xTd, a = .declares q)) ∧ Cond.classLink own ik E ∈ xTw ∧ Cond.instantiable E 6 ∈ xTw ∧ Cond.initialized E ∈ xTw ∧ Bundle.fit E = true ∧ (∀ n ∈ names, Bundle.fit n = true) ∧ names.length ≤ 3
/-- the room that a throw needs -/
def xthR (R : Room) : Prop := 7 ≤ R.frames ∧ 110 ≤ R.locals ∧ 1 ≤ R.cells ∧ 6 ≤ R.slots
theorem x_throw {own : String} {ik ic : Nat} {E : String} {names : List String} {p : Program} {e : Env} {s : State} {m : MethodId} {args : Array Value} {below : List Frame} {meth : Method} {c : Code} {ls : Array Slot} {pc pc6 : Nat} {q0 : Nat}
    (hown : own = y.1.cls) (hth : xth own ik ic E names) (hR : xthR y.2.2.2.2.1) (hhh : y.2.2.2.2.2 = []) (hr : r = (.inr E, (0, w.2), (1, 6))) (C : xC G y p s m args meth c) (hW : xW G w.2 s.heap) (hl : lv_has ls y.2.2.1 (xmp G L))
    (hd0 : decode y.2.1 pc = .ok (.new ik, 3)) (hd3 : decode y.2.1 (pc + 3) = .ok (.dup, 1)) (hd6 : decode y.2.1 pc6 = .ok (.invokespecial ic, 3)) (hd9 : decode y.2.1 (pc6 + 3) = .ok (.athrow, 1))
    (hldc : ∀ {H : Heap} {cells slots : Nat} {Q : State → Prop} {rest : List Value}, W p (gl G) e y.2.2.2.2.1 s m args below meth c H [] cells slots Q (F0 m pc6 ls (.ref q0 :: rest)) → W p (gl G) e y.2.2.2.2.1 s m args below meth c H [] cells slots Q (F0 m (pc + 4) ls rest)) :
    W p (gl G) e y.2.2.2.2.1 s m args below meth c s.heap [] 0 0 (xZ G r below s) (F0 m pc ls []) := by
  subst hown
  obtain ⟨ha, hck, hin, hini, hfE, hfn, hnl⟩ := hth
  obtain ⟨hx, hb, -, hml, hown, hts, hlocks, htab, hK, -⟩ := C
  obtain ⟨cE, kE, hfc, hkE, -, -, -, hn6⟩ := Cond.instantiable_spec (hts _ hin)
  refine W.newcK hx hb hown (hts _ hck) (hts _ hin) (hts _ hini) rfl hd0 (by have := hR.2.2.1; omega) (by have := hR.2.2.2; omega) hfc rfl fun H1 kC hkC e1 z1 o1 => ?_
  refine lv_dup hx hb hd3 rfl ?_
  refine hldc ?_
  intro T hT X
  have hatoms : ∀ a ∈ Bundle.ownAtoms y.1.cls ic E names, a.before args s = true := fun a h => by
    obtain ⟨k1, k2, k3, k4, k5, k6⟩ := hK.2.2.2.2.2.2.2.2.2
    rcases ha a h with h | h | h | h | h | ⟨q, hq, h⟩ | ⟨q, hq, h⟩
    · exact hts a h
    · rw [h]; exact xZq_isRef hK.2.2.2.1
    · rw [h]; exact xZq_isRef hK.2.2.2.2.1
    · rw [h]; exact k4
    · rw [h]; exact k5
    · rw [h]; exact k2 q hq
    · rw [h]; exact k3 q hq
  have hempty : c.exceptionTable.toList = [] := by
    have : c.exceptionTable.toList.map (fun h => (h.startPc, h.endPc, h.handlerPc, h.catchType)) = [] := htab.trans hhh
    exact List.map_eq_nil_iff.mp this
  obtain ⟨U, hst, hrun, hend, hWU, hsame, ce, hce, hoc⟩ := X.ctorThrowS hx (by rw [X.admits.platform]; exact hK.1) hown hfE hfn hatoms (fun q hq => by cases hq) hfc hkC (by rw [hT]; exact e1) (Nat.le_refl _) (msg := .ref q0) rfl
    (g := F0 m pc6 ls [.ref q0, .ref s.heap.size, .ref s.heap.size]) rfl (by rw [hml]; exact hl.1) rfl rfl (rest := []) rfl (by rw [hb]; exact hd6) (by rw [hb]; exact hd9) (by rw [hempty]; intro q hq; cases hq) (by have := hR.1; omega)
    (by have := hR.2.1; show 2 * 0 + 1 + (13 * (names.length + 1) + 42) ≤ _; omega) hlocks
  refine ⟨U, hst, .threw s.heap.size, hrun, hend, ?_⟩
  subst hr
  have hold : ∀ q : Nat, q < s.heap.size → U.heap[q]? = s.heap[q]? := fun q hq => by
    obtain ⟨c', h1, h2, h3, h4⟩ := hsame.2.2.2.2.2 q s.heap[q] (Array.getElem?_eq_getElem hq)
    have h1' : U.heap[q]? = some c' := h1
    rw [h1', Array.getElem?_eq_getElem hq]
    congr 1
    have h5 : c'.slots = s.heap[q].slots := Array.ext_getElem? (fun i => h4 i (fun z => by cases z))
    rw [h2, h5]
  refine ⟨⟨s.heap.size, ce, rfl, hce, hoc.vm, hoc.cls⟩, ?_, ⟨hsame.2.1, fun q h1 _ => hold q h1⟩, [], hWU, hsame, fun q hq => (by cases hq), fun q => (by cases q)⟩
  exact va_P.kept hW (fun k q hk => hold q.1 (hW k q hk).lt)
theorem J_throw {ik is ic : Nat} {E tx : String} {names : List String} (hth : xth y.1.cls ik ic E names) (hs : (y.1.cls, is, tx) ∈ xTs) (hR : xthR y.2.2.2.2.1) (hhh : y.2.2.2.2.2 = [])
    (hd0 : decode y.2.1 pc = .ok (.new ik, 3)) (hd3 : decode y.2.1 (pc + 3) = .ok (.dup, 1)) (hd4 : decode y.2.1 (pc + 4) = .ok (.ldc is, 2)) (hd6 : decode y.2.1 (pc + 6) = .ok (.invokespecial ic, 3)) (hd9 : decode y.2.1 (pc + 9) = .ok (.athrow, 1)) (hw : w.1 = 1) (hk : k = (0, 0)) (hr : r = (.inr E, (0, w.2), (1, 6))) : JW G y k pc L [] w r := by
  intro p e s m args below meth c H locs ls C hS hW hM hl
  obtain ⟨rfl, rfl⟩ := hM.1 hw
  subst hk
  have hsr : (Cond.stringRef y.1.cls is tx).before args s = true := C.2.2.2.2.2.2.2.2.1.2.2.2.2.2.2.2.2.2.1 _ hs
  obtain ⟨-, -, -, q0, -, -, -, -, -, hev⟩ := Cond.stringRef_spec C.2.2.2.2.1 hsr
  exact x_throw rfl hth hR hhh hr C hW hl hd0 hd3 hd6 hd9 (q0 := q0) (fun {H cells slots Q rest} kk T hT X => by
    obtain ⟨t, a1, b1⟩ := kk T hT X
    exact ⟨t, X.ldcString C.1 C.2.2.2.2.1 (text := tx) (a := q0) hsr hev (g := F0 m (pc + 4) ls rest) rfl (by rw [C.2.1]; exact hd4) t a1, b1⟩)
theorem x_ldcWString {p : Program} {l : Launch} {e : Env} {R : Room} {s : State} {m : MethodId} {args : Array Value} {below : List Frame} {meth : Method} {c : Code} {T : State} {locs : List Loc} {cells slots : Nat} (X : Stand p l e R s m args below meth c T locs cells slots) (hexec : p.tables.exec = Jvm.exec) {own text : String} {index : Nat} {a : Addr} (hown : s.vm.findClass own = some m.cls)
    (hconst : (Cond.stringRef own index text).before args s = true) (hev : (Term.string own index).eval args s none [] s = some (.ref a)) {g : JFrame} (hg : g.method = m) (hdg : decode c.code g.pc = .ok (.ldc_w index, 3)) :
    ∀ target, Steps p.tables e below (T.setTop { g with pc := g.pc + 3, stack := .ref a :: g.stack }) target → Steps p.tables e below (T.setTop g) target := by
  obtain ⟨k, cf, i, a', hk, hcf, hcp, -, hr, hev'⟩ := Cond.stringRef_spec hown hconst
  cases hev.symm.trans hev'
  obtain ⟨k', hk', he⟩ := X.warmed.alike.2.2 _ _ hk
  have hr' : k'.resolved[index]? = some (some (.string a)) := by
    rcases X.warmed.entry hk hk' index with h | ⟨h, -⟩
    · rw [h]; exact hr
    · rw [hr] at h; cases h
  intro target hrest
  subst hg
  jvm_step X.here [hexec, hdg, ldc_w.wp_string (e := e) (s := T) (f := g) X.here.top hk' (by rw [he]; exact hcf) hcp hr']
  exact hrest
theorem J_throwW {ik is ic : Nat} {E tx : String} {names : List String} (hth : xth y.1.cls ik ic E names) (hs : (y.1.cls, is, tx) ∈ xTs) (hR : xthR y.2.2.2.2.1) (hhh : y.2.2.2.2.2 = [])
    (hd0 : decode y.2.1 pc = .ok (.new ik, 3)) (hd3 : decode y.2.1 (pc + 3) = .ok (.dup, 1)) (hd4 : decode y.2.1 (pc + 4) = .ok (.ldc_w is, 3)) (hd6 : decode y.2.1 (pc + 7) = .ok (.invokespecial ic, 3)) (hd9 : decode y.2.1 (pc + 10) = .ok (.athrow, 1)) (hw : w.1 = 1) (hk : k = (0, 0)) (hr : r = (.inr E, (0, w.2), (1, 6))) : JW G y k pc L [] w r := by
  intro p e s m args below meth c H locs ls C hS hW hM hl
  obtain ⟨rfl, rfl⟩ := hM.1 hw
  subst hk
  have hsr : (Cond.stringRef y.1.cls is tx).before args s = true := C.2.2.2.2.2.2.2.2.1.2.2.2.2.2.2.2.2.2.1 _ hs
  obtain ⟨-, -, -, q0, -, -, -, -, -, hev⟩ := Cond.stringRef_spec C.2.2.2.2.1 hsr
  exact x_throw rfl hth hR hhh hr C hW hl hd0 hd3 hd6 hd9 (q0 := q0) (fun {H cells slots Q rest} kk T hT X => by
    obtain ⟨t, a1, b1⟩ := kk T hT X
    exact ⟨t, x_ldcWString X C.1 C.2.2.2.2.1 (text := tx) (a := q0) hsr hev (g := F0 m (pc + 4) ls rest) rfl (by rw [C.2.1]; exact hd4) t a1, b1⟩)
/-- the words and the room of a call -/
def xcR (z : xY) (k : Nat × Nat) (R : Room) : Prop := z.2.2.2.2.1.frames + 1 ≤ R.frames ∧ 8 + (z.2.2.1 + 11) + z.2.2.2.2.1.locals ≤ R.locals ∧ k.1 + z.2.2.2.2.1.cells ≤ R.cells ∧ k.2 + z.2.2.2.2.1.slots ≤ R.slots
def xcw (z : xY) (n : Nat) : Prop := xwd z ∈ xTw ∧ Cond.initialized z.1.cls ∈ xTw ∧ (z.1.cls ≠ "java/lang/invoke/MethodHandle" ∧ z.1.cls ≠ "java/lang/invoke/VarHandle") ∧ (parseMethodDescriptor z.1.desc).map (fun d => d.parameters.length) = some n
def xcv (own : String) (index : Nat) (z : xY) (n : Nat) : Prop := xcw z n ∧ Cond.methodLink own index z.1 ∈ xTw ∧ Cond.instanceMethod z.1 ∈ xTw ∧ Cond.selects z.1.cls z.1 z.1 ∈ xTw
def xcs (own : String) (index : Nat) (z : xY) (n : Nat) : Prop := xcw z n ∧ Cond.methodLink own index z.1 ∈ xTw ∧ Cond.static z.1 ∈ xTw
def xcn (own : String) (index : Nat) (z : xY) (n : Nat) (host : String) : Prop := xcw z n ∧ (own, index, z.1, host) ∈ xTn ∧ Cond.static z.1 ∈ xTw
/-- an invocation at a frame of the picture's words -/
def xGo (G : xG) (y : xY) (k : Nat × Nat) (pc : Nat) (L : List (Nat × Value)) (st0 : List Value) (w : xH) (z : xY) (avs : List Value) (st : List Value) : Prop :=
  ∀ (p : Program) (e : Env) (s : State) (m : MethodId) (args : Array Value) (below : List Frame) (meth : Method) (c : Code) (T : State) (locs : List Loc) (ls : Array Slot),
    xC G y p s m args meth c → xW G w.2 T.heap → lv_has ls y.2.2.1 (xmp G L) → Stand p (gl G) e y.2.2.2.2.1 s m args below meth c T locs k.1 k.2 →
    xInv p (gl G) e y.2.2.2.2.1 s m args below meth c T locs k.1 k.2 (F0 m pc ls (st0.map (xv G))) z (avs.map (xv G)).toArray (st.map (xv G))
theorem xGo_v {z : xY} {index n i ci : Nat} {avs : List Value} {fs : List Value} {q : vw_C} (hd : decode y.2.1 pc = .ok (.invokevirtual index, 3)) (hc : xcv y.1.cls index z n) (hi : w.2[i]? = some (.inr (ci, fs))) (hq : xcl[ci]? = some q) (hqz : q.1 = z.1.cls) (hn : avs.length = n) : xGo G y k pc L (avs.reverse ++ .ref i :: st) w z (.ref i :: avs) st := by
  intro p e s m args below meth c T locs ls C hW hl X
  obtain ⟨⟨c1, c2, c3, c4⟩, c5, c6, c7⟩ := hc
  obtain ⟨cellB, b1, b2, b3⟩ := va_recv C.2.2.2.2.2.2.2.2.1.2.2.1 hW hq (xws_get hi)
  have hts := C.2.2.2.2.2.1
  exact xInv_virt X C.1 C.2.2.2.2.1 (hts _ c5) (hts _ c6) (hts _ c7) (hts _ c1) c3 b1 b2 (by rw [← hqz]; exact b3) rfl (argsL := avs.map (xv G)) (rest := st.map (xv G)) c4 (by rw [List.length_map]; exact hn) (by show (avs.reverse ++ .ref i :: st).map (xv G) = _; rw [List.map_append, List.map_reverse]; rfl) (by rw [C.2.1]; exact hd)
theorem xGo_s {z : xY} {index n : Nat} {avs : List Value} (hd : decode y.2.1 pc = .ok (.invokestatic index, 3)) (hc : xcs y.1.cls index z n) (hn : avs.length = n) : xGo G y k pc L (avs.reverse ++ st) w z avs st := by
  intro p e s m args below meth c T locs ls C hW hl X
  obtain ⟨⟨c1, c2, c3, c4⟩, c5, c6⟩ := hc
  have hts := C.2.2.2.2.2.1
  exact xInv_stat X C.1 C.2.2.2.2.1 (hts _ c5) (hts _ c6) (hts _ c2) (hts _ c1) c3 rfl (argsL := avs.map (xv G)) (rest := st.map (xv G)) c4 (by rw [List.length_map]; exact hn) (by show (avs.reverse ++ st).map (xv G) = _; rw [List.map_append, List.map_reverse]) (by rw [C.2.1]; exact hd)
theorem xGo_n {z : xY} {index n : Nat} {host : String} {avs : List Value} (hd : decode y.2.1 pc = .ok (.invokestatic index, 3)) (hc : xcn y.1.cls index z n host) (hn : avs.length = n) : xGo G y k pc L (avs.reverse ++ st) w z avs st := by
  intro p e s m args below meth c T locs ls C hW hl X
  obtain ⟨⟨c1, c2, c3, c4⟩, c5, c6⟩ := hc
  have hts := C.2.2.2.2.2.1
  exact xInv_statN X C.1 C.2.2.2.2.1 (host := host) (va_Nw.use rfl (C.2.2.2.2.2.2.2.2.1.2.2.2.2.2.1 _ c5)) (hts _ c6) (hts _ c2) (hts _ c1) c3 rfl (argsL := avs.map (xv G)) (rest := st.map (xv G)) c4 (by rw [List.length_map]; exact hn) (by show (avs.reverse ++ st).map (xv G) = _; rw [List.map_append, List.map_reverse]) (by rw [C.2.1]; exact hd)
theorem xGo_i {nm : MethodName} {by_ : ByteArray} {ml : Nat} {rm : Room} {index n i : Nat} {avs : List Value} (hd : decode y.2.1 pc = .ok (.invokespecial index, 3)) (hc : xcw (nm, by_, ml, none, rm, []) n) (hl1 : Cond.methodLink y.1.cls index nm ∈ xTw) (hl2 : Cond.instanceMethod nm ∈ xTw) (hin : nm.name = "<init>") (hn : avs.length = n) : xGo G y k pc L (avs.reverse ++ .ref i :: st) w (nm, by_, ml, none, rm, []) (.ref i :: avs) st := by
  intro p e s m args below meth c T locs ls C hW hl X
  obtain ⟨c1, c2, c3, c4⟩ := hc
  have hts := C.2.2.2.2.2.1
  exact xInv_init X C.1 C.2.2.2.2.1 hin (hts _ hl1) (hts _ hl2) (hts _ c1) c3 rfl (argsL := avs.map (xv G)) (rest := st.map (xv G)) c4 (by rw [List.length_map]; exact hn) (by show (avs.reverse ++ .ref i :: st).map (xv G) = _; rw [List.map_append, List.map_reverse]; rfl) (by rw [C.2.1]; exact hd)
/-- the mode behind a call -/
def xmd (m mz mr m2 len len2 kc : Nat) : Prop := (m2 = 1 → m = 1 ∧ mr = 1) ∧ (m2 = 2 → m = 2 ∧ len2 = len + kc) ∧ (mz = 2 → m = 2)
theorem x_exact {p : Program} {l : Launch} {e : Env} {R : Room} {s : State} {m : MethodId} {args : Array Value} {below : List Frame} {meth : Method} {c : Code} {T : State} {locs : List Loc} {k : Nat × Nat} {h : List va_E} (X : Stand p l e R s m args below meth c T locs k.1 k.2) (hb : gb G ≤ s.heap.size) (hz : s.heap.size ≤ T.heap.size) (hW : xW G h T.heap) (he : s.heap.size + k.1 = gb G + h.length) : T.heap.size = gb G + h.length := by
  have h1 := X.heapSize
  have h2 := xW_len hW (Nat.le_trans hb hz)
  omega
theorem J_call {z : xY} {avs st0 : List Value} {w2 : xH} {mz mr : Nat} {v : Option Value} {h2 : List va_E} {kz : Nat × Nat} (hg : xGo G y k pc L st0 w z avs st) (hz : xwd z ∈ xTw ∧ Cond.initialized z.1.cls ∈ xTw) (hR : xcR z k y.2.2.2.2.1) (hst : (st.map fun v => v.category).sum ≤ 8) (hM : XM G z avs (mz, w.2) (.inl v, (mr, h2), kz)) (hw2 : w2.2 = h2) (hmd : xmd w.1 mz mr w2.1 w.2.length h2.length kz.1)
    (h : JW G y (k.1 + kz.1, k.2 + kz.2) (pc + 3) L (v.toList ++ st) w2 r) : JW G y k pc L st0 w r := by
  intro p e s m args below meth c H locs ls C hS hW hMo hl T hT X
  subst hT
  have hK := C.2.2.2.2.2.2.2.2.1
  have hex : w.1 = 2 → T.heap.size = gb G + w.2.length := fun q => x_exact X hK.2.1 hS.1 hW (hMo.2 q)
  have hsum : (((st.map (xv G)).map fun v => v.category).sum) = ((st.map fun v => v.category).sum) := by rw [List.map_map]; congr 1; exact List.map_congr_left (fun v _ => xv_cat G v)
  obtain ⟨o, T', L', X', hW', hS', hmode, hret, -⟩ := x_ran (hg p e s m args below meth c T locs ls C hW hl X) hM C.2.2.2.2.2.1 hz.1 hz.2 hK hS hW (fun q => hex (hmd.2.2 q)) rfl (by rw [C.2.2.2.1]; exact hl.1) (by rw [hsum]; show 2 * 0 + _ ≤ 8; omega) hR
  have hmo' : xM G (k.1 + kz.1, k.2 + kz.2) w2 s T'.heap (locs ++ L') := by
    refine ⟨fun q => ?_, fun q => ?_⟩
    · obtain ⟨q1, q2⟩ := hmd.1 q
      obtain ⟨e1, e2⟩ := hMo.1 q1
      obtain ⟨e3, e4⟩ := hmode q2
      exact ⟨e3.trans e1, by rw [e2, e4]; rfl⟩
    · obtain ⟨q1, q2⟩ := hmd.2.1 q
      have := hMo.2 q1
      rw [hw2, q2]
      show s.heap.size + (k.1 + kz.1) = _
      omega
  have hv : (v.map (xv G)).toList ++ st.map (xv G) = (v.toList ++ st).map (xv G) := by cases v <;> rfl
  obtain ⟨t, a1, b1⟩ := h p e s m args below meth c T'.heap (locs ++ L') ls C hS' (by rw [hw2]; exact hW') hmo' hl T' rfl X'
  refine ⟨t, hret v rfl t ?_, b1⟩
  rw [show ({ F0 m pc ls (st0.map (xv G)) with pc := (F0 m pc ls (st0.map (xv G))).pc + 3, stack := (v.map (xv G)).toList ++ st.map (xv G) } : JFrame) = F0 m (pc + 3) ls ((v.toList ++ st).map (xv G)) by rw [hv]]
  exact a1
/-- a callee throws, and this method has no handler -/
theorem J_callT {z : xY} {avs st0 : List Value} {mz mr : Nat} {E : String} {h2 : List va_E} {kz : Nat × Nat} (hg : xGo G y k pc L st0 w z avs st) (hz : xwd z ∈ xTw ∧ Cond.initialized z.1.cls ∈ xTw) (hR : xcR z k y.2.2.2.2.1) (hst : (st.map fun v => v.category).sum ≤ 8) (hM : XM G z avs (mz, w.2) (.inr E, (mr, h2), kz)) (hmz : ¬ mz = 2) (hhh : y.2.2.2.2.2 = []) (hr : r = (.inr E, (0, h2), k.1 + kz.1, k.2 + kz.2)) : JW G y k pc L st0 w r := by
  intro p e s m args below meth c H locs ls C hS hW hMo hl T hT X
  subst hT
  have hK := C.2.2.2.2.2.2.2.2.1
  have hsum : (((st.map (xv G)).map fun v => v.category).sum) = ((st.map fun v => v.category).sum) := by rw [List.map_map]; congr 1; exact List.map_congr_left (fun v _ => xv_cat G v)
  obtain ⟨o, T', L', X', hW', hS', hmode, -, hthr⟩ := x_ran (hg p e s m args below meth c T locs ls C hW hl X) hM C.2.2.2.2.2.1 hz.1 hz.2 hK hS hW (fun q => absurd q hmz) rfl (by rw [C.2.2.2.1]; exact hl.1) (by rw [hsum]; show 2 * 0 + _ ≤ 8; omega) hR
  obtain ⟨x, cell, h1, h2', h3, hst⟩ := hthr E rfl
  have hempty : c.exceptionTable.toList = [] := by
    have : c.exceptionTable.toList.map (fun h => (h.startPc, h.endPc, h.handlerPc, h.catchType)) = [] := C.2.2.2.2.2.2.2.1.trans hhh
    exact List.map_eq_nil_iff.mp this
  obtain ⟨hw, hrun, hend, hWU, hsame⟩ := X'.leaveThrown x (g := { F0 m pc ls (st0.map (xv G)) with stack := st.map (xv G) }) rfl rfl rfl (by rw [hempty]; intro q hq; cases hq) C.2.2.2.2.2.2.1
  subst hr
  exact ⟨_, hst _ hw, .threw x, hrun, hend, ⟨x, cell, rfl, h1, h2', h3⟩, hW', hS'.F rfl, locs ++ L', hWU, hsame, hS'.2.2, fun q => (by cases q)⟩
end XE
