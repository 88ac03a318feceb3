section XF
variable {Q : Handler → Pre} {E : CtlPost} {e : Env} {d : Bool} {acts : List Action} {s : State} {f : JFrame} {a : Addr}
/-- the search passes an entry whose class the object isn't of, its pool entry cold or warm -/
theorem xf_pass {x : ExceptionTableEntry} {t : List ExceptionTableEntry} {c : ClassId} {cell : Cell} (hx : covers x f.pc = true) (h0 : x.catchType ≠ 0) (hl : s.vm.ClassLinks e.platform f.method.cls x.catchType c) (hcell : s.heap[a]? = some cell) (hobj : ∀ k, cell.vm ≠ .statics k)
    (hk : ∃ k, s.vm.classes[cell.cls]? = some k) (hc : ∃ k, s.vm.classes[c]? = some k) (hfit : s.vm.assignable cell.cls c = false) :
    wp (findHandler.go f a (x :: t)) Q E e d acts s ↔ wp (findHandler.go f a t) Q E e d acts (s.setVm (s.vm.noted f.method.cls x.catchType (.cls c))) := by
  simp only [covers] at hx
  obtain ⟨ha, ht⟩ := (resolveClass_links e.toSetting hl).op (op := VmOp.resolveClass f.method.cls x.catchType) rfl
  have hal : s.vm.Alike (s.vm.noted f.method.cls x.catchType (.cls c)) := (Vm.Alike.refl s.vm).noted _ _ _
  obtain ⟨k1, hk1⟩ := hk
  obtain ⟨k2, hk2⟩ := hc
  obtain ⟨k1', hk1', -⟩ := hal.2.2 _ _ hk1
  obtain ⟨k2', hk2', -⟩ := hal.2.2 _ _ hk2
  have hfit' : (s.vm.noted f.method.cls x.catchType (.cls c)).assignable cell.cls c = false := by rw [hal.assignable]; exact hfit
  simp [findHandler.go, hx, h0, ha, ht, hcell, hobj, hk1', hk2', hfit', VmOp.dirties, VmOp.acts]
theorem xf_found {x : ExceptionTableEntry} {t : List ExceptionTableEntry} {c : ClassId} {cell : Cell} (hx : covers x f.pc = true) (h0 : x.catchType ≠ 0) (hl : s.vm.ClassLinks e.platform f.method.cls x.catchType c) (hcell : s.heap[a]? = some cell) (hobj : ∀ k, cell.vm ≠ .statics k)
    (hk : ∃ k, s.vm.classes[cell.cls]? = some k) (hc : ∃ k, s.vm.classes[c]? = some k) (hfit : s.vm.assignable cell.cls c = true) :
    wp (findHandler.go f a (x :: t)) Q E e d acts s ↔ Q (.found x.handlerPc) d acts (s.setVm (s.vm.noted f.method.cls x.catchType (.cls c))) := by
  simp only [covers] at hx
  obtain ⟨ha, ht⟩ := (resolveClass_links e.toSetting hl).op (op := VmOp.resolveClass f.method.cls x.catchType) rfl
  have hal : s.vm.Alike (s.vm.noted f.method.cls x.catchType (.cls c)) := (Vm.Alike.refl s.vm).noted _ _ _
  obtain ⟨k1, hk1⟩ := hk
  obtain ⟨k2, hk2⟩ := hc
  obtain ⟨k1', hk1', -⟩ := hal.2.2 _ _ hk1
  obtain ⟨k2', hk2', -⟩ := hal.2.2 _ _ hk2
  have hfit' : (s.vm.noted f.method.cls x.catchType (.cls c)).assignable cell.cls c = true := by rw [hal.assignable]; exact hfit
  simp [findHandler.go, hx, h0, ha, ht, hcell, hobj, hk1', hk2', hfit', VmOp.dirties, VmOp.acts]
/-- what an entry of the table says in the tables of the method's entry s0 -/
def xEn (e : Env) (s0 : State) (f : JFrame) (cell : Cell) (fits : Bool) (x : ExceptionTableEntry) : Prop := covers x f.pc = true ∧ x.catchType ≠ 0 ∧ ∃ c, s0.vm.ClassLinks e.platform f.method.cls x.catchType c ∧ s0.vm.assignable cell.cls c = fits
theorem xf_all {s0 : State} {cell : Cell} (hobj : ∀ k, cell.vm ≠ .statics k) (hk : ∃ k, s0.vm.classes[cell.cls]? = some k) (x : ExceptionTableEntry) (rest : List ExceptionTableEntry) (hx : xEn e s0 f cell true x) :
    ∀ (pre : List ExceptionTableEntry), (∀ q ∈ pre, xEn e s0 f cell false q) → ∀ U : State, s0.WarmedH U.vm → U.heap[a]? = some cell →
      ∃ vm' : Vm, s0.WarmedH vm' ∧ ∀ (Q : Handler → Pre) (E : CtlPost) (d : Bool) (acts : List Action), wp (findHandler.go f a (pre ++ x :: rest)) Q E e d acts U ↔ Q (.found x.handlerPc) d acts (U.setVm vm') := by
  intro pre
  induction pre with
  | nil =>
    intro _ U hW hcell
    obtain ⟨h1, h2, c, hcl, hfit⟩ := hx
    obtain ⟨dk, _, _, kt, hd, _, _, _, _, hkt, _, hopen⟩ := hcl.here
    have hal := hW.alike
    obtain ⟨kt', hkt', -⟩ := hal.2.2 _ _ hkt
    obtain ⟨k0, hk0⟩ := hk
    obtain ⟨k0', hk0', -⟩ := hal.2.2 _ _ hk0
    refine ⟨_, hW.noted hd hopen (State.rightAt_cls hcl), fun Q E d acts => ?_⟩
    exact xf_found h1 h2 (hW.classLinks hcl) hcell hobj ⟨k0', hk0'⟩ ⟨kt', hkt'⟩ (by rw [hal.assignable]; exact hfit)
  | cons q qs ih =>
    intro hp U hW hcell
    obtain ⟨h1, h2, c, hcl, hfit⟩ := hp q List.mem_cons_self
    obtain ⟨dk, _, _, kt, hd, _, _, _, _, hkt, _, hopen⟩ := hcl.here
    have hal := hW.alike
    obtain ⟨kt', hkt', -⟩ := hal.2.2 _ _ hkt
    obtain ⟨k0, hk0⟩ := hk
    obtain ⟨k0', hk0', -⟩ := hal.2.2 _ _ hk0
    have hW1 : s0.WarmedH (U.vm.noted f.method.cls q.catchType (.cls c)) := hW.noted hd hopen (State.rightAt_cls hcl)
    obtain ⟨vm', hW2, hall⟩ := ih (fun z hz => hp z (List.mem_cons_of_mem _ hz)) (U.setVm (U.vm.noted f.method.cls q.catchType (.cls c))) hW1 hcell
    refine ⟨vm', hW2, fun Q E d acts => ?_⟩
    rw [List.cons_append, xf_pass h1 h2 (hW.classLinks hcl) hcell hobj ⟨k0', hk0'⟩ ⟨kt', hkt'⟩ (by rw [hal.assignable]; exact hfit)]
    exact hall Q E d acts
theorem xs_catch {r : List Frame} {pc : Nat} {vm' : Vm} (hfind : ∀ (Q : Handler → Pre) (E : CtlPost) (d : Bool) (acts : List Action), wp (findHandler f a) Q E e d acts s ↔ Q (.found pc) d acts (s.setVm vm')) :
    (stepThrowing e s a (.java f :: r)).Is ((s.setVm vm').setFrames (.java { f with pc := pc, stack := [.ref a] } :: r)) [] := by
  simp only [stepThrowing, searchFrame, vmDo]
  generalize hr : Sem.go _ e false [] s = res
  obtain ⟨as, rfl, ha⟩ := Sem.eq_ok_of hr (a := Handler.found pc) (s' := s.setVm vm') (acts' := []) (by simp [hfind _ _ _ _])
  exact ⟨rfl, ha⟩
end XF
/-- what is thrown over a frame is caught there -/
theorem x_caught {p : Program} {l : Launch} {e : Env} {R : Room} {s : State} {m : MethodId} {args : Array Value} {below : List Frame} {meth : Method} {c : Code} {T : State} {locs : List Loc} {cells slots : Nat} (X : Stand p l e R s m args below meth c T locs cells slots) {a : Addr} {cell : Cell} (hcell : T.heap[a]? = some cell) (hvm : cell.vm = .none) (hk : ∃ k, s.vm.classes[cell.cls]? = some k) {g : JFrame} (hg : g.method = m)
    (pre : List ExceptionTableEntry) (x : ExceptionTableEntry) (rest : List ExceptionTableEntry) (hsplit : c.exceptionTable.toList = pre ++ x :: rest) (hx : xEn e s g cell true x) (hp : ∀ q ∈ pre, xEn e s g cell false q) :
    ∃ vm', Stand p l e R s m args below meth c (T.setVm vm') locs cells slots ∧ ∀ target, Steps p.tables e below ((T.setVm vm').setTop { g with pc := x.handlerPc, stack := [.ref a] }) target → Steps p.tables e below ((T.setTop g).pushFrame (.throwing a)) target := by
  subst hg
  obtain ⟨vm', hW', hall⟩ := xf_all (e := e) (f := g) (a := a) (s0 := s) (cell := cell) (fun k h => by rw [hvm] at h; cases h) hk x rest hx pre hp ((T.setTop g).pushFrame (.throwing a)) (by rw [Stand.throwing_vm]; exact X.warmed) (by rw [Stand.throwing_heap]; exact hcell)
  refine ⟨vm', X.noted hW', fun target hrest => ?_⟩
  have hfind : ∀ (Q : Handler → Pre) (E : CtlPost) (d : Bool) (acts : List Action), wp (findHandler g a) Q E e d acts ((T.setTop g).pushFrame (.throwing a)) ↔ Q (.found x.handlerPc) d acts (((T.setTop g).pushFrame (.throwing a)).setVm vm') := fun Q E d acts => by
    rw [W.findHandler_eq (meth := meth) (code := c) (by rw [Stand.throwing_vm]; exact X.method') X.code, hsplit]
    exact hall Q E d acts
  have h : At T g.method c below := X.here
  obtain ⟨hgo, hw⟩ := h.throwing a
  refine Steps.head hgo hw ?_
  rw [stepThread_throwing (frames_entered h.top _), (xs_catch (s := (T.setTop g).pushFrame (.throwing a)) hfind).1]
  obtain ⟨g₀, hg0⟩ := Option.isSome_iff_exists.mp h.top
  obtain ⟨r, hr⟩ := State.topJava?_eq_some.mp hg0
  have hr' : (T.setVm vm').frames = .java g₀ :: r := hr
  have hfs : ∀ (u : State) (F F2 : List Frame), ((u.setFrames F).setVm vm').setFrames F2 = (u.setVm vm').setFrames F2 := fun u F F2 => by
    have h1 : (u.setFrames F).setVm vm' = (u.setVm vm').setFrames F := rfl
    rw [h1, State.setFrames_setFrames]
  rw [State.setTop_of_frames _ hr'] at hrest
  rw [hr, List.tail_cons, State.pushFrame, hfs, State.setTop_of_frames _ hr, hfs]
  exact hrest
section XG
variable {G : xG} {y : xY} {k : Nat × Nat} {pc : Nat} {L : List (Nat × Value)} {st : List Value} {w : xH} {r : xR}
/-- the handler of a throw of class E at pc, by the method's table: entries that are passed, then the one that takes it -/
def xcat (y : xY) (pc : Nat) (E : String) (hp : Nat) : Prop :=
  ∃ (pre : List (Nat × Nat × Nat × Nat)) (q : Nat × Nat × Nat × Nat) (rest : List (Nat × Nat × Nat × Nat)), y.2.2.2.2.2 = pre ++ q :: rest ∧ q.2.2.1 = hp ∧ (∀ u ∈ pre ++ [q], u.1 ≤ pc ∧ pc < u.2.1 ∧ u.2.2.2 ≠ 0) ∧ (∀ u ∈ pre, ∃ nm, Cond.classLink y.1.cls u.2.2.2 nm ∈ xTw ∧ (E, nm) ∈ xTc) ∧ ∃ nm, Cond.classLink y.1.cls q.2.2.2 nm ∈ xTw ∧ (E, nm) ∈ xTk
theorem J_callC {z : xY} {avs st0 : List Value} {mz mr : Nat} {E : String} {h2 : List va_E} {kz : Nat × Nat} {hp hp1 : Nat} {n : Int} {v : Int32} (hg : xGo G y k pc L st0 w z avs st) (hz : xwd z ∈ xTw ∧ Cond.initialized z.1.cls ∈ xTw) (hR : xcR z k y.2.2.2.2.1) (hst : (st.map fun v => v.category).sum ≤ 8) (hM : XM G z avs (mz, w.2) (.inr E, (mr, h2), kz)) (hmz : ¬ mz = 2) (hc : xcat y pc E hp)
    (hda : (∃ j : Fin 4, decode y.2.1 hp = .ok (.astore_n j, 1) ∧ (j : Nat) < y.2.2.1 ∧ hp1 = hp + 1) ∨ (∃ j : Nat, decode y.2.1 hp = .ok (.astore j, 2) ∧ j < y.2.2.1 ∧ hp1 = hp + 2)) (hdi : decode y.2.1 hp1 = .ok (.iconst n, 1)) (hv : Int32.ofInt n = v) (hdr : decode y.2.1 (hp1 + 1) = .ok (.ireturn, 1)) (hy : y.2.2.2.1 = some .int)
    (hr : r = (.inl (some (.int v)), (0, h2), k.1 + kz.1, k.2 + kz.2)) : JW G y k pc L st0 w r := by
  intro p e s m args below meth c H locs ls C hS hW hMo hl T hT X
  subst hT
  have hK := C.2.2.2.2.2.2.2.2.1
  have hts := C.2.2.2.2.2.1
  have hsum : (((st.map (xv G)).map fun v => v.category).sum) = ((st.map fun v => v.category).sum) := by rw [List.map_map]; congr 1; exact List.map_congr_left (fun v _ => xv_cat G v)
  obtain ⟨o, T', L', X', hW', hS', hmode, -, hthr⟩ := x_ran (hg p e s m args below meth c T locs ls C hW hl X) hM hts hz.1 hz.2 hK hS hW (fun q => absurd q hmz) rfl (by rw [C.2.2.2.1]; exact hl.1) (by rw [hsum]; show 2 * 0 + _ ≤ 8; omega) hR
  obtain ⟨x, cell, h1, hvm, hfE, hstp⟩ := hthr E rfl
  obtain ⟨pre, q, rest, hsp, hqh, hcov, hpre, nmq, hlq, hcq⟩ := hc
  have htab : c.exceptionTable.toList.map (fun h => (h.startPc, h.endPc, h.handlerPc, h.catchType)) = pre ++ q :: rest := C.2.2.2.2.2.2.2.1.trans hsp
  obtain ⟨pre', tl, e1, e2, e3⟩ := List.map_eq_append_iff.mp htab
  obtain ⟨q', rest', e4, e5, e6⟩ := List.map_eq_cons_iff.mp e3
  subst e4
  have hpl : e.platform.magicAccessors = ({} : Platform).magicAccessors := by rw [X.admits.platform]
  have hcE : ∃ kE, s.vm.classes[cell.cls]? = some kE := Vm.classAt_of_findClass hfE
  have hxq : xEn e s { F0 m pc ls (st0.map (xv G)) with stack := st.map (xv G) } cell true q' := by
    have hq := hcov q (List.mem_append_right _ List.mem_cons_self)
    rw [← e5] at hq hlq
    obtain ⟨cT, hcT, hcl⟩ := Cond.classLink_spec C.2.2.2.2.1 (hts _ hlq) e.platform hpl
    obtain ⟨c3, c4, hc3, hc4, hasg⟩ := Cond.castable_spec (hK.2.2.2.2.2.2.2.2.2.2.1 _ hcq)
    cases hc3.symm.trans hfE
    cases hc4.symm.trans hcT
    refine ⟨?_, hq.2.2, cT, hcl, hasg⟩
    show (decide (q'.startPc ≤ pc) && decide (pc < q'.endPc)) = true
    simp [hq.1, hq.2.1]
  have hxp : ∀ u ∈ pre', xEn e s { F0 m pc ls (st0.map (xv G)) with stack := st.map (xv G) } cell false u := fun u hu => by
    have hu' : (u.startPc, u.endPc, u.handlerPc, u.catchType) ∈ pre := by rw [← e2]; exact List.mem_map.mpr ⟨u, hu, rfl⟩
    have hq := hcov _ (List.mem_append_left _ hu')
    obtain ⟨nm, hl1, hl2⟩ := hpre _ hu'
    obtain ⟨cT, hcT, hcl⟩ := Cond.classLink_spec C.2.2.2.2.1 (hts _ hl1) e.platform hpl
    refine ⟨?_, hq.2.2, cT, hcl, hK.2.2.2.2.2.2.2.2.1 _ hl2 _ _ hfE hcT⟩
    show (decide (u.startPc ≤ pc) && decide (pc < u.endPc)) = true
    simp [hq.1, hq.2.1]
  obtain ⟨vm', X2, hst2⟩ := x_caught X' h1 hvm hcE rfl pre' q' rest' e1 hxq hxp
  have hqp : q'.handlerPc = hp := by rw [← hqh, ← e5]
  rw [hqp] at hst2
  have fin : ∀ ls' : Array Slot, W p (gl G) e y.2.2.2.2.1 s m args below meth c T'.heap (locs ++ L') (k.1 + kz.1) (k.2 + kz.2) (xZ G r below s) (F0 m hp1 ls' []) := fun ls' => by
    refine lv_iconst C.1 C.2.1 hdi hv ?_
    refine x_mono (xZ_ret (args := args) (w := (0, h2)) (k := (k.1 + kz.1, k.2 + kz.2)) (o0 := some (.int v)) hr hS' hW' ⟨fun q => (by cases q), fun q => (by cases q)⟩) (x_iret (ty := .int) C.1 C.2.1 (C.2.2.1.trans hy) rfl (Or.inl rfl) hdr C.2.2.2.2.2.2.1)
  have hh : W p (gl G) e y.2.2.2.2.1 s m args below meth c T'.heap (locs ++ L') (k.1 + kz.1) (k.2 + kz.2) (xZ G r below s) (F0 m hp ls [.ref x]) := by
    rcases hda with ⟨j, hj1, hj2, hj3⟩ | ⟨j, hj1, hj2, hj3⟩
    · exact lv_astore_n (lv' := _) C.1 C.2.1 hj1 rfl hl hj2 rfl (fun ls' _ => by rw [← hj3]; exact fin ls')
    · exact lv_astore (lv' := _) C.1 C.2.1 hj1 hl hj2 rfl (fun ls' _ => by rw [← hj3]; exact fin ls')
  obtain ⟨t, a1, b1⟩ := hh (T'.setVm vm') rfl X2
  exact ⟨t, hstp t (hst2 t a1), b1⟩
/-- Object's constructor -/
theorem J_obj {index i : Nat} (hd : decode y.2.1 pc = .ok (.invokespecial index, 3)) (h1 : Cond.methodLink y.1.cls index Lib.objectInit ∈ xTw) (h2 : Cond.instanceMethod Lib.objectInit ∈ xTw) (h3 : Cond.code Lib.objectInit ⟨#[0xb1]⟩ 1 none ∈ xTw) (hst : (st.map fun v => v.category).sum ≤ 8) (hR : 1 ≤ y.2.2.2.2.1.frames ∧ 20 ≤ y.2.2.2.2.1.locals) (h : JW G y k (pc + 3) L st w r) : JW G y k pc L (.ref i :: st) w r := by
  intro p e s m args below meth c H locs ls C hS hW hM hl
  have hts := C.2.2.2.2.2.1
  have hsum : (((st.map (xv G)).map fun v => v.category).sum) = ((st.map fun v => v.category).sum) := by rw [List.map_map]; congr 1; exact List.map_congr_left (fun v _ => xv_cat G v)
  refine W.objInit C.1 C.2.1 C.2.2.2.2.1 (hts _ h1) (hts _ h2) (hts _ h3) rfl (by rw [C.2.2.2.1]; exact hl.1) (a := gb G + i) (rest := st.map (xv G)) rfl hd hR.1 (by rw [hsum]; show 2 * 0 + _ + 12 ≤ _; have := hR.2; omega) ?_
  exact h p e s m args below meth c H locs ls C hS hW hM hl
theorem xM_app {G : xG} {k : Nat × Nat} {w : xH} {s : State} {H H1 : Heap} {locs locs1 : List Loc} (h : xM G k w s H locs) (hw : w.1 = 2) (c : va_E) (n : Nat) : xM G (k.1 + 1, n) (2, w.2 ++ [c]) s H1 locs1 :=
  ⟨fun q => (by cases q), fun _ => by have := h.2 hw; simp only [List.length_append, List.length_singleton]; omega⟩
theorem J_new {index ci N : Nat} {C0 : String} {T0 : u_T} {ty0 : Nat → FieldType} {fs : List Value} (hd : decode y.2.1 pc = .ok (.new index, 3)) (hw : w.1 = 2) (hc : xcl[ci]? = some (C0, T0, N)) (hin : ∀ q ∈ u_ws C0 T0 N, q ∈ xTw) (ht : xty ci ty0) (h1 : Cond.classLink y.1.cls index C0 ∈ xTw) (h2 : Cond.instantiable C0 N ∈ xTw) (h3 : Cond.initialized C0 ∈ xTw) (hfs : ∀ j, j < N → defaultValue (ty0 j) = vp_V (fs.map (xv G)) j) (hR : k.1 + 1 ≤ y.2.2.2.2.1.cells ∧ k.2 + N ≤ y.2.2.2.2.1.slots)
    (h : JW G y (k.1 + 1, k.2 + N) (pc + 3) L (.ref w.2.length :: st) (2, w.2 ++ [.inr (ci, fs)]) r) : JW G y k pc L st w r := by
  intro p e s m args below meth c H locs ls C hS hW hM hl T hT X
  subst hT
  have hts := C.2.2.2.2.2.1
  have hK := C.2.2.2.2.2.2.2.2.1
  have hz : T.heap.size = gb G + w.2.length := x_exact X hK.2.1 hS.1 hW (hM.2 hw)
  have hKn := hK.2.2.1.1 ci _ hc
  refine W.newcK C.1 C.2.1 C.2.2.2.2.1 (hts _ h1) (hts _ h2) (hts _ h3) (g := F0 m pc ls (st.map (xv G))) rfl hd hR.1 hR.2 hKn.2.1 hz (fun H1 kC hkC e1 z1 o1 => ?_) T rfl X
  refine h p e s m args below meth c H1 locs ls C ⟨by have := hS.1; omega, fun q q1 q2 => (o1 q (by have := hS.1; omega)).trans (hS.2.1 q q1 q2), hS.2.2⟩ ?_ (xM_app hM hw _ _) hl
  show va_P (gD G) xcl (xws G (w.2 ++ [.inr (ci, fs)])) H1
  rw [xws_app]
  refine va_P.app (hW.kept (fun k q hk => o1 q.1 (by have := (hW k q hk).lt; omega))) (fun k q hq => ?_)
  have hk0 : k < 1 := (List.getElem?_eq_some_iff.mp hq).1
  rw [show k = 0 by omega] at hq
  cases hq
  exact ⟨_, hc, (u_born ty0 hts hin hKn hkC e1 (ht C0 T0 N hc).1).to hfs⟩
theorem J_newa {t N : Nat} {at_ : ArrayType} {ty : FieldType} {n : Int32} {a0 : (Nat → Int32) ⊕ (Nat → Int64) ⊕ (Nat → UInt32) ⊕ (Nat → UInt64) ⊕ (Nat → Option Nat)} (hd : decode y.2.1 pc = .ok (.newarray at_, 2)) (hw : w.1 = 2) (hty : newarray.typeOf at_ = ty) (h1 : Cond.arrayClass ty ∈ xTw) (hn : ¬ n < 0) (hN : n.toNatClampNeg = N) (hbytes : N * componentBytes ty ≤ 536870912) (ht : ∃ cA, (gT G)[t]? = some (cA, ty) ∧ (∀ s : State, va_RA s cA ty → s.vm.findClass ("[" ++ ty.toString) = some cA)) (ha : ∀ cA : ClassId, vp_cell cA (N, a0) = arrV cA N (fun _ => defaultValue ty)) (hxe : ∀ cA : ClassId, ((gT G).getD t (0, .int)).1 = cA → xe G (.inl (t, N, a0)) = .inl (cA, N, a0)) (hR : k.1 + 1 ≤ y.2.2.2.2.1.cells ∧ k.2 + N ≤ y.2.2.2.2.1.slots)
    (h : JW G y (k.1 + 1, k.2 + N) (pc + 2) L (.ref w.2.length :: st) (2, w.2 ++ [.inl (t, N, a0)]) r) : JW G y k pc L (.int n :: st) w r := by
  intro p e s m args below meth c H locs ls C hS hW hM hl T hT X
  subst hT
  subst hty
  have hts := C.2.2.2.2.2.1
  have hK := C.2.2.2.2.2.2.2.2.1
  have hz : T.heap.size = gb G + w.2.length := x_exact X hK.2.1 hS.1 hW (hM.2 hw)
  obtain ⟨cA0, hcA0, hra⟩ := ht
  have e0 : ((gT G).getD t (0, .int)).1 = cA0 := by rw [List.getD_eq_getElem?_getD, hcA0]; rfl
  have hfc0 := hra s (hK.2.2.1.2 t _ hcA0).2
  refine va_newaK C.1 C.2.1 (hts _ h1) (g := F0 m pc ls (.int n :: st.map (xv G))) rfl hd rfl hn hN hbytes hR.1 hR.2 hz (fun H1 cA e1 z1 o1 hAr hNm => ?_) T rfl X
  cases hfc0.symm.trans hNm
  refine h p e s m args below meth c H1 locs ls C ⟨by have := hS.1; omega, fun q q1 q2 => (o1 q (by have := hS.1; omega)).trans (hS.2.1 q q1 q2), hS.2.2⟩ ?_ (xM_app hM hw _ _) hl
  show va_P (gD G) xcl (xws G (w.2 ++ [.inl (t, N, a0)])) H1
  rw [xws_app, hxe cA0 e0]
  refine va_P.app (hW.kept (fun k q hk => o1 q.1 (by have := (hW k q hk).lt; omega))) (fun k q hq => ?_)
  have hk0 : k < 1 := (List.getElem?_eq_some_iff.mp hq).1
  rw [show k = 0 by omega] at hq
  cases hq
  show H1[gb G + w.2.length]? = some (vp_cell cA0 (N, a0))
  rw [ha]
  exact e1
theorem J_anewa {t N index : Nat} {C0 : String} {n : Int32} (hd : decode y.2.1 pc = .ok (.anewarray index, 3)) (hw : w.1 = 2) (h1 : Cond.classLink y.1.cls index C0 ∈ xTw) (h2 : C0 ∈ xTo) (hn : ¬ n < 0) (hN : n.toNatClampNeg = N) (hbytes : N * 4 ≤ 536870912) (ht : ∃ cA, (gT G)[t]? = some (cA, .object C0)) (hR : k.1 + 1 ≤ y.2.2.2.2.1.cells ∧ k.2 + N ≤ y.2.2.2.2.1.slots)
    (h : JW G y (k.1 + 1, k.2 + N) (pc + 3) L (.ref w.2.length :: st) (2, w.2 ++ [.inl (t, N, .inr (.inr (.inr (.inr (fun _ => none)))))]) r) : JW G y k pc L (.int n :: st) w r := by
  intro p e s m args below meth c H locs ls C hS hW hM hl T hT X
  subst hT
  subst hN
  have hts := C.2.2.2.2.2.1
  have hK := C.2.2.2.2.2.2.2.2.1
  have hz : T.heap.size = gb G + w.2.length := x_exact X hK.2.1 hS.1 hW (hM.2 hw)
  obtain ⟨cA0, hcA0⟩ := ht
  have e0 : ((gT G).getD t (0, .int)).1 = cA0 := by rw [List.getD_eq_getElem?_getD, hcA0]; rfl
  obtain ⟨kA0, comp0, -, -, -, hfc0⟩ := (hK.2.2.1.2 t _ hcA0).2
  refine W.anew C.1 C.2.1 C.2.2.2.2.1 (hts _ h1) (va_AO.use (hK.2.2.2.2.2.2.2.2.2.2.2.2.2.2 _ h2)) (g := F0 m pc ls (.int n :: st.map (xv G))) rfl hd rfl hn hbytes hR.1 hR.2 (fun cA kA comp f1 f2 f3 f4 => ?_) T rfl X
  cases hfc0.symm.trans f1
  generalize hH1 : T.heap.push ({ cls := cA0, slots := Array.replicate n.toNatClampNeg .null, vm := .none } : Cell) = H1
  have z1 : H1.size = T.heap.size + 1 := by rw [← hH1, Array.size_push]
  have e1 : H1[T.heap.size]? = some (arrV cA0 n.toNatClampNeg (fun _ => .null)) := by rw [← hH1, Array.getElem?_push_size, ← arrV_new]
  have o1 : ∀ q : Nat, q < T.heap.size → H1[q]? = T.heap[q]? := fun q hq => by rw [← hH1, Array.getElem?_push, if_neg (Nat.ne_of_lt hq)]
  rw [hz]
  refine h p e s m args below meth c H1 locs ls C ⟨by have := hS.1; omega, fun q q1 q2 => (o1 q (by have := hS.1; omega)).trans (hS.2.1 q q1 q2), hS.2.2⟩ ?_ (xM_app hM hw _ _) hl
  show va_P (gD G) xcl (xws G (w.2 ++ [.inl (t, n.toNatClampNeg, .inr (.inr (.inr (.inr (fun _ => none)))))])) H1
  rw [xws_app]
  refine va_P.app (hW.kept (fun k q hk => o1 q.1 ((hW k q hk).lt))) (fun k q hq => ?_)
  have hk0 : k < 1 := (List.getElem?_eq_some_iff.mp hq).1
  rw [show k = 0 by omega] at hq
  cases hq
  show H1[gb G + w.2.length]? = some (vp_cell ((gT G).getD t (0, .int)).1 _)
  rw [e0, ← hz, e1]
  rfl
/-- more room is counted than was used -/
theorem J_widen {k2 : Nat × Nat} (h1 : k.1 ≤ k2.1) (h2 : k.2 ≤ k2.2) (hw : ¬ w.1 = 2) (h : JW G y k2 pc L st w r) : JW G y k pc L st w r :=
  fun p e s m args below meth c H locs ls C hS hW hM hl => W.widen h1 h2 (h p e s m args below meth c H locs ls C hS hW ⟨hM.1, fun q => absurd q hw⟩ hl)
/-- the mode may be forgotten -/
theorem J_forget (h : JW G y k pc L st (0, w.2) r) : JW G y k pc L st w r :=
  fun p e s m args below meth c H locs ls C hS hW hM hl => h p e s m args below meth c H locs ls C hS hW ⟨fun q => (by cases q), fun q => (by cases q)⟩ hl
end XG
