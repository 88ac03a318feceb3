section XCALL
variable {p : Program} {l : Launch} {e : Env} {R : Room} {s : State} {m : MethodId} {sargs : Array Value} {below : List Frame} {meth : Method} {c : Code} {U : State} {Ls : List Loc} {c0 s0 : Nat}
/-- a call of a method that is met: it returns, or it throws; the frame below is as it was -/
theorem x_call (X : Stand p l e R s m sargs below meth c U Ls c0 s0) {z : MethodName} {S : Spec} {P : Array Value → State → Prop} {Q : Array Value → State → Outcome → State → Prop} (hM : MetFree l z S P (fun _ _ _ _ _ => True) Q)
    {g : JFrame} (hg : g.method = m) (hsize : g.locals.size = c.maxLocals) {ig : Instr} {len : Nat} (hdg : decode c.code g.pc = .ok (ig, len)) {mk : MethodId} {a : Array Value} (hn : U.methodNamed? z = some mk) {methY : Method} {cY : Code} (hmY : U.vm.method? mk = some methY) (hcY : methY.code = some cY) (hini : (Cond.initialized z.cls).before a U = true)
    (hfr0 : S.room.frames + 1 ≤ R.frames) (hlo : 2 * g.monitorRoom + (g.stack.map fun v => v.category).sum + (cY.maxLocals + 11) + S.room.locals ≤ R.locals) (hce : c0 + S.room.cells ≤ R.cells) (hsl : s0 + S.room.slots ≤ R.slots)
    (hpre : S.pre.before a U = true) (hP : P a (U.calling g mk a))
    {E : Outcome → State → List Loc → Nat → Nat → Prop} (hQ : ∀ o t, Q a (U.calling g mk a) o t → ∃ L k n, (U.calling g mk a).WarmedH t.vm ∧ (U.calling g mk a).sameButNew ({ t with vm := (U.calling g mk a).vm } : State) L k n ∧ E o t L k n) :
    ∃ (o : Outcome) (t T' : State) (L : List Loc) (k n : Nat), E o t L k n ∧ T'.heap = t.heap ∧ T'.vm = t.vm ∧ U.WarmedH t.vm ∧ Stand p l e R s m sargs below meth c T' (Ls ++ L) (c0 + k) (s0 + n) ∧
      (∀ v, o = .returned v → Steps p.tables e below (doInvoke e (U.setTop g) [] mk a).1 (T'.setTop { g with pc := g.pc + len, stack := v.toList ++ g.stack })) ∧
      (∀ x, o = .threw x → Steps p.tables e below (doInvoke e (U.setTop g) [] mk a).1 ((T'.setTop g).pushFrame (.throwing x))) := by
  obtain ⟨kY, hkY, -⟩ := className_of_methodNamed hn
  have hinitY : kY.init = .initialized := Cond.initialized_spec (findClass_of_methodNamed hn) hkY hini
  have h : At U g.method c below := by rw [hg]; exact X.here
  have happ : S.appliesLoose z e.platform (U.calling g mk a) = true :=
    Spec.appliesLoose_calling (g := g) h hdg hn hkY hinitY (X.room_calling (g := g) (R' := S.room) hsize hmY hcY hfr0 hlo hce hsl) hpre
  obtain ⟨mid, hmid⟩ := h.above
  have hfr : (U.setTop g).frames = (.java g :: mid) ++ below := by rw [State.frames_setTop' g h.top, hmid]; rfl
  obtain ⟨o, s₂, hsteps, -, hend, hq⟩ := Steps.callFree hM p X.admits X.cas X.clock (acts := []) hfr happ hP trivial
  have hq' : Q a (U.calling g mk a) o s₂ := hq
  rw [State.frames_setTop' g h.top] at hend
  obtain ⟨L, k, n, hW₂, ⟨e2, q2, q3, q4, q5, q6⟩, hE⟩ := hQ _ _ hq'
  have e3 : s₂ = ({ (U.calling g mk a).setFrames s₂.frames with heap := s₂.heap, slotsUsed := s₂.slotsUsed } : State).setVm s₂.vm := by
    have : s₂ = ({ s₂ with vm := (U.calling g mk a).vm } : State).setVm s₂.vm := rfl
    rw [e2] at this
    exact this
  have hW' : U.WarmedH s₂.vm := hW₂
  obtain ⟨g₀, hg0⟩ := Option.isSome_iff_exists.mp h.top
  obtain ⟨r, hr⟩ := State.topJava?_eq_some.mp hg0
  have hr' : (({ U with heap := s₂.heap, slotsUsed := s₂.slotsUsed } : State).setVm s₂.vm).frames = .java g₀ :: r := hr
  have hsame : U.sameButNew ({ U with heap := s₂.heap, slotsUsed := s₂.slotsUsed } : State) L k n := by
    refine ⟨?_, q2, q3, q4, q5, q6⟩
    obtain ⟨t, ht, -⟩ := State.frames_cons hr
    show ({ U with heap := s₂.heap, slotsUsed := s₂.slotsUsed } : State) = { U.setFrames U.frames with heap := s₂.heap, slotsUsed := s₂.slotsUsed }
    rw [State.setFrames_self ht]
  refine ⟨o, s₂, (({ U with heap := s₂.heap, slotsUsed := s₂.slotsUsed } : State).setVm s₂.vm), L, k, n, hE, rfl, rfl, hW', ?_, ?_, ?_⟩
  · exact ⟨X.admits, X.cas, X.clock, X.frames, X.room, X.hears, X.method, X.code, (X.here.setHeapUsed s₂.heap s₂.slotsUsed).setVm hW'.alike, X.tail, State.WarmedH.trans X.warmed hW', X.limits, X.bytes, X.same.trans (hsame.setVm s.vm)⟩
  · intro v hv
    subst hv
    obtain ⟨c₂, i₂, len₂, hc₂, hd₂, hf₂⟩ := hend
    have hcc : c₂ = c := by
      have h1 : s₂.code? g.method = U.code? g.method := by rw [State.code?_eq, State.code?_eq, hW'.alike.method?]
      exact Option.some.inj (hc₂.symm.trans (h1.trans h.code))
    subst hcc
    have hlen : len₂ = len := by rw [hdg] at hd₂; cases hd₂; rfl
    subst hlen
    have hs₂ : s₂ = (({ U with heap := s₂.heap, slotsUsed := s₂.slotsUsed } : State).setVm s₂.vm).setTop { g with pc := g.pc + len₂, stack := v.toList ++ g.stack } := by
      refine e3.trans ?_
      rw [hf₂, State.calling_eq h.top, State.setFrames_setFrames, State.setTop_of_frames _ hr', hr]
      rfl
    rw [← hs₂]
    exact hsteps
  · intro x hx
    subst hx
    have hf₂ : s₂.frames = .throwing x :: .java g :: U.frames.tail := hend
    have hs₂ : s₂ = ((({ U with heap := s₂.heap, slotsUsed := s₂.slotsUsed } : State).setVm s₂.vm).setTop g).pushFrame (.throwing x) := by
      refine e3.trans ?_
      rw [hf₂, State.calling_eq h.top, State.setFrames_setFrames, State.pushFrame, State.frames_setTop _ hr', State.setTop_of_frames _ hr', State.setFrames_setFrames, hr]
      rfl
    rw [← hs₂]
    exact hsteps
/-- an invocation is under way: the machine has come to the callee's entry -/
def xInv (p : Program) (l : Launch) (e : Env) (R : Room) (s : State) (m : MethodId) (sargs : Array Value) (below : List Frame) (meth : Method) (c : Code) (T : State) (Ls : List Loc) (c0 s0 : Nat) (g : JFrame) (z : xY) (a : Array Value) (rest : List Value) : Prop :=
  ∃ (vm₁ : Vm) (mk : MethodId) (methY : Method) (cY : Code) (ig : Instr), Stand p l e R s m sargs below meth c (T.setVm vm₁) Ls c0 s0 ∧ (T.setVm vm₁).methodNamed? z.1 = some mk ∧ (T.setVm vm₁).vm.method? mk = some methY ∧ methY.code = some cY ∧ cY.maxLocals = z.2.2.1 ∧ decode c.code g.pc = .ok (ig, 3) ∧
    ∀ target, Steps p.tables e below (doInvoke e ((T.setVm vm₁).setTop { g with stack := rest }) [] mk a).1 target → Steps p.tables e below (T.setTop g) target
theorem xInv_virt {T : State} (X : Stand p l e R s m sargs below meth c T Ls c0 s0) (hexec : p.tables.exec = Jvm.exec) {own : String} {index : Nat} {z : xY} (hown : s.vm.findClass own = some m.cls)
    (hlink : (Cond.methodLink own index z.1).before sargs s = true) (hinst : (Cond.instanceMethod z.1).before sargs s = true) (hsel : (Cond.selects z.1.cls z.1 z.1).before sargs s = true) (hcode : (xwd z).before sargs s = true) (hy : z.1.cls ≠ "java/lang/invoke/MethodHandle" ∧ z.1.cls ≠ "java/lang/invoke/VarHandle")
    {b : Addr} {cellB : Cell} (hcell : T.heap[b]? = some cellB) (hobj : cellB.vm.isStatics = false) (hcls : s.vm.findClass z.1.cls = some cellB.cls)
    {g : JFrame} (hg : g.method = m) {argsL rest : List Value} {n : Nat} (hlen : (parseMethodDescriptor z.1.desc).map (fun d => d.parameters.length) = some n) (hn : argsL.length = n)
    (hstack : g.stack = argsL.reverse ++ .ref b :: rest) (hdg : decode c.code g.pc = .ok (.invokevirtual index, 3)) : xInv p l e R s m sargs below meth c T Ls c0 s0 g z (Value.ref b :: argsL).toArray rest := by
  obtain ⟨mk, methY, cY, hnamed, hmethM, hcY, -, hml, -, -, -, hsig⟩ := xwd_spec hcode
  obtain ⟨mk', methM, hnamed', hmethM', hstM, habM⟩ := Cond.instanceMethod_spec hinst
  cases hnamed.symm.trans hnamed'
  cases hmethM.symm.trans hmethM'
  obtain ⟨c2, r2, m2, q1, q2, q3, q4, kP, hkP, hkPi⟩ := Cond.selects_spec hsel
  cases hcls.symm.trans q1
  cases (State.methodFound?_of_named hnamed hy).symm.trans q2
  cases hnamed.symm.trans q3
  have hselP : selectMethod e.platform s.vm cellB.cls mk = .method mk := by rw [Launch.admits_selectMethod X.admits]; exact q4
  have hl : argsL.length = methY.sig.parameters.length := by
    rw [hsig] at hlen
    exact hn.trans (Option.some.inj hlen).symm
  obtain ⟨vm₁, X₁, hstep₁⟩ := X.invokevirtual hexec hown hlink hnamed hmethM hstM hkP hkPi hy (a := b) (cell := cellB) hcell
    (fun q h => by rw [h] at hobj; cases hobj) hselP hmethM habM hkP hkPi (g := g) hg (argsL := argsL) (rest := rest) hl hstack hdg
  refine ⟨vm₁, mk, methY, cY, _, X₁, X₁.named hnamed, ?_, hcY, hml, hdg, fun target h => hstep₁ _ fun acts => by rw [doInvoke_state]; exact h⟩
  rw [X₁.warmed.alike.method?]; exact hmethM
theorem xInv_stat {T : State} (X : Stand p l e R s m sargs below meth c T Ls c0 s0) (hexec : p.tables.exec = Jvm.exec) {own : String} {index : Nat} {z : xY} (hown : s.vm.findClass own = some m.cls)
    (hlink : (Cond.methodLink own index z.1).before sargs s = true) (hstat : (Cond.static z.1).before sargs s = true) (hini : (Cond.initialized z.1.cls).before sargs s = true) (hcode : (xwd z).before sargs s = true) (hy : z.1.cls ≠ "java/lang/invoke/MethodHandle" ∧ z.1.cls ≠ "java/lang/invoke/VarHandle")
    {g : JFrame} (hg : g.method = m) {argsL rest : List Value} {n : Nat} (hlen : (parseMethodDescriptor z.1.desc).map (fun d => d.parameters.length) = some n) (hn : argsL.length = n)
    (hstack : g.stack = argsL.reverse ++ rest) (hdg : decode c.code g.pc = .ok (.invokestatic index, 3)) : xInv p l e R s m sargs below meth c T Ls c0 s0 g z argsL.toArray rest := by
  obtain ⟨mk, methY, cY, hnamed, hmethM, hcY, -, hml, -, -, -, hsig⟩ := xwd_spec hcode
  have hstatic : methY.isStatic = true := Cond.static_spec hnamed hmethM hstat
  obtain ⟨kP, hkP, -⟩ := className_of_methodNamed hnamed
  have hinitP : kP.init = .initialized := Cond.initialized_spec (findClass_of_methodNamed hnamed) hkP hini
  have hl : argsL.length = methY.sig.parameters.length := by
    rw [hsig] at hlen
    exact hn.trans (Option.some.inj hlen).symm
  obtain ⟨vm₁, X₁, hstep₁⟩ := X.invokestatic hexec hown hlink hnamed hmethM hstatic hkP hinitP hy (g := g) hg (argsL := argsL) (rest := rest) hl hstack hdg
  refine ⟨vm₁, mk, methY, cY, _, X₁, X₁.named hnamed, ?_, hcY, hml, hdg, fun target h => hstep₁ _ fun acts => by rw [doInvoke_state]; exact h⟩
  rw [X₁.warmed.alike.method?]; exact hmethM
theorem xInv_statN {T : State} (X : Stand p l e R s m sargs below meth c T Ls c0 s0) (hexec : p.tables.exec = Jvm.exec) {own host : String} {index : Nat} {z : xY} (hown : s.vm.findClass own = some m.cls)
    (hlink : (Cond.methodLinkNest own index z.1 host).before sargs s = true) (hstat : (Cond.static z.1).before sargs s = true) (hini : (Cond.initialized z.1.cls).before sargs s = true) (hcode : (xwd z).before sargs s = true) (hy : z.1.cls ≠ "java/lang/invoke/MethodHandle" ∧ z.1.cls ≠ "java/lang/invoke/VarHandle")
    {g : JFrame} (hg : g.method = m) {argsL rest : List Value} {n : Nat} (hlen : (parseMethodDescriptor z.1.desc).map (fun d => d.parameters.length) = some n) (hn : argsL.length = n)
    (hstack : g.stack = argsL.reverse ++ rest) (hdg : decode c.code g.pc = .ok (.invokestatic index, 3)) : xInv p l e R s m sargs below meth c T Ls c0 s0 g z argsL.toArray rest := by
  obtain ⟨mk, methY, cY, hnamed, hmethM, hcY, -, hml, -, -, -, hsig⟩ := xwd_spec hcode
  have hstatic : methY.isStatic = true := Cond.static_spec hnamed hmethM hstat
  obtain ⟨kP, hkP, -⟩ := className_of_methodNamed hnamed
  have hinitP : kP.init = .initialized := Cond.initialized_spec (findClass_of_methodNamed hnamed) hkP hini
  have hl : argsL.length = methY.sig.parameters.length := by
    rw [hsig] at hlen
    exact hn.trans (Option.some.inj hlen).symm
  obtain ⟨vm₁, X₁, hstep₁⟩ := X.invokestaticNest hexec hown hlink hnamed hmethM hstatic hkP hinitP hy (g := g) hg (argsL := argsL) (rest := rest) hl hstack hdg
  refine ⟨vm₁, mk, methY, cY, _, X₁, X₁.named hnamed, ?_, hcY, hml, hdg, fun target h => hstep₁ _ fun acts => by rw [doInvoke_state]; exact h⟩
  rw [X₁.warmed.alike.method?]; exact hmethM
theorem xInv_init {T : State} (X : Stand p l e R s m sargs below meth c T Ls c0 s0) (hexec : p.tables.exec = Jvm.exec) {own : String} {index : Nat} {nm : MethodName} {by_ : ByteArray} {ml : Nat} {rm : Room} (hown : s.vm.findClass own = some m.cls) (hy1 : nm.name = "<init>")
    (hlink : (Cond.methodLink own index nm).before sargs s = true) (hinst : (Cond.instanceMethod nm).before sargs s = true) (hcode : (Cond.code nm by_ ml none).before sargs s = true) (hy : nm.cls ≠ "java/lang/invoke/MethodHandle" ∧ nm.cls ≠ "java/lang/invoke/VarHandle")
    {b : Addr} {g : JFrame} (hg : g.method = m) {argsL rest : List Value} {n : Nat} (hlen : (parseMethodDescriptor nm.desc).map (fun d => d.parameters.length) = some n) (hn : argsL.length = n)
    (hstack : g.stack = argsL.reverse ++ .ref b :: rest) (hdg : decode c.code g.pc = .ok (.invokespecial index, 3)) : xInv p l e R s m sargs below meth c T Ls c0 s0 g (nm, by_, ml, none, rm, []) (Value.ref b :: argsL).toArray rest := by
  subst hg
  have hpl : e.platform.magicAccessors = ({} : Platform).magicAccessors := by rw [X.admits.platform]
  have hl : ∀ sig, parseMethodDescriptor nm.desc = some sig → argsL.length = sig.parameters.length := fun sig h => by
    rw [h] at hlen
    exact hn.trans (Option.some.inj hlen).symm
  obtain ⟨mk, methM, cM, kP, vm₁, hnamed, hmethM, hcodeM, -, hlocalsM, -, hkP, -, hW₁, hstep₁⟩ := Steps.initColdArgs (e := e) X.here hexec X.warmed hpl hown hy1 hy hlink hinst hcode (f := g) rfl hl hstack hdg
  have X₁ := X.noted hW₁
  refine ⟨vm₁, mk, methM, cM, _, X₁, X₁.named hnamed, ?_, hcodeM, hlocalsM, hdg, fun target h => hstep₁ _ fun acts => by rw [doInvoke_state]; exact h⟩
  rw [X₁.warmed.alike.method?]; exact hmethM
end XCALL
/-- behind an invocation: the callee's end, in the caller's words -/
theorem x_ran {G : xG} {p : Program} {e : Env} {R : Room} {s : State} {m : MethodId} {sargs : Array Value} {below : List Frame} {meth : Method} {c : Code} {T : State} {Ls : List Loc} {c0 s0 : Nat} {g : JFrame} {z : xY} {avs : List Value} {w : xH} {r : xR} {rest : List Value}
    (I : xInv p (gl G) e R s m sargs below meth c T Ls c0 s0 g z (avs.map (xv G)).toArray rest) (hM : XM G z avs w r) (hts : ∀ w ∈ xTw, w.before sargs s = true) (hz : xwd z ∈ xTw) (hzi : Cond.initialized z.1.cls ∈ xTw) (hK : xK G s) (hS : va_S (xA G) s.heap T.heap Ls) (hW : xW G w.2 T.heap) (hE : w.1 = 2 → T.heap.size = gb G + w.2.length)
    (hg : g.method = m) (hsize : g.locals.size = c.maxLocals) (hst : 2 * g.monitorRoom + (rest.map fun v => v.category).sum ≤ 8)
    (hR : z.2.2.2.2.1.frames + 1 ≤ R.frames ∧ 8 + (z.2.2.1 + 11) + z.2.2.2.2.1.locals ≤ R.locals ∧ c0 + z.2.2.2.2.1.cells ≤ R.cells ∧ s0 + z.2.2.2.2.1.slots ≤ R.slots) :
    ∃ (o : Outcome) (T' : State) (L : List Loc), Stand p (gl G) e R s m sargs below meth c T' (Ls ++ L) (c0 + r.2.2.1) (s0 + r.2.2.2) ∧ xW G r.2.1.2 T'.heap ∧ va_S (xA G) s.heap T'.heap (Ls ++ L) ∧ (r.2.1.1 = 1 → T'.heap = T.heap ∧ L = []) ∧
      (∀ v, r.1 = .inl v → ∀ target, Steps p.tables e below (T'.setTop { g with pc := g.pc + 3, stack := (v.map (xv G)).toList ++ rest }) target → Steps p.tables e below (T.setTop g) target) ∧
      (∀ E, r.1 = .inr E → ∃ (x : Addr) (cell : Cell), T'.heap[x]? = some cell ∧ cell.vm = .none ∧ s.vm.findClass E = some cell.cls ∧ ∀ target, Steps p.tables e below ((T'.setTop { g with stack := rest }).pushFrame (.throwing x)) target → Steps p.tables e below (T.setTop g) target) := by
  obtain ⟨vm₁, mk, methY, cY, ig, X₁, hn, hmY, hcY, hml, hdg, st⟩ := I
  have hWs : s.WarmedH vm₁ := X₁.warmed
  have hGd : ∀ w ∈ xTw, ∀ (a' : Array Value), w.before a' (T.setVm vm₁) = true := fun w hw a' => word_at (U := T.setVm vm₁) hWs (xTw_good w hw) (hts w hw)
  have hKT : ∀ (gg : JFrame) (a' : Array Value), xK G ((T.setVm vm₁).calling gg mk a') := fun gg a' => hK.moved (U := (T.setVm vm₁).calling gg mk a') hWs hS.1 hS.2.1
  obtain ⟨o, t, T', L, k, n, ⟨hq, rfl, rfl, hLA, hmode⟩, e1, e2, hWt, X', hret, hthr⟩ := x_call X₁ hM (g := { g with stack := rest }) hg hsize hdg hn hmY hcY (hGd _ hzi _) hR.1 (by rw [hml]; have := hR.2.1; show 2 * g.monitorRoom + (rest.map fun v => v.category).sum + (z.2.2.1 + 11) + z.2.2.2.2.1.locals ≤ R.locals; omega) hR.2.2.1 hR.2.2.2
    (atoms_intro (fun w hw => by
      rcases List.mem_cons.mp hw with h | h
      · rw [h]; exact hGd _ hz _
      · exact hGd _ h _)) ⟨rfl, hW, hKT _ _, hE⟩
    (E := fun o t L k n => (xO G r.1 ((T.setVm vm₁).calling { g with stack := rest } mk (avs.map (xv G)).toArray) o t ∧ xW G r.2.1.2 t.heap ∧ va_F (xA G) ((T.setVm vm₁).calling { g with stack := rest } mk (avs.map (xv G)).toArray) t) ∧ k = r.2.2.1 ∧ n = r.2.2.2 ∧ (∀ q ∈ L, xA G q.base) ∧ (r.2.1.1 = 1 → t.heap = T.heap ∧ L = []))
    (fun o t hq => by
      obtain ⟨h1, h2, h3, L, h4, h5, h6, h7⟩ := hq
      exact ⟨L, _, _, h4, h5, ⟨h1, h2, h3⟩, rfl, rfl, h6, h7⟩)
  obtain ⟨hO, hWr, hF⟩ := hq
  have hF1 : T.heap.size ≤ t.heap.size := hF.1
  have hF2 : ∀ q : Nat, q < T.heap.size → ¬ xA G q → t.heap[q]? = T.heap[q]? := hF.2
  refine ⟨o, T', L, X', by rw [e1]; exact hWr, ⟨by rw [e1]; exact Nat.le_trans hS.1 hF1, fun q h1 h2 => by rw [e1, hF2 q (Nat.lt_of_lt_of_le h1 hS.1) h2]; exact hS.2.1 q h1 h2, fun q hq => ?_⟩, fun h => by rw [e1]; exact hmode h, fun v hv target ht => st target ?_, fun E hE => ?_⟩
  · rcases List.mem_append.mp hq with h | h
    · exact hS.2.2 q h
    · exact hLA q h
  · rw [hv] at hO
    exact (hret _ hO).trans ht
  · rw [hE] at hO
    obtain ⟨x, cell, h1, h2, h3, h4⟩ := hO
    refine ⟨x, cell, by rw [e1]; exact h2, h3, ?_, fun target ht => st target ((hthr _ h1).trans ht)⟩
    have h4' : vm₁.findClass E = some cell.cls := h4
    rw [hWs.alike.findClass] at h4'
    exact h4'
