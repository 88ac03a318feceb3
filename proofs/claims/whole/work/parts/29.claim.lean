/-! FROM THE ENTRY TO THE CLAIM -/
def lw_P (b : Addr) (xs : List Int32) (args : Array Value) (s : State) : Prop := args = #[.ref b] ∧ s.IntsAt b xs ∧ xs.length ≤ 3584 ∧ (Jvm.Cond.and given_1 narrow_1).before args s = true
def lw_Q (_ : Array Value) (s : State) (o : Outcome) (t : State) : Prop := o = .returned (some (.int 1)) ∧ Framed s o t [] 663135 7106699
def lw_Z (below : List Frame) (a : Array Value) (s : State) : State → Prop := fun t => ∃ o, t.status = .running ∧ Ended t below o ∧ lw_Q a s o t
theorem st_prim {A : Array Value} {s : State} {ty : FieldType} (h : (Cond.arrayClass ty).before A s = true) : ∃ c : ClassId, ArrOfT s c ty ∧ s.vm.findClass ("[" ++ ty.toString) = some c := by
  obtain ⟨c, k, comp, h1, h2, h3⟩ := Cond.arrayClass_spec h
  exact ⟨c, fun n z => ⟨fun k h => (by cases h), k, h2, comp, h3⟩, h1⟩
theorem st_obj {A : Array Value} {s : State} {C : String} (h : (Cond.arrayOver (.object C)).before A s = true) : ∃ c : ClassId, ArrOfT s c (.object C) ∧ va_RA s c (.object C) := by
  obtain ⟨comp, c, k, f4, -, f2, f3, f1⟩ := Cond.arrayOver_spec h
  exact ⟨c, fun n z => ⟨fun k h => (by cases h), k, f2, comp, f3⟩, k, comp, f2, f3, f4, f1⟩
theorem st_cast {A : Array Value} {s : State} {C T : String} (h : (Cond.not (Cond.castable C T)).before A s = true) : ∀ c t : ClassId, s.vm.findClass C = some c → s.vm.findClass T = some t → s.vm.assignable c t = false := by
  intro c t e1 e2
  simp only [Cond.before, Cond.holds, Cond.value, e1, e2] at h
  cases hq : s.vm.assignable c t with
  | false => rfl
  | true => rw [hq] at h; simp at h
theorem st_new {s u : State} {L : List Loc} {c n c2 n2 : Nat} (h : s.sameButNew u L c n) (hc : c ≤ c2) (hn : n ≤ n2) (hL : ∀ q ∈ L, s.heap.size ≤ q.base) : s.sameButNew u [] c2 n2 := by
  obtain ⟨h1, h2, h3, h4, h5, h6⟩ := h
  refine ⟨h1, h2, Nat.le_trans h3 (Nat.add_le_add_left hc _), h4, Nat.le_trans h5 hn, fun a cell ha => ?_⟩
  obtain ⟨c', g1, g2, g3, g4⟩ := h6 a cell ha
  refine ⟨c', g1, g2, g3, fun i _ => g4 i (fun q => ?_)⟩
  have hl := hL _ q
  have hs : a < s.heap.size := (Array.getElem?_eq_some_iff.mp ha).1
  exact absurd hs (Nat.not_lt.mpr hl)
set_option maxHeartbeats 4000000 in
set_option maxRecDepth 100000 in
theorem st_G {l : Launch} {s : State} {b L : Nat} {xs : Nat → Int32} (hts : ∀ w ∈ lw_tbl, w.before #[Value.ref b] s = true) (hX : va_X b L xs s s.heap) (hbl : b < s.heap.size) (hgv : (Jvm.Cond.and given_1 narrow_1).before #[Value.ref b] s = true) (hl : l.stackTraces = false) :
    ∃ G : xG, gTok G ∧ gl G = l ∧ gb G = s.heap.size ∧ gs G = b ∧ gN G = L ∧ xK G s := by
  have hx : ∀ w ∈ xTw, w.before #[Value.ref b] s = true := fun w hw => hts w (xTw_tbl w hw)
  have hs := flat_of_before _ hgv
  obtain ⟨k0, f0, u0⟩ := u_known hx xu_RF (hx _ (xTw_1 15 rfl rfl))
  obtain ⟨k1, f1, u1⟩ := u_known hx xu_Sh (hx _ (xTw_1 23 rfl rfl))
  obtain ⟨k2, f2, u2⟩ := u_known hx xu_Pa (hx _ (xTw_1 38 rfl rfl))
  obtain ⟨k3, f3, u3⟩ := u_known hx xu_Bi (hx _ (xTw_1 62 rfl rfl))
  obtain ⟨k4, f4, u4⟩ := u_known hx xu_Sc (hx _ (xTw_1 98 rfl rfl))
  obtain ⟨k5, f5, u5⟩ := u_known hx xu_Bo (hx _ (xTw_1 129 rfl rfl))
  obtain ⟨k6, f6, u6⟩ := u_known hx xu_Mo (hx _ (xTw_3 64 rfl rfl))
  obtain ⟨c0, a0, n0⟩ := st_prim (hx _ (xTw_1 145 rfl rfl))
  obtain ⟨c1, a1, n1⟩ := st_prim (hx _ (xTw_3 146 rfl rfl))
  obtain ⟨c2, a2, n2⟩ := st_prim (hx _ (xTw_3 147 rfl rfl))
  obtain ⟨c3, a3, n3⟩ := st_obj (hts _ (xTo_tbl "ResidueFlows$Bin" (by decide +kernel)))
  obtain ⟨c4, a4, n4⟩ := st_obj (hts _ (xTo_tbl "ResidueFlows$Screen" (by decide +kernel)))
  refine ⟨(l, (fun c => [k0, k1, k2, k3, k4, k5, k6].getD c 0, fun c => [f0, f1, f2, f3, f4, f5, f6].getD c (fun _ => 0)), [(c0, .int), (c1, .long), (c2, .boolean), (c3, .object "ResidueFlows$Bin"), (c4, .object "ResidueFlows$Screen")], s.heap.size, b, L, xs), ⟨c0, c1, c2, c3, c4, rfl⟩, rfl, rfl, rfl, rfl, ?_⟩
  have hA : ∀ a : Nat, a < s.heap.size → ¬ s.heap.size ≤ a := fun a h1 h2 => absurd h1 (Nat.not_lt.mpr h2)
  refine ⟨hl, Nat.le_refl _, ⟨?_, ?_⟩, va_Zqof (hts _ (by decide +kernel)) (hts _ (by decide +kernel)) (hs _ (by decide +kernel)) hA, va_Zqof (hts _ (by decide +kernel)) (hts _ (by decide +kernel)) (hs _ (by decide +kernel)) hA, fun q hq => hts _ (xTn_tbl q hq), hX, hbl, ?_, fun q hq => hts _ (xTs_tbl q hq), fun q hq => hts _ (xTk_tbl q hq), fun q hq => hts _ (xTd_tbl q hq), hts (Cond.laysStatic "java/lang/Throwable" "UNASSIGNED_STACK" "[Ljava/lang/StackTraceElement;") (by decide +kernel), hts (Cond.laysStatic "java/lang/Throwable" "SUPPRESSED_SENTINEL" "Ljava/util/List;") (by decide +kernel), fun q hq => va_AO.of (hts _ (xTo_tbl q hq))⟩
  · intro c q hq
    match c, hq with
    | 0, hq => cases hq; exact u0
    | 1, hq => cases hq; exact u1
    | 2, hq => cases hq; exact u2
    | 3, hq => cases hq; exact u3
    | 4, hq => cases hq; exact u4
    | 5, hq => cases hq; exact u5
    | 6, hq => cases hq; exact u6
    | n + 7, hq => cases hq
  · intro c q hq
    match c, hq with
    | 0, hq => cases hq; exact ⟨a0, n0⟩
    | 1, hq => cases hq; exact ⟨a1, n1⟩
    | 2, hq => cases hq; exact ⟨a2, n2⟩
    | 3, hq => cases hq; exact ⟨a3, n3⟩
    | 4, hq => cases hq; exact ⟨a4, n4⟩
    | n + 5, hq => cases hq
  · intro q hq
    unfold xTc at hq
    simp only [List.mem_cons, List.not_mem_nil, or_false] at hq
    rcases hq with rfl | rfl | rfl
    · exact st_cast (hs _ (by decide +kernel))
    · exact st_cast (hs _ (by decide +kernel))
    · exact st_cast (hs _ (by decide +kernel))
set_option maxHeartbeats 4000000 in
set_option maxRecDepth 100000 in
theorem whole_start {p : Program} {e : Env} {s : State} {m : MethodId} {below : List Frame} {meth : Method} {c : Code} (l : Launch) {b L : Nat} {xs : Nat → Int32} (hL : L ≤ 3584) (hl : l.stackTraces = false) (hexec : p.tables.exec = Jvm.exec) (hcode : c.code = code) (hret : meth.sig.returnType = ret) (hml : c.maxLocals = 8) (hown : s.vm.findClass "ResidueFlowsLaw" = some m.cls) (hts : ∀ w ∈ lw_tbl, w.before #[Value.ref b] s = true) (hX : va_X b L xs s s.heap) (hbl : b < s.heap.size) (hlk : meth.locks = false) (htab : xTab Y_La_law c) (hnm : meth.name = "law") (hgv : (Jvm.Cond.and given_1 narrow_1).before #[Value.ref b] s = true) :
    W p l e room_1 s m #[Value.ref b] below meth c s.heap [] 0 0 (lw_Z below #[Value.ref b] s) (entryFrame m ([Value.ref b] : List Value).toArray 8) := by
  obtain ⟨G, hG, g1, g2, g3, g4, hK⟩ := st_G hts hX hbl hgv hl
  subst g1
  have hl0 := lv_entry ([Value.ref b] : List Value) (n := 8) (Nat.le_of_ble_eq_true rfl)
  have hl1 : ([Value.float 0].map (xv G)) = [Value.ref b] := by
    show [Value.ref (gs G)] = _
    rw [g3]
  have K := law_first (G := G) hG (by rw [g4]; exact hL) p e s m #[Value.ref b] below meth c s.heap [] _ ⟨hexec, hcode, hret, hml, hown, fun w hw => hts w (xTw_tbl w hw), hlk, htab, hK, hnm⟩ va_S.rf (fun n q hq => by cases hq) ⟨fun _ => ⟨rfl, rfl⟩, fun _ => by show s.heap.size + 0 = gb G + 0; rw [g2]⟩ (by
    have e := lv_args_map G [Value.float 0] 0
    rw [hl1] at e
    show lv_has _ 8 (xmp G (lv_args 0 [Value.float 0]))
    rw [← e]
    exact hl0)
  rw [lg_entry_eq]
  refine x_mono (fun t ht => ?_) K
  obtain ⟨o, h1, h2, h3, h4, h5, L2, h6, h7, h8, -⟩ := ht
  have h3' : o = .returned (some (.int 1)) := h3
  refine ⟨o, h1, h2, h3', ⟨_, h3'⟩, h6, st_new h7 (by decide) (by decide) (fun q hq => ?_)⟩
  have := h8 q hq
  unfold xA at this
  rw [g2] at this
  exact this
set_option maxHeartbeats 4000000 in
theorem lw_walk (l : Launch) (hfl : l.flags = flags0) (b : Addr) (xs : List Int32) : MetFree l x (headSpec (Jvm.Cond.code x code maxLocals ret :: tables_1) room_1) (lw_P b xs) (fun _ _ _ _ _ => True) lw_Q := by
  refine MetFree.of_bodyS (code := code) (maxLocals := maxLocals) (ret := ret) (by decide) ?_ ?_
  · intro args s m h hn
    obtain ⟨meth, c, h1, h2, h3, h4, h5, h6, -, -⟩ := Cond.code_spec hn (atoms_spec (ws := Jvm.Cond.code x code maxLocals ret :: tables_1) h _ List.mem_cons_self)
    exact ⟨meth, c, h1, h2, h3, h4, h5, h6⟩
  · intro p e s m args below meth c s₁ B hml0 hP _
    obtain ⟨rfl, hx, hbd, hgv⟩ := hP
    obtain ⟨scr, harrAt, hlist, hof, hsmall⟩ := hx
    obtain ⟨hcb, hkn, -, -⟩ := State.arrayAt?_spec harrAt
    have hown : s.vm.findClass "ResidueFlowsLaw" = some m.cls := findClass_of_methodNamed B.named
    have hts0 : ∀ c ∈ (Jvm.Cond.code x code maxLocals ret :: tables_1), c.before #[Value.ref b] s = true := atoms_spec (ws := Jvm.Cond.code x code maxLocals ret :: tables_1) B.pre
    have hts : ∀ w ∈ lw_tbl, w.before #[Value.ref b] s = true := k2_hts_sels lw_privs (fun w hw => hts0 w (List.mem_cons_of_mem _ hw)) lw_privs_ok
    have hml : c.maxLocals = 8 := B.maxLocals_eq (hts0 _ List.mem_cons_self)
    have X₀ : Stand p l e room_1 s m #[Value.ref b] below meth c s₁ [] 0 0 := Stand.of_body B
    have hh0 : s₁.heap = s.heap := by rw [B.state]; rfl
    obtain ⟨mk, methY, cY, z0, z1, z2, z3, z4, z5, z6, z7, z8⟩ := xwd_spec (y := Y_La_law) (hts0 _ List.mem_cons_self)
    cases B.named.symm.trans z0
    cases B.method.symm.trans z1
    cases X₀.code.symm.trans z2
    have hsz : scr.slots.size = xs.length := by rw [← Array.length_toList, hlist, List.length_map]
    have hval : ∀ j : Nat, j < xs.length → scr.slots[j]? = some (.int (xs.getD j 0)) := fun j hj => by
      rw [← Array.getElem?_toList, hlist]
      simp [hj]
    have hbl : b < s.heap.size := (Array.getElem?_eq_some_iff.mp hcb).1
    have hX : va_X b xs.length (fun j => xs.getD j 0) s s.heap := ⟨scr, hcb, hof, hkn, hsz, hval⟩
    have hst : l.stackTraces = false := by
      unfold Launch.stackTraces
      rw [hfl]
      decide +kernel
    have K : W p l e room_1 s m #[Value.ref b] below meth c s₁.heap [] 0 0 (lw_Z below #[Value.ref b] s) (entryFrame m ([Value.ref b] : List Value).toArray 8) := by
      rw [hh0]
      exact whole_start l hbd hst B.exec B.bytes B.returns hml hown hts hX hbl B.notSynchronized z7 (name_of_methodNamed B.named B.method).1 hgv
    obtain ⟨t, a1, o, b1, b2, b3⟩ := K s₁ rfl X₀
    exact ⟨t, o, a1, b1, b2, b3⟩
theorem lw_pre_spec {args : Array Value} {s : State} (h : (Jvm.Cond.and given_1 narrow_1).before args s = true) (hr : rest_1_c.before args s = true) : ∃ (b : Addr) (xs : List Int32), lw_P b xs args s := by
  have hs := flat_of_before _ h
  have hq := flat_of_before _ hr
  have hc : (Cond.count 1).before args s = true := hs _ (by decide +kernel)
  have harr : (Cond.arrayOf (.arg 0) .int).before args s = true := hs _ (by decide +kernel)
  have hle : (Cond.le (.length (.arg 0)) (.int 3584)).before args s = true := hs _ (by decide +kernel)
  have hlen : (Cond.isInt (.length (.arg 0))).before args s = true := hq _ (by decide +kernel)
  have hall : (Cond.all (.arg 0) (.isInt (.elem (.arg 0) (.index 0)))).before args s = true := hq _ (by decide +kernel)
  obtain ⟨b, xs, hb, hx⟩ := State.ints_of_pre rfl harr hlen hall
  have hsm : xs.length < 2 ^ 31 := hx.choose_spec.2.2.2
  have hev : (Term.length (.arg 0)).eval args s none [] s = some (.int xs.length.toInt32) := hx.length_eval hb
  have hv := Cond.le_ints hev (show (Term.int 3584).eval args s none [] s = some (.int 3584) from rfl)
  have hd : xs.length.toInt32 ≤ 3584 := by
    simpa [Cond.before, Cond.holds, hv] using hle
  have hN : xs.length ≤ 3584 := (Int32.ofNat_le_ofNat hsm (by decide)).mp (show Int32.ofNat xs.length ≤ Int32.ofNat 3584 from hd)
  exact ⟨b, xs, Cond.one_arg hc (show args[0]? = some (.ref b) from hb), hx, hN, h⟩
theorem lw_comes (l : Launch) (hfl : l.flags = flags0) : Comes l x (Jvm.Cond.code x code maxLocals ret :: tables_1) room_1 (fun tb e args s => Calls_1 tb e args s ∧ rest_1 tb e args s ∧ Pre_1 tb e args s)
    (fun _ _ args s o t => lw_Q args s o t) := by
  intro p e ha hc hk s m args below hf hfit hheap happ hpre
  obtain ⟨b, xs, hP⟩ := lw_pre_spec hpre.2.2 hpre.2.1
  obtain ⟨k, o, h1, h2, h3, hQ⟩ := lw_walk l hfl b xs p e ha hc hk s m args below hf ((Spec.applies_iff_loose hf).mp happ).1 hP trivial
  exact ⟨k, o, h1, h2, h3, hQ⟩
theorem lw_frame {s t : State} {o : Outcome} {args : Array Value} (h : Framed s o t [] 663135 7106699) :
    Framed s o t (fieldLocs frame_1_writes args s ++ arrayLocs frame_1_arrays args s ++ staticLocs frame_1_statics s) 663135 7106699 := h
theorem lw_limb (L : Cond) (hL : ∀ (args : Array Value) (s t : State), L.after args s (.returned (some (.int 1))) t = true) :
    ArmFor flags0 classFile x code maxLocals ret World_1 tables_1 room_1 Calls_1 rest_1 Pre_1
      (fun tb e a s o t => postC L tb e a s o t ∧ Framed s o t (fieldLocs frame_1_writes a s ++ arrayLocs frame_1_arrays a s ++ staticLocs frame_1_statics s) 663135 7106699) := by
  intro l hfl _ _ p e ha hc hk s m args below hf hfit hheap happ hpre
  obtain ⟨k, o, h1, h2, h3, rfl, hF⟩ := lw_comes l hfl p e ha hc hk s m args below hf hfit hheap happ hpre
  exact ⟨k, _, h1, h2, h3, hL args s _, lw_frame hF⟩
theorem i_vc : Claimed_1_1 ∧ Claimed_1_2 := ⟨lw_limb limb_1_1 (fun args s t => by simp [limb_1_1, Cond.after, Cond.holds, Cond.value]), lw_limb limb_1_2 (fun args s t => Cond.after_iff.mpr (by
  first | (rw [show limb_1_2 = Cond.eq .result (.int 1) from rfl, Cond.eq_ints (x := 1) (y := 1) rfl rfl]; simp; done) | (simp [limb_1_2, Cond.value, Term.eval]; done)))⟩
