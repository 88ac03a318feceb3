section XJ
variable {G : xG} {y : xY} {k : Nat × Nat} {pc : Nat} {L : List (Nat × Value)} {st : List Value} {w : xH} {r : xR}
def xlk (L : List (Nat × Value)) (i : Nat) : Option Value := (L.find? (fun q => q.1 == i)).map (fun q => q.2)
def xst (L : List (Nat × Value)) (i : Nat) (v : Value) : List (Nat × Value) := (i, v) :: L.filter (fun q => !(q.1 == i) && !(q.1 + 1 == i && q.2.category == 2))
def xst2 (L : List (Nat × Value)) (i : Nat) (v : Value) : List (Nat × Value) := (i, v) :: L.filter (fun q => !(q.1 == i) && (!(q.1 == i + 1) && !(q.1 + 1 == i && q.2.category == 2)))
theorem xlk_mem {G : xG} {L : List (Nat × Value)} {i : Nat} {v : Value} (h : xlk L i = some v) : (i, xv G v) ∈ xmp G L := by
  unfold xlk at h
  cases hf : L.find? (fun q => q.1 == i) with
  | none => rw [hf] at h; cases h
  | some q =>
    rw [hf] at h
    have h1 := List.mem_of_find?_eq_some hf
    have h2 := List.find?_some hf
    have h3 : q.1 = i := by simpa using h2
    have h4 : q.2 = v := Option.some.inj h
    exact List.mem_map.mpr ⟨q, h1, by rw [h3, h4]⟩
theorem xlk_at {G : xG} {ls : Array Slot} {n : Nat} {L : List (Nat × Value)} {i : Nat} {v : Value} (hl : lv_has ls n (xmp G L)) (h : xlk L i = some v) : ls[i]? = some (.val (xv G v)) := hl.2.2 _ (xlk_mem h)
theorem xst_map (G : xG) (L : List (Nat × Value)) (i : Nat) (v : Value) : (i, xv G v) :: (xmp G L).filter (fun q => !(q.1 == i) && !(q.1 + 1 == i && q.2.category == 2)) = xmp G (xst L i v) := by
  simp only [xmp, xst, List.map_cons, List.filter_map, Function.comp_def, xv_cat]
theorem xst2_map (G : xG) (L : List (Nat × Value)) (i : Nat) (v : Value) : (i, xv G v) :: (xmp G L).filter (fun q => !(q.1 == i) && (!(q.1 == i + 1) && !(q.1 + 1 == i && q.2.category == 2))) = xmp G (xst2 L i v) := by
  simp only [xmp, xst2, List.map_cons, List.filter_map, Function.comp_def, xv_cat]

theorem J_iconst {n : Int} {v : Int32} (hd : decode y.2.1 pc = .ok (.iconst n, 1)) (hv : Int32.ofInt n = v) (h : JW G y k (pc + 1) L (.int v :: st) w r) : JW G y k pc L st w r :=
  fun p e s m args below meth c H locs ls C hS hW hM hl => lv_iconst C.1 C.2.1 hd hv (h p e s m args below meth c H locs ls C hS hW hM hl)
theorem J_bipush {n : Int} {v : Int32} (hd : decode y.2.1 pc = .ok (.bipush n, 2)) (hv : (Int8.ofInt n).toInt32 = v) (h : JW G y k (pc + 2) L (.int v :: st) w r) : JW G y k pc L st w r :=
  fun p e s m args below meth c H locs ls C hS hW hM hl => lv_bipush C.1 C.2.1 hd hv (h p e s m args below meth c H locs ls C hS hW hM hl)
theorem J_sipush {n : Int} {v : Int32} (hd : decode y.2.1 pc = .ok (.sipush n, 3)) (hv : (Int16.ofInt n).toInt32 = v) (h : JW G y k (pc + 3) L (.int v :: st) w r) : JW G y k pc L st w r :=
  fun p e s m args below meth c H locs ls C hS hW hM hl => lv_sipush C.1 C.2.1 hd hv (h p e s m args below meth c H locs ls C hS hW hM hl)
theorem J_lconst {n : Fin 2} {v : Int64} (hd : decode y.2.1 pc = .ok (.lconst n, 1)) (hv : Int64.ofNat (n : Nat) = v) (h : JW G y k (pc + 1) L (.long v :: st) w r) : JW G y k pc L st w r :=
  fun p e s m args below meth c H locs ls C hS hW hM hl => lv_lconst C.1 C.2.1 hd hv (h p e s m args below meth c H locs ls C hS hW hM hl)
theorem J_ldc {index : Nat} {v : Int32} (hd : decode y.2.1 pc = .ok (.ldc index, 2)) (hw : Cond.constant y.1.cls index v ∈ xTw) (h : JW G y k (pc + 2) L (.int v :: st) w r) : JW G y k pc L st w r :=
  fun p e s m args below meth c H locs ls C hS hW hM hl => lv_ldc C.1 C.2.1 C.2.2.2.2.1 (C.2.2.2.2.2.1 _ hw) hd (h p e s m args below meth c H locs ls C hS hW hM hl)
theorem J_ldc_w {index : Nat} {v : Int32} (hd : decode y.2.1 pc = .ok (.ldc_w index, 3)) (hw : Cond.constant y.1.cls index v ∈ xTw) (h : JW G y k (pc + 3) L (.int v :: st) w r) : JW G y k pc L st w r :=
  fun p e s m args below meth c H locs ls C hS hW hM hl => lv_ldcw C.1 C.2.1 C.2.2.2.2.1 (C.2.2.2.2.2.1 _ hw) hd (h p e s m args below meth c H locs ls C hS hW hM hl)
theorem J_ldc2_w {index : Nat} {v : Int64} (hd : decode y.2.1 pc = .ok (.ldc2_w index, 3)) (hw : Cond.constantLong y.1.cls index v ∈ xTw) (h : JW G y k (pc + 3) L (.long v :: st) w r) : JW G y k pc L st w r :=
  fun p e s m args below meth c H locs ls C hS hW hM hl => lv_ldc2 C.1 C.2.1 C.2.2.2.2.1 (C.2.2.2.2.2.1 _ hw) hd (h p e s m args below meth c H locs ls C hS hW hM hl)
theorem J_iload_n {j : Fin 4} {i : Nat} {x : Int32} (hd : decode y.2.1 pc = .ok (.iload_n j, 1)) (hi : (j : Nat) = i) (hx : xlk L i = some (.int x)) (h : JW G y k (pc + 1) L (.int x :: st) w r) : JW G y k pc L st w r :=
  fun p e s m args below meth c H locs ls C hS hW hM hl => lv_iload_n C.1 C.2.1 hd hi (xlk_at hl hx) (h p e s m args below meth c H locs ls C hS hW hM hl)
theorem J_iload {i : Nat} {x : Int32} (hd : decode y.2.1 pc = .ok (.iload i, 2)) (hx : xlk L i = some (.int x)) (h : JW G y k (pc + 2) L (.int x :: st) w r) : JW G y k pc L st w r :=
  fun p e s m args below meth c H locs ls C hS hW hM hl => lv_iload C.1 C.2.1 hd (xlk_at hl hx) (h p e s m args below meth c H locs ls C hS hW hM hl)
theorem J_lload_n {j : Fin 4} {i : Nat} {x : Int64} (hd : decode y.2.1 pc = .ok (.lload_n j, 1)) (hi : (j : Nat) = i) (hx : xlk L i = some (.long x)) (h : JW G y k (pc + 1) L (.long x :: st) w r) : JW G y k pc L st w r :=
  fun p e s m args below meth c H locs ls C hS hW hM hl => lv_lload_n C.1 C.2.1 hd hi (xlk_at hl hx) (h p e s m args below meth c H locs ls C hS hW hM hl)
theorem J_lload {i : Nat} {x : Int64} (hd : decode y.2.1 pc = .ok (.lload i, 2)) (hx : xlk L i = some (.long x)) (h : JW G y k (pc + 2) L (.long x :: st) w r) : JW G y k pc L st w r :=
  fun p e s m args below meth c H locs ls C hS hW hM hl => lv_lload C.1 C.2.1 hd (xlk_at hl hx) (h p e s m args below meth c H locs ls C hS hW hM hl)
theorem J_aload_n {j : Fin 4} {i : Nat} {x : Nat} (hd : decode y.2.1 pc = .ok (.aload_n j, 1)) (hi : (j : Nat) = i) (hx : xlk L i = some (.ref x)) (h : JW G y k (pc + 1) L (.ref x :: st) w r) : JW G y k pc L st w r :=
  fun p e s m args below meth c H locs ls C hS hW hM hl => lv_aload_n C.1 C.2.1 hd hi (xlk_at hl hx) (h p e s m args below meth c H locs ls C hS hW hM hl)
theorem J_aload {i : Nat} {x : Nat} (hd : decode y.2.1 pc = .ok (.aload i, 2)) (hx : xlk L i = some (.ref x)) (h : JW G y k (pc + 2) L (.ref x :: st) w r) : JW G y k pc L st w r :=
  fun p e s m args below meth c H locs ls C hS hW hM hl => lv_aload C.1 C.2.1 hd (xlk_at hl hx) (h p e s m args below meth c H locs ls C hS hW hM hl)
theorem J_sload_n {j : Fin 4} {i : Nat} {x : UInt32} (hd : decode y.2.1 pc = .ok (.aload_n j, 1)) (hi : (j : Nat) = i) (hx : xlk L i = some (.float x)) (h : JW G y k (pc + 1) L (.float x :: st) w r) : JW G y k pc L st w r :=
  fun p e s m args below meth c H locs ls C hS hW hM hl => lv_aload_n C.1 C.2.1 hd hi (xlk_at hl hx) (h p e s m args below meth c H locs ls C hS hW hM hl)
theorem J_istore_n {j : Fin 4} {i : Nat} {x : Int32} (hd : decode y.2.1 pc = .ok (.istore_n j, 1)) (hi : (j : Nat) = i) (hn : i < y.2.2.1) (h : JW G y k (pc + 1) (xst L i (.int x)) st w r) : JW G y k pc L (.int x :: st) w r :=
  fun p e s m args below meth c H locs ls C hS hW hM hl => lv_istore_n (lv' := xmp G (xst L i (.int x))) C.1 C.2.1 hd hi hl hn (xst_map G L i (.int x)) (fun ls' hl' => h p e s m args below meth c H locs ls' C hS hW hM hl')
theorem J_istore {i : Nat} {x : Int32} (hd : decode y.2.1 pc = .ok (.istore i, 2)) (hn : i < y.2.2.1) (h : JW G y k (pc + 2) (xst L i (.int x)) st w r) : JW G y k pc L (.int x :: st) w r :=
  fun p e s m args below meth c H locs ls C hS hW hM hl => lv_istore (lv' := xmp G (xst L i (.int x))) C.1 C.2.1 hd hl hn (xst_map G L i (.int x)) (fun ls' hl' => h p e s m args below meth c H locs ls' C hS hW hM hl')
theorem J_lstore_n {j : Fin 4} {i : Nat} {x : Int64} (hd : decode y.2.1 pc = .ok (.lstore_n j, 1)) (hi : (j : Nat) = i) (hn : i + 1 < y.2.2.1) (h : JW G y k (pc + 1) (xst2 L i (.long x)) st w r) : JW G y k pc L (.long x :: st) w r :=
  fun p e s m args below meth c H locs ls C hS hW hM hl => lv_lstore_n (lv' := xmp G (xst2 L i (.long x))) C.1 C.2.1 hd hi hl hn (xst2_map G L i (.long x)) (fun ls' hl' => h p e s m args below meth c H locs ls' C hS hW hM hl')
theorem J_lstore {i : Nat} {x : Int64} (hd : decode y.2.1 pc = .ok (.lstore i, 2)) (hn : i + 1 < y.2.2.1) (h : JW G y k (pc + 2) (xst2 L i (.long x)) st w r) : JW G y k pc L (.long x :: st) w r :=
  fun p e s m args below meth c H locs ls C hS hW hM hl => lv_lstore (lv' := xmp G (xst2 L i (.long x))) C.1 C.2.1 hd hl hn (xst2_map G L i (.long x)) (fun ls' hl' => h p e s m args below meth c H locs ls' C hS hW hM hl')
theorem J_astore_n {j : Fin 4} {i : Nat} {x : Nat} (hd : decode y.2.1 pc = .ok (.astore_n j, 1)) (hi : (j : Nat) = i) (hn : i < y.2.2.1) (h : JW G y k (pc + 1) (xst L i (.ref x)) st w r) : JW G y k pc L (.ref x :: st) w r :=
  fun p e s m args below meth c H locs ls C hS hW hM hl => lv_astore_n (lv' := xmp G (xst L i (.ref x))) C.1 C.2.1 hd hi hl hn (xst_map G L i (.ref x)) (fun ls' hl' => h p e s m args below meth c H locs ls' C hS hW hM hl')
theorem J_astore {i : Nat} {x : Nat} (hd : decode y.2.1 pc = .ok (.astore i, 2)) (hn : i < y.2.2.1) (h : JW G y k (pc + 2) (xst L i (.ref x)) st w r) : JW G y k pc L (.ref x :: st) w r :=
  fun p e s m args below meth c H locs ls C hS hW hM hl => lv_astore (lv' := xmp G (xst L i (.ref x))) C.1 C.2.1 hd hl hn (xst_map G L i (.ref x)) (fun ls' hl' => h p e s m args below meth c H locs ls' C hS hW hM hl')
theorem J_iinc {i : Nat} {n : Int} {x v : Int32} (hd : decode y.2.1 pc = .ok (.iinc i n, 3)) (hx : xlk L i = some (.int x)) (hv : x + Int32.ofInt n = v) (hn : i < y.2.2.1) (h : JW G y k (pc + 3) (xst L i (.int v)) st w r) : JW G y k pc L st w r := by
  intro p e s m args below meth c H locs ls C hS hW hM hl
  obtain ⟨k', hk'⟩ := List.getElem?_of_mem (xlk_mem (G := G) hx)
  exact lv_iinc (k := k') (x := x) (v := v) (lv' := xmp G (xst L i (.int v))) C.1 C.2.1 hd hl hk' hv hn (xst_map G L i (.int v)) (fun ls' hl' => h p e s m args below meth c H locs ls' C hS hW hM hl')
theorem J_iadd {a b : Int32} (hd : decode y.2.1 pc = .ok (.iadd, 1)) (h : JW G y k (pc + 1) L (.int (a + b) :: st) w r) : JW G y k pc L (.int b :: .int a :: st) w r :=
  fun p e s m args below meth c H locs ls C hS hW hM hl => lv_iadd C.1 C.2.1 hd (h p e s m args below meth c H locs ls C hS hW hM hl)
theorem J_isub {a b : Int32} (hd : decode y.2.1 pc = .ok (.isub, 1)) (h : JW G y k (pc + 1) L (.int (a - b) :: st) w r) : JW G y k pc L (.int b :: .int a :: st) w r :=
  fun p e s m args below meth c H locs ls C hS hW hM hl => lv_isub C.1 C.2.1 hd (h p e s m args below meth c H locs ls C hS hW hM hl)
theorem J_imul {a b : Int32} (hd : decode y.2.1 pc = .ok (.imul, 1)) (h : JW G y k (pc + 1) L (.int (a * b) :: st) w r) : JW G y k pc L (.int b :: .int a :: st) w r :=
  fun p e s m args below meth c H locs ls C hS hW hM hl => lv_imul C.1 C.2.1 hd (h p e s m args below meth c H locs ls C hS hW hM hl)
theorem J_iand {a b : Int32} (hd : decode y.2.1 pc = .ok (.iand, 1)) (h : JW G y k (pc + 1) L (.int (a &&& b) :: st) w r) : JW G y k pc L (.int b :: .int a :: st) w r :=
  fun p e s m args below meth c H locs ls C hS hW hM hl => lv_iand C.1 C.2.1 hd (h p e s m args below meth c H locs ls C hS hW hM hl)
theorem J_ladd {a b : Int64} (hd : decode y.2.1 pc = .ok (.ladd, 1)) (h : JW G y k (pc + 1) L (.long (a + b) :: st) w r) : JW G y k pc L (.long b :: .long a :: st) w r :=
  fun p e s m args below meth c H locs ls C hS hW hM hl => lv_ladd C.1 C.2.1 hd (h p e s m args below meth c H locs ls C hS hW hM hl)
theorem J_lsub {a b : Int64} (hd : decode y.2.1 pc = .ok (.lsub, 1)) (h : JW G y k (pc + 1) L (.long (a - b) :: st) w r) : JW G y k pc L (.long b :: .long a :: st) w r :=
  fun p e s m args below meth c H locs ls C hS hW hM hl => lv_lsub C.1 C.2.1 hd (h p e s m args below meth c H locs ls C hS hW hM hl)
theorem J_lmul {a b : Int64} (hd : decode y.2.1 pc = .ok (.lmul, 1)) (h : JW G y k (pc + 1) L (.long (a * b) :: st) w r) : JW G y k pc L (.long b :: .long a :: st) w r :=
  fun p e s m args below meth c H locs ls C hS hW hM hl => lv_lmul C.1 C.2.1 hd (h p e s m args below meth c H locs ls C hS hW hM hl)
theorem J_land {a b : Int64} (hd : decode y.2.1 pc = .ok (.land, 1)) (h : JW G y k (pc + 1) L (.long (a &&& b) :: st) w r) : JW G y k pc L (.long b :: .long a :: st) w r :=
  fun p e s m args below meth c H locs ls C hS hW hM hl => lv_land C.1 C.2.1 hd (h p e s m args below meth c H locs ls C hS hW hM hl)
theorem J_lor {a b : Int64} (hd : decode y.2.1 pc = .ok (.lor, 1)) (h : JW G y k (pc + 1) L (.long (a ||| b) :: st) w r) : JW G y k pc L (.long b :: .long a :: st) w r :=
  fun p e s m args below meth c H locs ls C hS hW hM hl => lv_lor C.1 C.2.1 hd (h p e s m args below meth c H locs ls C hS hW hM hl)
theorem J_idiv {a b : Int32} (hd : decode y.2.1 pc = .ok (.idiv, 1)) (hb : ¬ b = 0) (h : JW G y k (pc + 1) L (.int (a / b) :: st) w r) : JW G y k pc L (.int b :: .int a :: st) w r :=
  fun p e s m args below meth c H locs ls C hS hW hM hl => lv_idiv C.1 C.2.1 hd hb (h p e s m args below meth c H locs ls C hS hW hM hl)
theorem J_ldiv {a b : Int64} (hd : decode y.2.1 pc = .ok (.ldiv, 1)) (hb : ¬ b = 0) (h : JW G y k (pc + 1) L (.long (a / b) :: st) w r) : JW G y k pc L (.long b :: .long a :: st) w r :=
  fun p e s m args below meth c H locs ls C hS hW hM hl => lv_ldiv C.1 C.2.1 hd hb (h p e s m args below meth c H locs ls C hS hW hM hl)
theorem J_lneg {a : Int64} (hd : decode y.2.1 pc = .ok (.lneg, 1)) (h : JW G y k (pc + 1) L (.long (-a) :: st) w r) : JW G y k pc L (.long a :: st) w r :=
  fun p e s m args below meth c H locs ls C hS hW hM hl => lv_lneg C.1 C.2.1 hd (h p e s m args below meth c H locs ls C hS hW hM hl)
theorem J_i2l {a : Int32} (hd : decode y.2.1 pc = .ok (.i2l, 1)) (h : JW G y k (pc + 1) L (.long a.toInt64 :: st) w r) : JW G y k pc L (.int a :: st) w r :=
  fun p e s m args below meth c H locs ls C hS hW hM hl => lv_i2l C.1 C.2.1 hd rfl (h p e s m args below meth c H locs ls C hS hW hM hl)
theorem J_lshl {a : Int64} {b : Int32} {v : Int64} (hd : decode y.2.1 pc = .ok (.lshl, 1)) (hv : a <<< (b.toInt64 &&& 63) = v) (h : JW G y k (pc + 1) L (.long v :: st) w r) : JW G y k pc L (.int b :: .long a :: st) w r :=
  fun p e s m args below meth c H locs ls C hS hW hM hl => lv_lshl C.1 C.2.1 hd hv (h p e s m args below meth c H locs ls C hS hW hM hl)
theorem J_lcmp {a b : Int64} (hd : decode y.2.1 pc = .ok (.lcmp, 1)) (h : JW G y k (pc + 1) L (.int (lg_cmp a b) :: st) w r) : JW G y k pc L (.long b :: .long a :: st) w r :=
  fun p e s m args below meth c H locs ls C hS hW hM hl => W.lcmp C.1 C.2.1 hd (h p e s m args below meth c H locs ls C hS hW hM hl)
theorem J_dup {i : Nat} (hd : decode y.2.1 pc = .ok (.dup, 1)) (h : JW G y k (pc + 1) L (.ref i :: .ref i :: st) w r) : JW G y k pc L (.ref i :: st) w r :=
  fun p e s m args below meth c H locs ls C hS hW hM hl => lv_dup C.1 C.2.1 hd rfl (h p e s m args below meth c H locs ls C hS hW hM hl)
theorem J_goto {off : Int} {tgt : Nat} (hd : decode y.2.1 pc = .ok (.goto off, 3)) (ht : (pc : Int) + off = (tgt : Int)) (h : JW G y k tgt L st w r) : JW G y k pc L st w r :=
  fun p e s m args below meth c H locs ls C hS hW hM hl => lv_goto C.1 C.2.1 hd ht (h p e s m args below meth c H locs ls C hS hW hM hl)
theorem J_if_eq {x : Int32} {off : Int} {tgt : Nat} (hd : decode y.2.1 pc = .ok (.ifCond .eq off, 3)) (ht : (pc : Int) + off = (tgt : Int)) (kt : x = 0 → JW G y k tgt L st w r) (kf : ¬ x = 0 → JW G y k (pc + 3) L st w r) : JW G y k pc L (.int x :: st) w r :=
  fun p e s m args below meth c H locs ls C hS hW hM hl => lv_if_eq C.1 C.2.1 hd ht (fun q => kt q p e s m args below meth c H locs ls C hS hW hM hl) (fun q => kf q p e s m args below meth c H locs ls C hS hW hM hl)
theorem J_if_ne {x : Int32} {off : Int} {tgt : Nat} (hd : decode y.2.1 pc = .ok (.ifCond .ne off, 3)) (ht : (pc : Int) + off = (tgt : Int)) (kt : ¬ x = 0 → JW G y k tgt L st w r) (kf : ¬ (¬ x = 0) → JW G y k (pc + 3) L st w r) : JW G y k pc L (.int x :: st) w r :=
  fun p e s m args below meth c H locs ls C hS hW hM hl => lv_if_ne C.1 C.2.1 hd ht (fun q => kt q p e s m args below meth c H locs ls C hS hW hM hl) (fun q => kf (fun z => z q) p e s m args below meth c H locs ls C hS hW hM hl)
theorem J_if_lt {x : Int32} {off : Int} {tgt : Nat} (hd : decode y.2.1 pc = .ok (.ifCond .lt off, 3)) (ht : (pc : Int) + off = (tgt : Int)) (kt : x < 0 → JW G y k tgt L st w r) (kf : ¬ x < 0 → JW G y k (pc + 3) L st w r) : JW G y k pc L (.int x :: st) w r :=
  fun p e s m args below meth c H locs ls C hS hW hM hl => lv_if_lt C.1 C.2.1 hd ht (fun q => kt q p e s m args below meth c H locs ls C hS hW hM hl) (fun q => kf q p e s m args below meth c H locs ls C hS hW hM hl)
theorem J_if_ge {x : Int32} {off : Int} {tgt : Nat} (hd : decode y.2.1 pc = .ok (.ifCond .ge off, 3)) (ht : (pc : Int) + off = (tgt : Int)) (kt : 0 ≤ x → JW G y k tgt L st w r) (kf : ¬ 0 ≤ x → JW G y k (pc + 3) L st w r) : JW G y k pc L (.int x :: st) w r :=
  fun p e s m args below meth c H locs ls C hS hW hM hl => lv_if_ge C.1 C.2.1 hd ht (fun q => kt q p e s m args below meth c H locs ls C hS hW hM hl) (fun q => kf q p e s m args below meth c H locs ls C hS hW hM hl)
theorem J_if_gt {x : Int32} {off : Int} {tgt : Nat} (hd : decode y.2.1 pc = .ok (.ifCond .gt off, 3)) (ht : (pc : Int) + off = (tgt : Int)) (kt : 0 < x → JW G y k tgt L st w r) (kf : ¬ 0 < x → JW G y k (pc + 3) L st w r) : JW G y k pc L (.int x :: st) w r :=
  fun p e s m args below meth c H locs ls C hS hW hM hl => lv_if_gt C.1 C.2.1 hd ht (fun q => kt q p e s m args below meth c H locs ls C hS hW hM hl) (fun q => kf q p e s m args below meth c H locs ls C hS hW hM hl)
theorem J_if_le {x : Int32} {off : Int} {tgt : Nat} (hd : decode y.2.1 pc = .ok (.ifCond .le off, 3)) (ht : (pc : Int) + off = (tgt : Int)) (kt : x ≤ 0 → JW G y k tgt L st w r) (kf : ¬ x ≤ 0 → JW G y k (pc + 3) L st w r) : JW G y k pc L (.int x :: st) w r :=
  fun p e s m args below meth c H locs ls C hS hW hM hl => lv_if_le C.1 C.2.1 hd ht (fun q => kt q p e s m args below meth c H locs ls C hS hW hM hl) (fun q => kf q p e s m args below meth c H locs ls C hS hW hM hl)
theorem J_icmp_eq {x z : Int32} {off : Int} {tgt : Nat} (hd : decode y.2.1 pc = .ok (.if_icmp .eq off, 3)) (ht : (pc : Int) + off = (tgt : Int)) (kt : x = z → JW G y k tgt L st w r) (kf : ¬ x = z → JW G y k (pc + 3) L st w r) : JW G y k pc L (.int z :: .int x :: st) w r :=
  fun p e s m args below meth c H locs ls C hS hW hM hl => lv_icmp_eq C.1 C.2.1 hd ht (fun q => kt q p e s m args below meth c H locs ls C hS hW hM hl) (fun q => kf q p e s m args below meth c H locs ls C hS hW hM hl)
theorem J_icmp_ne {x z : Int32} {off : Int} {tgt : Nat} (hd : decode y.2.1 pc = .ok (.if_icmp .ne off, 3)) (ht : (pc : Int) + off = (tgt : Int)) (kt : ¬ x = z → JW G y k tgt L st w r) (kf : ¬ (¬ x = z) → JW G y k (pc + 3) L st w r) : JW G y k pc L (.int z :: .int x :: st) w r :=
  fun p e s m args below meth c H locs ls C hS hW hM hl => lv_icmp_ne C.1 C.2.1 hd ht (fun q => kt q p e s m args below meth c H locs ls C hS hW hM hl) (fun q => kf (fun z => z q) p e s m args below meth c H locs ls C hS hW hM hl)
theorem J_icmp_lt {x z : Int32} {off : Int} {tgt : Nat} (hd : decode y.2.1 pc = .ok (.if_icmp .lt off, 3)) (ht : (pc : Int) + off = (tgt : Int)) (kt : x < z → JW G y k tgt L st w r) (kf : ¬ x < z → JW G y k (pc + 3) L st w r) : JW G y k pc L (.int z :: .int x :: st) w r :=
  fun p e s m args below meth c H locs ls C hS hW hM hl => lv_icmp_lt C.1 C.2.1 hd ht (fun q => kt q p e s m args below meth c H locs ls C hS hW hM hl) (fun q => kf q p e s m args below meth c H locs ls C hS hW hM hl)
theorem J_icmp_ge {x z : Int32} {off : Int} {tgt : Nat} (hd : decode y.2.1 pc = .ok (.if_icmp .ge off, 3)) (ht : (pc : Int) + off = (tgt : Int)) (kt : z ≤ x → JW G y k tgt L st w r) (kf : ¬ z ≤ x → JW G y k (pc + 3) L st w r) : JW G y k pc L (.int z :: .int x :: st) w r :=
  fun p e s m args below meth c H locs ls C hS hW hM hl => lv_icmp_ge C.1 C.2.1 hd ht (fun q => kt q p e s m args below meth c H locs ls C hS hW hM hl) (fun q => kf q p e s m args below meth c H locs ls C hS hW hM hl)
theorem J_icmp_gt {x z : Int32} {off : Int} {tgt : Nat} (hd : decode y.2.1 pc = .ok (.if_icmp .gt off, 3)) (ht : (pc : Int) + off = (tgt : Int)) (kt : z < x → JW G y k tgt L st w r) (kf : ¬ z < x → JW G y k (pc + 3) L st w r) : JW G y k pc L (.int z :: .int x :: st) w r :=
  fun p e s m args below meth c H locs ls C hS hW hM hl => lv_icmp_gt C.1 C.2.1 hd ht (fun q => kt q p e s m args below meth c H locs ls C hS hW hM hl) (fun q => kf q p e s m args below meth c H locs ls C hS hW hM hl)
theorem J_icmp_le {x z : Int32} {off : Int} {tgt : Nat} (hd : decode y.2.1 pc = .ok (.if_icmp .le off, 3)) (ht : (pc : Int) + off = (tgt : Int)) (kt : x ≤ z → JW G y k tgt L st w r) (kf : ¬ x ≤ z → JW G y k (pc + 3) L st w r) : JW G y k pc L (.int z :: .int x :: st) w r :=
  fun p e s m args below meth c H locs ls C hS hW hM hl => lv_icmp_le C.1 C.2.1 hd ht (fun q => kt q p e s m args below meth c H locs ls C hS hW hM hl) (fun q => kf q p e s m args below meth c H locs ls C hS hW hM hl)
theorem J_lif_eq {a b : Int64} {off : Int} {tgt : Nat} (hd : decode y.2.1 pc = .ok (.ifCond .eq off, 3)) (ht : (pc : Int) + off = (tgt : Int)) (kt : a = b → JW G y k tgt L st w r) (kf : ¬ a = b → JW G y k (pc + 3) L st w r) : JW G y k pc L (.int (lg_cmp a b) :: st) w r :=
  J_if_eq hd ht (fun q => kt ((lg_cmp_eq a b).mp q)) (fun q => kf (fun q2 => q ((lg_cmp_eq a b).mpr q2)))
theorem J_lif_lt {a b : Int64} {off : Int} {tgt : Nat} (hd : decode y.2.1 pc = .ok (.ifCond .lt off, 3)) (ht : (pc : Int) + off = (tgt : Int)) (kt : a < b → JW G y k tgt L st w r) (kf : ¬ a < b → JW G y k (pc + 3) L st w r) : JW G y k pc L (.int (lg_cmp a b) :: st) w r :=
  J_if_lt hd ht (fun q => kt ((lg_cmp_lt a b).mp q)) (fun q => kf (fun q2 => q ((lg_cmp_lt a b).mpr q2)))
theorem J_lif_ge {a b : Int64} {off : Int} {tgt : Nat} (hd : decode y.2.1 pc = .ok (.ifCond .ge off, 3)) (ht : (pc : Int) + off = (tgt : Int)) (kt : b ≤ a → JW G y k tgt L st w r) (kf : ¬ b ≤ a → JW G y k (pc + 3) L st w r) : JW G y k pc L (.int (lg_cmp a b) :: st) w r :=
  J_if_ge hd ht (fun q => kt ((lg_cmp_ge a b).mp q)) (fun q => kf (fun q2 => q ((lg_cmp_ge a b).mpr q2)))
theorem J_lif_gt {a b : Int64} {off : Int} {tgt : Nat} (hd : decode y.2.1 pc = .ok (.ifCond .gt off, 3)) (ht : (pc : Int) + off = (tgt : Int)) (kt : b < a → JW G y k tgt L st w r) (kf : ¬ b < a → JW G y k (pc + 3) L st w r) : JW G y k pc L (.int (lg_cmp a b) :: st) w r :=
  J_if_gt hd ht (fun q => kt ((lg_cmp_gt a b).mp q)) (fun q => kf (fun q2 => q ((lg_cmp_gt a b).mpr q2)))
theorem J_lif_le {a b : Int64} {off : Int} {tgt : Nat} (hd : decode y.2.1 pc = .ok (.ifCond .le off, 3)) (ht : (pc : Int) + off = (tgt : Int)) (kt : a ≤ b → JW G y k tgt L st w r) (kf : ¬ a ≤ b → JW G y k (pc + 3) L st w r) : JW G y k pc L (.int (lg_cmp a b) :: st) w r :=
  J_if_le hd ht (fun q => kt ((lg_cmp_le a b).mp q)) (fun q => kf (fun q2 => q ((lg_cmp_le a b).mpr q2)))
theorem J_lif_ne {a b : Int64} {off : Int} {tgt : Nat} (hd : decode y.2.1 pc = .ok (.ifCond .ne off, 3)) (ht : (pc : Int) + off = (tgt : Int)) (kt : ¬ a = b → JW G y k tgt L st w r) (kf : a = b → JW G y k (pc + 3) L st w r) : JW G y k pc L (.int (lg_cmp a b) :: st) w r :=
  J_if_ne hd ht (fun q => kt (fun q2 => q ((lg_cmp_eq a b).mpr q2))) (fun q => kf ((lg_cmp_eq a b).mp (Classical.not_not.mp q)))
theorem J_tableOut {dflt lo hi : Int} {offs : Array Int} {len : Nat} {x : Int32} {tgt : Nat} (hd : decode y.2.1 pc = .ok (.tableswitch dflt lo hi offs, len)) (hx : x.toInt < lo ∨ hi < x.toInt) (ht : (pc : Int) + dflt = (tgt : Int)) (h : JW G y k tgt L st w r) : JW G y k pc L (.int x :: st) w r :=
  fun p e s m args below meth c H locs ls C hS hW hM hl => lv_tableOut C.1 C.2.1 hd hx ht (h p e s m args below meth c H locs ls C hS hW hM hl)
theorem J_tableIn {dflt lo hi : Int} {offs : Array Int} {len : Nat} {x : Int32} {off : Int} {tgt : Nat} (hd : decode y.2.1 pc = .ok (.tableswitch dflt lo hi offs, len)) (h1 : ¬ x.toInt < lo) (h2 : ¬ hi < x.toInt) (ho : offs[(x.toInt - lo).toNat]? = some off) (ht : (pc : Int) + off = (tgt : Int)) (h : JW G y k tgt L st w r) : JW G y k pc L (.int x :: st) w r :=
  fun p e s m args below meth c H locs ls C hS hW hM hl => lv_tableIn C.1 C.2.1 hd h1 h2 ho ht (h p e s m args below meth c H locs ls C hS hW hM hl)
/-- a field's place: the class's number and the field's, its words among the tables' -/
def xfl (own : String) (index ci j : Nat) : Prop := ∃ (C : String) (T : u_T) (N : Nat), xcl[ci]? = some (C, T, N) ∧ j < N ∧ Cond.fieldLink own index (T j).1 (T j).2.1 (T j).2.2.1 ∈ xTw ∧ (∀ w ∈ u_ws C T N, w ∈ xTw)
/-- a class of the picture: types of its fields -/
def xty (ci : Nat) (ty0 : Nat → FieldType) : Prop := ∀ (C : String) (T : u_T) (N : Nat), xcl[ci]? = some (C, T, N) → (∀ k, k < N → parseFieldDescriptor (T k).2.2.1 = some (ty0 k)) ∧ (∀ a, a < N → ∀ b, b < N → a ≠ b → (T a).2.1 ≠ (T b).2.1)
theorem J_get {i ci j index : Nat} {fs : List Value} {v : Value} (hd : decode y.2.1 pc = .ok (.getfield index, 3)) (hf : xfl y.1.cls index ci j) (hi : w.2[i]? = some (.inr (ci, fs))) (hv : fs[j]? = some v) (h : JW G y k (pc + 3) L (v :: st) w r) : JW G y k pc L (.ref i :: st) w r := by
  intro p e s m args below meth c H locs ls C hS hW hM hl
  obtain ⟨Cn, T, N, h1, h2, h3, h4⟩ := hf
  exact va_get (D := gD G) (cl := xcl) (tys := gT G) (ci := ci) (v := xv G v) (C := Cn) (T := T) (N := N) C.1 C.2.1 C.2.2.2.2.2.1 h4 C.2.2.2.2.1 C.2.2.2.2.2.2.2.2.1.2.2.1 hW i (xws_get hi) h1 j h2 (C.2.2.2.2.2.1 _ h3) (fun _ q => q) (by rw [List.getElem?_map, hv]; rfl) hd (h p e s m args below meth c H locs ls C hS hW hM hl)
/-- the mode behind a write -/
def xdn (n : Nat) : Nat := if n = 2 then 2 else 0
theorem xM_set {G : xG} {k : Nat × Nat} {w : xH} {s : State} {H H1 : Heap} {locs locs1 : List Loc} (h : xM G k w s H locs) (i : Nat) (c : va_E) : xM G k (xdn w.1, w.2.set i c) s H1 locs1 := by
  obtain ⟨n, hs⟩ := w
  unfold xdn
  by_cases hn : n = 2
  · subst hn
    exact ⟨fun q => (by cases q), fun _ => (by have := h.2 rfl; simpa using this)⟩
  · simp only [hn, if_false]
    exact ⟨fun q => (by cases q), fun q => (by cases q)⟩
theorem J_put {i ci j index : Nat} {fs : List Value} {v : Value} {ty0 : Nat → FieldType} (hd : decode y.2.1 pc = .ok (.putfield index, 3)) (hf : xfl y.1.cls index ci j) (ht : xty ci ty0) (hfin : ∀ (C : String) (T : u_T) (N : Nat), xcl[ci]? = some (C, T, N) → (T j).2.2.2 = false) (hn : narrow (ty0 j) (xv G v) = xv G v) (hfit : fits (ty0 j) (xv G v) = true) (hi : w.2[i]? = some (.inr (ci, fs))) (hjl : j < fs.length) (h : JW G y k (pc + 3) L st (xdn w.1, w.2.set i (.inr (ci, fs.set j v))) r) : JW G y k pc L (v :: .ref i :: st) w r := by
  intro p e s m args below meth c H locs ls C hS hW hM hl
  obtain ⟨Cn, T, N, h1, h2, h3, h4⟩ := hf
  obtain ⟨t1, t2⟩ := ht Cn T N h1
  refine va_put (D := gD G) (cl := xcl) (tys := gT G) (ci := ci) (v := xv G v) (ty := ty0 j) (C := Cn) (T := T) (N := N) C.1 C.2.1 C.2.2.2.2.2.1 h4 ty0 t1 t2 C.2.2.2.2.1 C.2.2.2.2.2.2.2.2.1.2.2.1 hW (xD G w.2) hS i (xws_get hi) h1 j h2 (C.2.2.2.2.2.1 _ h3) (fun _ q => q) (hfin Cn T N h1) (t1 j h2) hn hfit (by simpa using hjl) hd (fun H1 locs1 hP1 _ hS1 => ?_)
  refine h p e s m args below meth c H1 locs1 ls C hS1 ?_ (xM_set hM i _) hl
  show va_P (gD G) xcl (xws G (w.2.set i (.inr (ci, fs.set j v)))) H1
  rw [xws_set]
  have : xe G (.inr (ci, fs.set j v)) = .inr (ci, (fs.map (xv G)).set j (xv G v)) := by show Sum.inr (ci, (fs.set j v).map (xv G)) = _; rw [List.map_set]
  rw [this]
  exact hP1
theorem J_putF {i ci j index : Nat} {fs : List Value} {v : Value} {ty0 : Nat → FieldType} (hd : decode y.2.1 pc = .ok (.putfield index, 3)) (hf : xfl y.1.cls index ci j) (ht : xty ci ty0) (hfin : ∀ (C : String) (T : u_T) (N : Nat), xcl[ci]? = some (C, T, N) → (T j).2.2.2 = true ∧ (T j).1 = y.1.cls) (hinit : y.1.name = "<init>") (hn : narrow (ty0 j) (xv G v) = xv G v) (hfit : fits (ty0 j) (xv G v) = true) (hi : w.2[i]? = some (.inr (ci, fs))) (hjl : j < fs.length) (h : JW G y k (pc + 3) L st (xdn w.1, w.2.set i (.inr (ci, fs.set j v))) r) : JW G y k pc L (v :: .ref i :: st) w r := by
  intro p e s m args below meth c H locs ls C hS hW hM hl
  obtain ⟨Cn, T, N, h1, h2, h3, h4⟩ := hf
  obtain ⟨t1, t2⟩ := ht Cn T N h1
  refine va_putF (D := gD G) (cl := xcl) (tys := gT G) (ci := ci) (v := xv G v) (ty := ty0 j) (C := Cn) (T := T) (N := N) C.1 C.2.1 C.2.2.2.2.2.1 h4 ty0 t1 t2 C.2.2.2.2.1 C.2.2.2.2.2.2.2.2.1.2.2.1 hW (xD G w.2) hS i (xws_get hi) h1 j h2 (C.2.2.2.2.2.1 _ h3) (fun _ q => q) (hfin Cn T N h1).1 (C.2.2.2.2.2.2.2.2.2.trans hinit) (hfin Cn T N h1).2 (t1 j h2) hn hfit (by simpa using hjl) hd (fun H1 locs1 hP1 _ hS1 => ?_)
  refine h p e s m args below meth c H1 locs1 ls C hS1 ?_ (xM_set hM i _) hl
  show va_P (gD G) xcl (xws G (w.2.set i (.inr (ci, fs.set j v)))) H1
  rw [xws_set]
  have : xe G (.inr (ci, fs.set j v)) = .inr (ci, (fs.map (xv G)).set j (xv G v)) := by show Sum.inr (ci, (fs.set j v).map (xv G)) = _; rw [List.map_set]
  rw [this]
  exact hP1
theorem J_iald {i n t : Nat} {f : Nat → Int32} {x : Int32} (hd : decode y.2.1 pc = .ok (.iaload, 1)) (ht : ∃ cA, (gT G)[t]? = some (cA, .int)) (hi : w.2[i]? = some (.inl (t, n, .inl f))) (hx : vp_in x n) (h : JW G y k (pc + 1) L (.int (f x.toNatClampNeg) :: st) w r) : JW G y k pc L (.int x :: .ref i :: st) w r := by
  intro p e s m args below meth c H locs ls C hS hW hM hl
  obtain ⟨cA, ht⟩ := ht
  have e0 : ((gT G).getD t (0, .int)).1 = cA := by rw [List.getD_eq_getElem?_getD, ht]; rfl
  have he : (xws G w.2)[i]? = some (gb G + i, .inl (cA, n, .inl f)) := by rw [xws_get hi, ← e0]; rfl
  exact va_iald (D := gD G) (cl := xcl) (tys := gT G) C.1 C.2.1 C.2.2.2.2.2.2.2.2.1.2.2.1 hW i t he ht hx hd (h p e s m args below meth c H locs ls C hS hW hM hl)
theorem J_zald {i n t : Nat} {f : Nat → Int32} {x : Int32} (hd : decode y.2.1 pc = .ok (.baload, 1)) (ht : ∃ cA, (gT G)[t]? = some (cA, .boolean)) (hi : w.2[i]? = some (.inl (t, n, .inl f))) (hx : vp_in x n) (h : JW G y k (pc + 1) L (.int (f x.toNatClampNeg) :: st) w r) : JW G y k pc L (.int x :: .ref i :: st) w r := by
  intro p e s m args below meth c H locs ls C hS hW hM hl
  obtain ⟨cA, ht⟩ := ht
  have e0 : ((gT G).getD t (0, .int)).1 = cA := by rw [List.getD_eq_getElem?_getD, ht]; rfl
  have he : (xws G w.2)[i]? = some (gb G + i, .inl (cA, n, .inl f)) := by rw [xws_get hi, ← e0]; rfl
  exact va_zald (D := gD G) (cl := xcl) (tys := gT G) C.1 C.2.1 C.2.2.2.2.2.2.2.2.1.2.2.1 hW i t he ht hx hd (h p e s m args below meth c H locs ls C hS hW hM hl)
theorem J_lald {i n t : Nat} {f : Nat → Int64} {x : Int32} (hd : decode y.2.1 pc = .ok (.laload, 1)) (ht : ∃ cA, (gT G)[t]? = some (cA, .long)) (hi : w.2[i]? = some (.inl (t, n, .inr (.inl f)))) (hx : vp_in x n) (h : JW G y k (pc + 1) L (.long (f x.toNatClampNeg) :: st) w r) : JW G y k pc L (.int x :: .ref i :: st) w r := by
  intro p e s m args below meth c H locs ls C hS hW hM hl
  obtain ⟨cA, ht⟩ := ht
  have e0 : ((gT G).getD t (0, .int)).1 = cA := by rw [List.getD_eq_getElem?_getD, ht]; rfl
  have he : (xws G w.2)[i]? = some (gb G + i, .inl (cA, n, .inr (.inl f))) := by rw [xws_get hi, ← e0]; rfl
  exact va_lald (D := gD G) (cl := xcl) (tys := gT G) C.1 C.2.1 C.2.2.2.2.2.2.2.2.1.2.2.1 hW i t he ht hx hd (h p e s m args below meth c H locs ls C hS hW hM hl)
theorem J_aald {i n t i2 : Nat} {f : Nat → Option Nat} {x : Int32} (hd : decode y.2.1 pc = .ok (.aaload, 1)) (ht : ∃ cA C, (gT G)[t]? = some (cA, .object C)) (hi : w.2[i]? = some (.inl (t, n, .inr (.inr (.inr (.inr f)))))) (hx : vp_in x n) (hf : f x.toNatClampNeg = some i2) (h : JW G y k (pc + 1) L (.ref i2 :: st) w r) : JW G y k pc L (.int x :: .ref i :: st) w r := by
  intro p e s m args below meth c H locs ls C hS hW hM hl
  obtain ⟨cA, Cn, ht⟩ := ht
  have e0 : ((gT G).getD t (0, .int)).1 = cA := by rw [List.getD_eq_getElem?_getD, ht]; rfl
  have he : (xws G w.2)[i]? = some (gb G + i, .inl (cA, n, .inr (.inr (.inr (.inr (fun j => (f j).map (fun i => gb G + i))))))) := by rw [xws_get hi, ← e0]; rfl
  refine va_aldq (D := gD G) (cl := xcl) (tys := gT G) C.1 C.2.1 C.2.2.2.2.2.2.2.2.1.2.2.1 hW i t he ht hx hd ?_
  show W p (gl G) e y.2.2.2.2.1 s m args below meth c H locs k.1 k.2 (xZ G r below s) (F0 m (pc + 1) ls (va_rf ((f x.toNatClampNeg).map (fun i => gb G + i)) :: st.map (xv G)))
  rw [hf]
  exact h p e s m args below meth c H locs ls C hS hW hM hl
theorem J_iast {i n t : Nat} {f : Nat → Int32} {x : Int32} {v : Int32} (hd : decode y.2.1 pc = .ok (.iastore, 1)) (ht : ∃ cA, (gT G)[t]? = some (cA, .int)) (hi : w.2[i]? = some (.inl (t, n, .inl f))) (hx : vp_in x n) (h : JW G y k (pc + 1) L st (xdn w.1, w.2.set i (.inl (t, n, .inl (upd f x.toNatClampNeg v)))) r) : JW G y k pc L (.int v :: .int x :: .ref i :: st) w r := by
  intro p e s m args below meth c H locs ls C hS hW hM hl
  obtain ⟨cA, ht⟩ := ht
  have e0 : ((gT G).getD t (0, .int)).1 = cA := by rw [List.getD_eq_getElem?_getD, ht]; rfl
  have he : (xws G w.2)[i]? = some (gb G + i, .inl (cA, n, .inl f)) := by rw [xws_get hi, ← e0]; rfl
  refine va_iast (D := gD G) (cl := xcl) (tys := gT G) C.1 C.2.1 C.2.2.2.2.2.2.2.2.1.2.2.1 hW (xD G w.2) hS i t he ht hx hd (fun H1 locs1 hP1 _ hS1 => ?_)
  refine h p e s m args below meth c H1 locs1 ls C hS1 ?_ (xM_set hM i _) hl
  show va_P (gD G) xcl (xws G (w.2.set i (.inl (t, n, .inl (upd f x.toNatClampNeg v))))) H1
  rw [xws_set]
  have : xe G (.inl (t, n, .inl (upd f x.toNatClampNeg v))) = .inl (cA, n, .inl (upd f x.toNatClampNeg v)) := by rw [← e0]; rfl
  rw [this]
  exact hP1
theorem J_zast {i n t : Nat} {f : Nat → Int32} {x : Int32} {v : Int32} (hd : decode y.2.1 pc = .ok (.bastore, 1)) (ht : ∃ cA, (gT G)[t]? = some (cA, .boolean)) (hi : w.2[i]? = some (.inl (t, n, .inl f))) (hx : vp_in x n) (h : JW G y k (pc + 1) L st (xdn w.1, w.2.set i (.inl (t, n, .inl (upd f x.toNatClampNeg (vp_nar .boolean v))))) r) : JW G y k pc L (.int v :: .int x :: .ref i :: st) w r := by
  intro p e s m args below meth c H locs ls C hS hW hM hl
  obtain ⟨cA, ht⟩ := ht
  have e0 : ((gT G).getD t (0, .int)).1 = cA := by rw [List.getD_eq_getElem?_getD, ht]; rfl
  have he : (xws G w.2)[i]? = some (gb G + i, .inl (cA, n, .inl f)) := by rw [xws_get hi, ← e0]; rfl
  refine va_zast (D := gD G) (cl := xcl) (tys := gT G) C.1 C.2.1 C.2.2.2.2.2.2.2.2.1.2.2.1 hW (xD G w.2) hS i t he ht hx hd (fun H1 locs1 hP1 _ hS1 => ?_)
  refine h p e s m args below meth c H1 locs1 ls C hS1 ?_ (xM_set hM i _) hl
  show va_P (gD G) xcl (xws G (w.2.set i (.inl (t, n, .inl (upd f x.toNatClampNeg (vp_nar .boolean v)))))) H1
  rw [xws_set]
  have : xe G (.inl (t, n, .inl (upd f x.toNatClampNeg (vp_nar .boolean v)))) = .inl (cA, n, .inl (upd f x.toNatClampNeg (vp_nar .boolean v))) := by rw [← e0]; rfl
  rw [this]
  exact hP1
theorem J_last {i n t : Nat} {f : Nat → Int64} {x : Int32} {v : Int64} (hd : decode y.2.1 pc = .ok (.lastore, 1)) (ht : ∃ cA, (gT G)[t]? = some (cA, .long)) (hi : w.2[i]? = some (.inl (t, n, .inr (.inl f)))) (hx : vp_in x n) (h : JW G y k (pc + 1) L st (xdn w.1, w.2.set i (.inl (t, n, .inr (.inl (vp_updL f x.toNatClampNeg v))))) r) : JW G y k pc L (.long v :: .int x :: .ref i :: st) w r := by
  intro p e s m args below meth c H locs ls C hS hW hM hl
  obtain ⟨cA, ht⟩ := ht
  have e0 : ((gT G).getD t (0, .int)).1 = cA := by rw [List.getD_eq_getElem?_getD, ht]; rfl
  have he : (xws G w.2)[i]? = some (gb G + i, .inl (cA, n, .inr (.inl f))) := by rw [xws_get hi, ← e0]; rfl
  refine va_last (D := gD G) (cl := xcl) (tys := gT G) C.1 C.2.1 C.2.2.2.2.2.2.2.2.1.2.2.1 hW (xD G w.2) hS i t he ht hx hd (fun H1 locs1 hP1 _ hS1 => ?_)
  refine h p e s m args below meth c H1 locs1 ls C hS1 ?_ (xM_set hM i _) hl
  show va_P (gD G) xcl (xws G (w.2.set i (.inl (t, n, .inr (.inl (vp_updL f x.toNatClampNeg v)))))) H1
  rw [xws_set]
  have : xe G (.inl (t, n, .inr (.inl (vp_updL f x.toNatClampNeg v)))) = .inl (cA, n, .inr (.inl (vp_updL f x.toNatClampNeg v))) := by rw [← e0]; rfl
  rw [this]
  exact hP1
theorem J_aast {i n t i2 ci : Nat} {vs : List Value} {f : Nat → Option Nat} {x : Int32} {rr : vw_C} (hd : decode y.2.1 pc = .ok (.aastore, 1)) (hc : xcl[ci]? = some rr) (ht : ∃ cA, (gT G)[t]? = some (cA, .object rr.1)) (hi : w.2[i]? = some (.inl (t, n, .inr (.inr (.inr (.inr f)))))) (hi2 : w.2[i2]? = some (.inr (ci, vs))) (hx : vp_in x n) (h : JW G y k (pc + 1) L st (xdn w.1, w.2.set i (.inl (t, n, .inr (.inr (.inr (.inr (va_up f x.toNatClampNeg (some i2)))))))) r) : JW G y k pc L (.ref i2 :: .int x :: .ref i :: st) w r := by
  intro p e s m args below meth c H locs ls C hS hW hM hl
  obtain ⟨cA, ht⟩ := ht
  have e0 : ((gT G).getD t (0, .int)).1 = cA := by rw [List.getD_eq_getElem?_getD, ht]; rfl
  have he : (xws G w.2)[i]? = some (gb G + i, .inl (cA, n, .inr (.inr (.inr (.inr (fun j => (f j).map (fun i => gb G + i))))))) := by rw [xws_get hi, ← e0]; rfl
  refine va_astq (D := gD G) (cl := xcl) (tys := gT G) C.1 C.2.1 C.2.2.2.2.2.2.2.2.1.2.2.1 hW (xD G w.2) hS i t i2 ci he ht (xws_get hi2) hc hx hd (fun H1 locs1 hP1 _ hS1 => ?_)
  refine h p e s m args below meth c H1 locs1 ls C hS1 ?_ (xM_set hM i _) hl
  show va_P (gD G) xcl (xws G (w.2.set i (.inl (t, n, .inr (.inr (.inr (.inr (va_up f x.toNatClampNeg (some i2))))))))) H1
  rw [xws_set]
  have : xe G (.inl (t, n, .inr (.inr (.inr (.inr (va_up f x.toNatClampNeg (some i2))))))) = .inl (cA, n, .inr (.inr (.inr (.inr (va_up (fun j => (f j).map (fun i => gb G + i)) x.toNatClampNeg (some (gb G + i2))))))) := by
    rw [← e0]
    show Sum.inl (_, n, Sum.inr (Sum.inr (Sum.inr (Sum.inr _)))) = _
    congr 7
    funext j
    unfold va_up
    by_cases hj : j = x.toNatClampNeg <;> simp [hj]
  rw [this]
  exact hP1
theorem J_sald {x : Int32} {u : UInt32} (hd : decode y.2.1 pc = .ok (.iaload, 1)) (hx : vp_in x (gN G)) (h : JW G y k (pc + 1) L (.int (gx G x.toNatClampNeg) :: st) w r) : JW G y k pc L (.int x :: .float u :: st) w r := by
  intro p e s m args below meth c H locs ls C hS hW hM hl
  have K := C.2.2.2.2.2.2.2.2.1
  exact va_sld C.1 C.2.1 K.2.2.2.2.2.2.1 (Nat.lt_of_lt_of_le K.2.2.2.2.2.2.2.1 K.2.1) (Nat.not_le.mpr K.2.2.2.2.2.2.2.1) hS hx hd (h p e s m args below meth c H locs ls C hS hW hM hl)
theorem J_slen {u : UInt32} (hd : decode y.2.1 pc = .ok (.arraylength, 1)) (h : JW G y k (pc + 1) L (.int (Int32.ofNat (gN G)) :: st) w r) : JW G y k pc L (.float u :: st) w r := by
  intro p e s m args below meth c H locs ls C hS hW hM hl
  have K := C.2.2.2.2.2.2.2.2.1
  exact va_slen C.1 C.2.1 K.2.2.2.2.2.2.1 (Nat.lt_of_lt_of_le K.2.2.2.2.2.2.2.1 K.2.1) (Nat.not_le.mpr K.2.2.2.2.2.2.2.1) hS hd (h p e s m args below meth c H locs ls C hS hW hM hl)
end XJ
