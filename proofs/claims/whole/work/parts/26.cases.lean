section XW
variable {G : xG}
theorem xGo_s7 {y : xY} {k : Nat × Nat} {pc : Nat} {L : List (Nat × Value)} {st : List Value} {w : xH} {z : xY} {index : Nat} {a1 a2 a3 a4 a5 a6 a7 : Value} (hd : decode y.2.1 pc = .ok (.invokestatic index, 3)) (hc : xcs y.1.cls index z 7) : xGo G y k pc L (a7 :: a6 :: a5 :: a4 :: a3 :: a2 :: a1 :: st) w z [a1, a2, a3, a4, a5, a6, a7] st := xGo_s (avs := [a1, a2, a3, a4, a5, a6, a7]) hd hc rfl
theorem xlk_in {L : List (Nat × Value)} {i : Nat} {v : Value} (h : xlk L i = some v) : (i, v) ∈ L := by
  unfold xlk at h
  cases hf : L.find? (fun q => q.1 == i) with
  | none => rw [hf] at h; cases h
  | some q =>
    rw [hf] at h
    have h1 := List.mem_of_find?_eq_some hf
    have h2 := List.find?_some hf
    have h3 : q.1 = i := by simpa using h2
    have h4 : q.2 = v := Option.some.inj h
    rw [← h3, ← h4]
    exact h1
def LL (i : Int32) : List (Nat × Value) := [(4, .int i), (3, .ref 39), (2, .ref 22), (1, .ref 0), (0, .float 0)]
theorem J_back {y : xY} {k : Nat × Nat} {pc : Nat} {L : List (Nat × Value)} {st : List Value} {w : xH} {r : xR} {i : Int32} (h4 : xlk L 4 = some (.int i)) (h3 : xlk L 3 = some (.ref 39)) (h2 : xlk L 2 = some (.ref 22)) (h1 : xlk L 1 = some (.ref 0)) (h0 : xlk L 0 = some (.float 0)) (h : JW G y k pc (LL i) st w r) : JW G y k pc L st w r := by
  have hs : ∀ q ∈ LL i, q ∈ L := by
    intro q hq
    unfold LL at hq
    simp only [List.mem_cons, List.not_mem_nil, or_false] at hq
    rcases hq with rfl | rfl | rfl | rfl | rfl
    · exact xlk_in h4
    · exact xlk_in h3
    · exact xlk_in h2
    · exact xlk_in h1
    · exact xlk_in h0
  exact fun p e s m args below meth c H locs ls C hS hW hM hl => h p e s m args below meth c H locs ls C hS hW hM ⟨hl.1, hl.2.1, fun q hq => by
    obtain ⟨a, ha, rfl⟩ := List.mem_map.mp hq
    exact hl.2.2 _ (List.mem_map.mpr ⟨a, hs a ha, rfl⟩)⟩
theorem J_nil {y : xY} {k : Nat × Nat} {pc : Nat} {L : List (Nat × Value)} {st : List Value} {w : xH} {r : xR} (h : JW G y k pc L st (0, []) r) : JW G y k pc L st w r :=
  fun p e s m args below meth c H locs ls C hS _ _ hl => h p e s m args below meth c H locs ls C hS (fun n q hq => by cases hq) ⟨fun q => (by cases q), fun q => (by cases q)⟩ hl
theorem rl {z : xY} {a b : Nat} (ha : a ≤ 10000) (hb : b ≤ 10000) (h : z.2.2.2.2.1.frames ≤ 10 ∧ 8 + (z.2.2.1 + 11) + z.2.2.2.2.1.locals ≤ 408 ∧ z.2.2.2.2.1.cells ≤ 1 ∧ z.2.2.2.2.1.slots ≤ 6) : xcR z (a, b) Y_La_law.2.2.2.2.1 := by
  refine ⟨?_, ?_, ?_, ?_⟩
  · show z.2.2.2.2.1.frames + 1 ≤ 11; omega
  · show 8 + (z.2.2.1 + 11) + z.2.2.2.2.1.locals ≤ 408; omega
  · show a + z.2.2.2.2.1.cells ≤ 663135; omega
  · show b + z.2.2.2.2.1.slots ≤ 7106699; omega
set_option maxHeartbeats 4000000 in
set_option maxRecDepth 100000 in
theorem law_share {j : Nat} {h : List va_E} {i : Int32} {a b : Nat} {r : xR} (hG : gTok G) (hj : j ≤ 1000) (hI : Inv j h) (ha : a ≤ 1000) (hb : b ≤ 9000) (hx1 : vp_in (i + 1) (gN G)) (hx2 : vp_in (i + 2) (gN G)) (hx3 : vp_in (i + 3) (gN G)) (hx4 : vp_in (i + 4) (gN G)) (hx5 : vp_in (i + 5) (gN G)) (hx6 : vp_in (i + 6) (gN G)) (nx : ∀ h2, Inv (j + 1) h2 → JW G Y_La_law (a + 1, b + 6) 1362 (LL i) [] (0, h2) r) : JW G Y_La_law (a, b) 128 (LL i) [] (0, h) r := by
  unfold LL
  refine J_aload_n d_La_law_128 rfl rfl ?_
  refine J_sload_n d_La_law_129 rfl rfl ?_
  refine J_iload d_La_law_130 rfl ?_
  refine J_iconst (v := 1) d_La_law_132 (by decide) ?_
  refine J_iadd d_La_law_133 ?_
  refine J_sald d_La_law_134 hx1 ?_
  refine J_sload_n d_La_law_135 rfl rfl ?_
  refine J_iload d_La_law_136 rfl ?_
  refine J_iconst (v := 2) d_La_law_138 (by decide) ?_
  refine J_iadd d_La_law_139 ?_
  refine J_sald d_La_law_140 hx2 ?_
  refine J_sload_n d_La_law_141 rfl rfl ?_
  refine J_iload d_La_law_142 rfl ?_
  refine J_iconst (v := 3) d_La_law_144 (by decide) ?_
  refine J_iadd d_La_law_145 ?_
  refine J_sald d_La_law_146 hx3 ?_
  obtain ⟨code, h1, h2, kz, v, o, f1, f2, z1, z2, A1, A2, A3, A4, A5, A6, A7, A8⟩ := p_share (t := gx G (i + 1).toNatClampNeg) (a := gx G (i + 2).toNatClampNeg) (b := gx G (i + 3).toNatClampNeg) hG hI
  have A8 : v = none := A8
  subst A8
  refine J_callX (xGo_s4 d_La_law_147 xc_La_78) ⟨xq_La_share.1, xq_La_share.2.1⟩ (rl (by omega) (by omega) ⟨Nat.le_of_ble_eq_true rfl, Nat.le_of_ble_eq_true rfl, Nat.le_of_ble_eq_true rfl, Nat.le_of_ble_eq_true rfl⟩) (Nat.le_of_ble_eq_true rfl) A1 ?_
  refine J_widen (k2 := (a + 1, b + 6)) (Nat.add_le_add_left z1 _) (Nat.add_le_add_left z2 _) (show ¬ (0 : Nat) = 2 by decide) ?_
  refine J_istore d_La_law_150 (by decide) ?_
  refine J_aload_n d_La_law_152 rfl rfl ?_
  refine J_sload_n d_La_law_153 rfl rfl ?_
  refine J_iload d_La_law_154 rfl ?_
  refine J_iconst (v := 1) d_La_law_156 (by decide) ?_
  refine J_iadd d_La_law_157 ?_
  refine J_sald d_La_law_158 hx1 ?_
  refine J_sload_n d_La_law_159 rfl rfl ?_
  refine J_iload d_La_law_160 rfl ?_
  refine J_iconst (v := 2) d_La_law_162 (by decide) ?_
  refine J_iadd d_La_law_163 ?_
  refine J_sald d_La_law_164 hx2 ?_
  refine J_sload_n d_La_law_165 rfl rfl ?_
  refine J_iload d_La_law_166 rfl ?_
  refine J_iconst (v := 3) d_La_law_168 (by decide) ?_
  refine J_iadd d_La_law_169 ?_
  refine J_sald d_La_law_170 hx3 ?_
  refine J_callW (xGo_v3 d_La_law_171 xc_La_83 A2 rfl rfl) ⟨xq_Mo_share.1, xq_Mo_share.2.1⟩ (rl (by omega) (by omega) ⟨Nat.le_of_ble_eq_true rfl, Nat.le_of_ble_eq_true rfl, Nat.le_of_ble_eq_true rfl, Nat.le_of_ble_eq_true rfl⟩) (Nat.le_of_ble_eq_true rfl) A3 ?_
  refine J_aload_n d_La_law_174 rfl rfl ?_
  refine J_callP (xGo_v0 d_La_law_175 xc_La_84 A5 rfl rfl) ⟨xq_Mo_thrown.1, xq_Mo_thrown.2.1⟩ (rl (by omega) (by omega) ⟨Nat.le_of_ble_eq_true rfl, Nat.le_of_ble_eq_true rfl, Nat.le_of_ble_eq_true rfl, Nat.le_of_ble_eq_true rfl⟩) (Nat.le_of_ble_eq_true rfl) A4 ?_
  refine J_iload d_La_law_178 rfl ?_
  refine J_icmp_eq (tgt := 185) d_La_law_180 (by decide) (fun c180 => ?_) (fun c180 => ?_)
  · skip
    refine J_goto (tgt := 1362) d_La_law_185 (by decide) ?_
    exact J_back rfl rfl rfl rfl rfl (nx _ A7)
  · skip
    exact absurd rfl c180
set_option maxHeartbeats 4000000 in
set_option maxRecDepth 100000 in
theorem law_log {j : Nat} {h : List va_E} {i : Int32} {a b : Nat} {r : xR} (hG : gTok G) (hj : j ≤ 1000) (hI : Inv j h) (ha : a ≤ 1000) (hb : b ≤ 9000) (hx1 : vp_in (i + 1) (gN G)) (hx2 : vp_in (i + 2) (gN G)) (hx3 : vp_in (i + 3) (gN G)) (hx4 : vp_in (i + 4) (gN G)) (hx5 : vp_in (i + 5) (gN G)) (hx6 : vp_in (i + 6) (gN G)) (nx : ∀ h2, Inv (j + 1) h2 → JW G Y_La_law (a + 1, b + 6) 1362 (LL i) [] (0, h2) r) : JW G Y_La_law (a, b) 188 (LL i) [] (0, h) r := by
  unfold LL
  refine J_aload_n d_La_law_188 rfl rfl ?_
  refine J_sload_n d_La_law_189 rfl rfl ?_
  refine J_iload d_La_law_190 rfl ?_
  refine J_iconst (v := 1) d_La_law_192 (by decide) ?_
  refine J_iadd d_La_law_193 ?_
  refine J_sald d_La_law_194 hx1 ?_
  refine J_sload_n d_La_law_195 rfl rfl ?_
  refine J_iload d_La_law_196 rfl ?_
  refine J_iconst (v := 2) d_La_law_198 (by decide) ?_
  refine J_iadd d_La_law_199 ?_
  refine J_sald d_La_law_200 hx2 ?_
  refine J_sload_n d_La_law_201 rfl rfl ?_
  refine J_iload d_La_law_202 rfl ?_
  refine J_iconst (v := 3) d_La_law_204 (by decide) ?_
  refine J_iadd d_La_law_205 ?_
  refine J_sald d_La_law_206 hx3 ?_
  refine J_aload_n d_La_law_207 rfl rfl ?_
  obtain ⟨code, h1, h2, kz, v, o, f1, f2, z1, z2, A1, A2, A3, A4, A5, A6, A7, A8⟩ := p_log (v := gx G (i + 1).toNatClampNeg) (b := gx G (i + 2).toNatClampNeg) (k := gx G (i + 3).toNatClampNeg) hG hI
  obtain ⟨q, A8, hq⟩ : ∃ b : Int32, v = some (.int b) ∧ (code = 0 → o 0 = b.toInt64) := A8
  subst A8
  refine J_callX (xGo_s5 d_La_law_208 xc_La_88) ⟨xq_La_log.1, xq_La_log.2.1⟩ (rl (by omega) (by omega) ⟨Nat.le_of_ble_eq_true rfl, Nat.le_of_ble_eq_true rfl, Nat.le_of_ble_eq_true rfl, Nat.le_of_ble_eq_true rfl⟩) (Nat.le_of_ble_eq_true rfl) A1 ?_
  refine J_widen (k2 := (a + 1, b + 6)) (Nat.add_le_add_left z1 _) (Nat.add_le_add_left z2 _) (show ¬ (0 : Nat) = 2 by decide) ?_
  refine J_istore d_La_law_211 (by decide) ?_
  refine J_aload_n d_La_law_213 rfl rfl ?_
  refine J_sload_n d_La_law_214 rfl rfl ?_
  refine J_iload d_La_law_215 rfl ?_
  refine J_iconst (v := 1) d_La_law_217 (by decide) ?_
  refine J_iadd d_La_law_218 ?_
  refine J_sald d_La_law_219 hx1 ?_
  refine J_sload_n d_La_law_220 rfl rfl ?_
  refine J_iload d_La_law_221 rfl ?_
  refine J_iconst (v := 2) d_La_law_223 (by decide) ?_
  refine J_iadd d_La_law_224 ?_
  refine J_sald d_La_law_225 hx2 ?_
  refine J_sload_n d_La_law_226 rfl rfl ?_
  refine J_iload d_La_law_227 rfl ?_
  refine J_iconst (v := 3) d_La_law_229 (by decide) ?_
  refine J_iadd d_La_law_230 ?_
  refine J_sald d_La_law_231 hx3 ?_
  refine J_callW (xGo_v3 d_La_law_232 xc_La_91 A2 rfl rfl) ⟨xq_Mo_log.1, xq_Mo_log.2.1⟩ (rl (by omega) (by omega) ⟨Nat.le_of_ble_eq_true rfl, Nat.le_of_ble_eq_true rfl, Nat.le_of_ble_eq_true rfl, Nat.le_of_ble_eq_true rfl⟩) (Nat.le_of_ble_eq_true rfl) A3 ?_
  refine J_istore d_La_law_235 (by decide) ?_
  refine J_aload_n d_La_law_237 rfl rfl ?_
  refine J_callP (xGo_v0 d_La_law_238 xc_La_84 A5 rfl rfl) ⟨xq_Mo_thrown.1, xq_Mo_thrown.2.1⟩ (rl (by omega) (by omega) ⟨Nat.le_of_ble_eq_true rfl, Nat.le_of_ble_eq_true rfl, Nat.le_of_ble_eq_true rfl, Nat.le_of_ble_eq_true rfl⟩) (Nat.le_of_ble_eq_true rfl) A4 ?_
  refine J_iload d_La_law_241 rfl ?_
  refine J_icmp_eq (tgt := 248) d_La_law_243 (by decide) (fun c243 => ?_) (fun c243 => ?_)
  · skip
    refine J_iload d_La_law_248 rfl ?_
    refine J_if_ne (tgt := 265) d_La_law_250 (by decide) (fun c250 => ?_) (fun c250 => ?_)
    · skip
      refine J_goto (tgt := 1362) d_La_law_265 (by decide) ?_
      exact J_back rfl rfl rfl rfl rfl (nx _ A7)
    · skip
      have c250 := Classical.not_not.mp c250
      refine J_aload_n d_La_law_253 rfl rfl ?_
      refine J_iconst (v := 0) d_La_law_254 (by decide) ?_
      refine J_lald d_La_law_255 (gt1 hG) A6 (vp_in_nI (n := 0) (by decide) (by decide)) ?_
      refine J_iload d_La_law_256 rfl ?_
      refine J_i2l d_La_law_258 ?_
      refine J_lcmp d_La_law_259 ?_
      refine J_lif_eq (tgt := 265) d_La_law_260 (by decide) (fun c260 => ?_) (fun c260 => ?_)
      · skip
        refine J_goto (tgt := 1362) d_La_law_265 (by decide) ?_
        exact J_back rfl rfl rfl rfl rfl (nx _ A7)
      · skip
        exact absurd (hq c250) c260
  · skip
    exact absurd rfl c243
set_option maxHeartbeats 4000000 in
set_option maxRecDepth 100000 in
theorem law_volume {j : Nat} {h : List va_E} {i : Int32} {a b : Nat} {r : xR} (hG : gTok G) (hj : j ≤ 1000) (hI : Inv j h) (ha : a ≤ 1000) (hb : b ≤ 9000) (hx1 : vp_in (i + 1) (gN G)) (hx2 : vp_in (i + 2) (gN G)) (hx3 : vp_in (i + 3) (gN G)) (hx4 : vp_in (i + 4) (gN G)) (hx5 : vp_in (i + 5) (gN G)) (hx6 : vp_in (i + 6) (gN G)) (nx : ∀ h2, Inv (j + 1) h2 → JW G Y_La_law (a + 1, b + 6) 1362 (LL i) [] (0, h2) r) : JW G Y_La_law (a, b) 268 (LL i) [] (0, h) r := by
  unfold LL
  refine J_aload_n d_La_law_268 rfl rfl ?_
  refine J_sload_n d_La_law_269 rfl rfl ?_
  refine J_iload d_La_law_270 rfl ?_
  refine J_iconst (v := 1) d_La_law_272 (by decide) ?_
  refine J_iadd d_La_law_273 ?_
  refine J_sald d_La_law_274 hx1 ?_
  refine J_sload_n d_La_law_275 rfl rfl ?_
  refine J_iload d_La_law_276 rfl ?_
  refine J_iconst (v := 2) d_La_law_278 (by decide) ?_
  refine J_iadd d_La_law_279 ?_
  refine J_sald d_La_law_280 hx2 ?_
  refine J_if_eq (tgt := 288) d_La_law_281 (by decide) (fun c281 => ?_) (fun c281 => ?_)
  · skip
    refine J_iconst (v := 0) d_La_law_288 (by decide) ?_
    refine J_aload_n d_La_law_289 rfl rfl ?_
    obtain ⟨code, h1, h2, kz, v, o, f1, f2, z1, z2, A1, A2, A3, A4, A5, A6, A7, A8⟩ := p_volume (k := gx G (i + 1).toNatClampNeg) (a := 0) hG hI
    obtain ⟨q, A8, hq⟩ : ∃ b : Int64, v = some (.long b) ∧ (code = 0 → o 0 = b) := A8
    subst A8
    refine J_callX (xGo_s4 d_La_law_290 xc_La_92) ⟨xq_La_volume.1, xq_La_volume.2.1⟩ (rl (by omega) (by omega) ⟨Nat.le_of_ble_eq_true rfl, Nat.le_of_ble_eq_true rfl, Nat.le_of_ble_eq_true rfl, Nat.le_of_ble_eq_true rfl⟩) (Nat.le_of_ble_eq_true rfl) A1 ?_
    refine J_widen (k2 := (a + 1, b + 6)) (Nat.add_le_add_left z1 _) (Nat.add_le_add_left z2 _) (show ¬ (0 : Nat) = 2 by decide) ?_
    refine J_istore d_La_law_293 (by decide) ?_
    refine J_aload_n d_La_law_295 rfl rfl ?_
    refine J_sload_n d_La_law_296 rfl rfl ?_
    refine J_iload d_La_law_297 rfl ?_
    refine J_iconst (v := 1) d_La_law_299 (by decide) ?_
    refine J_iadd d_La_law_300 ?_
    refine J_sald d_La_law_301 hx1 ?_
    refine J_sload_n d_La_law_302 rfl rfl ?_
    refine J_iload d_La_law_303 rfl ?_
    refine J_iconst (v := 2) d_La_law_305 (by decide) ?_
    refine J_iadd d_La_law_306 ?_
    refine J_sald d_La_law_307 hx2 ?_
    refine J_if_eq (tgt := 315) d_La_law_308 (by decide) (fun c308 => ?_) (fun c308 => ?_)
    · skip
      refine J_iconst (v := 0) d_La_law_315 (by decide) ?_
      refine J_callW (xGo_v2 d_La_law_316 xc_La_95 A2 rfl rfl) ⟨xq_Mo_volume.1, xq_Mo_volume.2.1⟩ (rl (by omega) (by omega) ⟨Nat.le_of_ble_eq_true rfl, Nat.le_of_ble_eq_true rfl, Nat.le_of_ble_eq_true rfl, Nat.le_of_ble_eq_true rfl⟩) (Nat.le_of_ble_eq_true rfl) A3 ?_
      refine J_lstore d_La_law_319 (by decide) ?_
      refine J_aload_n d_La_law_321 rfl rfl ?_
      refine J_callP (xGo_v0 d_La_law_322 xc_La_84 A5 rfl rfl) ⟨xq_Mo_thrown.1, xq_Mo_thrown.2.1⟩ (rl (by omega) (by omega) ⟨Nat.le_of_ble_eq_true rfl, Nat.le_of_ble_eq_true rfl, Nat.le_of_ble_eq_true rfl, Nat.le_of_ble_eq_true rfl⟩) (Nat.le_of_ble_eq_true rfl) A4 ?_
      refine J_iload d_La_law_325 rfl ?_
      refine J_icmp_eq (tgt := 332) d_La_law_327 (by decide) (fun c327 => ?_) (fun c327 => ?_)
      · skip
        refine J_iload d_La_law_332 rfl ?_
        refine J_if_ne (tgt := 348) d_La_law_334 (by decide) (fun c334 => ?_) (fun c334 => ?_)
        · skip
          refine J_goto (tgt := 1362) d_La_law_348 (by decide) ?_
          exact J_back rfl rfl rfl rfl rfl (nx _ A7)
        · skip
          have c334 := Classical.not_not.mp c334
          refine J_aload_n d_La_law_337 rfl rfl ?_
          refine J_iconst (v := 0) d_La_law_338 (by decide) ?_
          refine J_lald d_La_law_339 (gt1 hG) A6 (vp_in_nI (n := 0) (by decide) (by decide)) ?_
          refine J_lload d_La_law_340 rfl ?_
          refine J_lcmp d_La_law_342 ?_
          refine J_lif_eq (tgt := 348) d_La_law_343 (by decide) (fun c343 => ?_) (fun c343 => ?_)
          · skip
            refine J_goto (tgt := 1362) d_La_law_348 (by decide) ?_
            exact J_back rfl rfl rfl rfl rfl (nx _ A7)
          · skip
            exact absurd (hq c334) c343
      · skip
        exact absurd rfl c327
    · skip
      exact absurd c281 c308
  · skip
    refine J_iconst (v := 1) d_La_law_284 (by decide) ?_
    refine J_goto (tgt := 289) d_La_law_285 (by decide) ?_
    refine J_aload_n d_La_law_289 rfl rfl ?_
    obtain ⟨code, h1, h2, kz, v, o, f1, f2, z1, z2, A1, A2, A3, A4, A5, A6, A7, A8⟩ := p_volume (k := gx G (i + 1).toNatClampNeg) (a := 1) hG hI
    obtain ⟨q, A8, hq⟩ : ∃ b : Int64, v = some (.long b) ∧ (code = 0 → o 0 = b) := A8
    subst A8
    refine J_callX (xGo_s4 d_La_law_290 xc_La_92) ⟨xq_La_volume.1, xq_La_volume.2.1⟩ (rl (by omega) (by omega) ⟨Nat.le_of_ble_eq_true rfl, Nat.le_of_ble_eq_true rfl, Nat.le_of_ble_eq_true rfl, Nat.le_of_ble_eq_true rfl⟩) (Nat.le_of_ble_eq_true rfl) A1 ?_
    refine J_widen (k2 := (a + 1, b + 6)) (Nat.add_le_add_left z1 _) (Nat.add_le_add_left z2 _) (show ¬ (0 : Nat) = 2 by decide) ?_
    refine J_istore d_La_law_293 (by decide) ?_
    refine J_aload_n d_La_law_295 rfl rfl ?_
    refine J_sload_n d_La_law_296 rfl rfl ?_
    refine J_iload d_La_law_297 rfl ?_
    refine J_iconst (v := 1) d_La_law_299 (by decide) ?_
    refine J_iadd d_La_law_300 ?_
    refine J_sald d_La_law_301 hx1 ?_
    refine J_sload_n d_La_law_302 rfl rfl ?_
    refine J_iload d_La_law_303 rfl ?_
    refine J_iconst (v := 2) d_La_law_305 (by decide) ?_
    refine J_iadd d_La_law_306 ?_
    refine J_sald d_La_law_307 hx2 ?_
    refine J_if_eq (tgt := 315) d_La_law_308 (by decide) (fun c308 => ?_) (fun c308 => ?_)
    · skip
      exact absurd c308 c281
    · skip
      refine J_iconst (v := 1) d_La_law_311 (by decide) ?_
      refine J_goto (tgt := 316) d_La_law_312 (by decide) ?_
      refine J_callW (xGo_v2 d_La_law_316 xc_La_95 A2 rfl rfl) ⟨xq_Mo_volume.1, xq_Mo_volume.2.1⟩ (rl (by omega) (by omega) ⟨Nat.le_of_ble_eq_true rfl, Nat.le_of_ble_eq_true rfl, Nat.le_of_ble_eq_true rfl, Nat.le_of_ble_eq_true rfl⟩) (Nat.le_of_ble_eq_true rfl) A3 ?_
      refine J_lstore d_La_law_319 (by decide) ?_
      refine J_aload_n d_La_law_321 rfl rfl ?_
      refine J_callP (xGo_v0 d_La_law_322 xc_La_84 A5 rfl rfl) ⟨xq_Mo_thrown.1, xq_Mo_thrown.2.1⟩ (rl (by omega) (by omega) ⟨Nat.le_of_ble_eq_true rfl, Nat.le_of_ble_eq_true rfl, Nat.le_of_ble_eq_true rfl, Nat.le_of_ble_eq_true rfl⟩) (Nat.le_of_ble_eq_true rfl) A4 ?_
      refine J_iload d_La_law_325 rfl ?_
      refine J_icmp_eq (tgt := 332) d_La_law_327 (by decide) (fun c327 => ?_) (fun c327 => ?_)
      · skip
        refine J_iload d_La_law_332 rfl ?_
        refine J_if_ne (tgt := 348) d_La_law_334 (by decide) (fun c334 => ?_) (fun c334 => ?_)
        · skip
          refine J_goto (tgt := 1362) d_La_law_348 (by decide) ?_
          exact J_back rfl rfl rfl rfl rfl (nx _ A7)
        · skip
          have c334 := Classical.not_not.mp c334
          refine J_aload_n d_La_law_337 rfl rfl ?_
          refine J_iconst (v := 0) d_La_law_338 (by decide) ?_
          refine J_lald d_La_law_339 (gt1 hG) A6 (vp_in_nI (n := 0) (by decide) (by decide)) ?_
          refine J_lload d_La_law_340 rfl ?_
          refine J_lcmp d_La_law_342 ?_
          refine J_lif_eq (tgt := 348) d_La_law_343 (by decide) (fun c343 => ?_) (fun c343 => ?_)
          · skip
            refine J_goto (tgt := 1362) d_La_law_348 (by decide) ?_
            exact J_back rfl rfl rfl rfl rfl (nx _ A7)
          · skip
            exact absurd (hq c334) c343
      · skip
        exact absurd rfl c327
set_option maxHeartbeats 4000000 in
set_option maxRecDepth 100000 in
theorem law_boards {j : Nat} {h : List va_E} {i : Int32} {a b : Nat} {r : xR} (hG : gTok G) (hj : j ≤ 1000) (hI : Inv j h) (ha : a ≤ 1000) (hb : b ≤ 9000) (hx1 : vp_in (i + 1) (gN G)) (hx2 : vp_in (i + 2) (gN G)) (hx3 : vp_in (i + 3) (gN G)) (hx4 : vp_in (i + 4) (gN G)) (hx5 : vp_in (i + 5) (gN G)) (hx6 : vp_in (i + 6) (gN G)) (nx : ∀ h2, Inv (j + 1) h2 → JW G Y_La_law (a + 1, b + 6) 1362 (LL i) [] (0, h2) r) : JW G Y_La_law (a, b) 351 (LL i) [] (0, h) r := by
  unfold LL
  refine J_aload_n d_La_law_351 rfl rfl ?_
  refine J_sload_n d_La_law_352 rfl rfl ?_
  refine J_iload d_La_law_353 rfl ?_
  refine J_iconst (v := 1) d_La_law_355 (by decide) ?_
  refine J_iadd d_La_law_356 ?_
  refine J_sald d_La_law_357 hx1 ?_
  refine J_if_eq (tgt := 365) d_La_law_358 (by decide) (fun c358 => ?_) (fun c358 => ?_)
  · skip
    refine J_iconst (v := 0) d_La_law_365 (by decide) ?_
    refine J_aload_n d_La_law_366 rfl rfl ?_
    obtain ⟨code, h1, h2, kz, v, o, f1, f2, z1, z2, A1, A2, A3, A4, A5, A6, A7, A8⟩ := p_boards (a := 0) hG hI
    obtain ⟨q, A8, hq⟩ : ∃ b : Int64, v = some (.long b) ∧ (code = 0 → o 0 = b) := A8
    subst A8
    refine J_callX (xGo_s3 d_La_law_367 xc_La_96) ⟨xq_La_boards.1, xq_La_boards.2.1⟩ (rl (by omega) (by omega) ⟨Nat.le_of_ble_eq_true rfl, Nat.le_of_ble_eq_true rfl, Nat.le_of_ble_eq_true rfl, Nat.le_of_ble_eq_true rfl⟩) (Nat.le_of_ble_eq_true rfl) A1 ?_
    refine J_widen (k2 := (a + 1, b + 6)) (Nat.add_le_add_left z1 _) (Nat.add_le_add_left z2 _) (show ¬ (0 : Nat) = 2 by decide) ?_
    refine J_istore d_La_law_370 (by decide) ?_
    refine J_aload_n d_La_law_372 rfl rfl ?_
    refine J_sload_n d_La_law_373 rfl rfl ?_
    refine J_iload d_La_law_374 rfl ?_
    refine J_iconst (v := 1) d_La_law_376 (by decide) ?_
    refine J_iadd d_La_law_377 ?_
    refine J_sald d_La_law_378 hx1 ?_
    refine J_if_eq (tgt := 386) d_La_law_379 (by decide) (fun c379 => ?_) (fun c379 => ?_)
    · skip
      refine J_iconst (v := 0) d_La_law_386 (by decide) ?_
      refine J_callW (xGo_v1 d_La_law_387 xc_La_99 A2 rfl rfl) ⟨xq_Mo_boards.1, xq_Mo_boards.2.1⟩ (rl (by omega) (by omega) ⟨Nat.le_of_ble_eq_true rfl, Nat.le_of_ble_eq_true rfl, Nat.le_of_ble_eq_true rfl, Nat.le_of_ble_eq_true rfl⟩) (Nat.le_of_ble_eq_true rfl) A3 ?_
      refine J_lstore d_La_law_390 (by decide) ?_
      refine J_aload_n d_La_law_392 rfl rfl ?_
      refine J_callP (xGo_v0 d_La_law_393 xc_La_84 A5 rfl rfl) ⟨xq_Mo_thrown.1, xq_Mo_thrown.2.1⟩ (rl (by omega) (by omega) ⟨Nat.le_of_ble_eq_true rfl, Nat.le_of_ble_eq_true rfl, Nat.le_of_ble_eq_true rfl, Nat.le_of_ble_eq_true rfl⟩) (Nat.le_of_ble_eq_true rfl) A4 ?_
      refine J_iload d_La_law_396 rfl ?_
      refine J_icmp_eq (tgt := 403) d_La_law_398 (by decide) (fun c398 => ?_) (fun c398 => ?_)
      · skip
        refine J_iload d_La_law_403 rfl ?_
        refine J_if_ne (tgt := 419) d_La_law_405 (by decide) (fun c405 => ?_) (fun c405 => ?_)
        · skip
          refine J_goto (tgt := 1362) d_La_law_419 (by decide) ?_
          exact J_back rfl rfl rfl rfl rfl (nx _ A7)
        · skip
          have c405 := Classical.not_not.mp c405
          refine J_aload_n d_La_law_408 rfl rfl ?_
          refine J_iconst (v := 0) d_La_law_409 (by decide) ?_
          refine J_lald d_La_law_410 (gt1 hG) A6 (vp_in_nI (n := 0) (by decide) (by decide)) ?_
          refine J_lload d_La_law_411 rfl ?_
          refine J_lcmp d_La_law_413 ?_
          refine J_lif_eq (tgt := 419) d_La_law_414 (by decide) (fun c414 => ?_) (fun c414 => ?_)
          · skip
            refine J_goto (tgt := 1362) d_La_law_419 (by decide) ?_
            exact J_back rfl rfl rfl rfl rfl (nx _ A7)
          · skip
            exact absurd (hq c405) c414
      · skip
        exact absurd rfl c398
    · skip
      exact absurd c358 c379
  · skip
    refine J_iconst (v := 1) d_La_law_361 (by decide) ?_
    refine J_goto (tgt := 366) d_La_law_362 (by decide) ?_
    refine J_aload_n d_La_law_366 rfl rfl ?_
    obtain ⟨code, h1, h2, kz, v, o, f1, f2, z1, z2, A1, A2, A3, A4, A5, A6, A7, A8⟩ := p_boards (a := 1) hG hI
    obtain ⟨q, A8, hq⟩ : ∃ b : Int64, v = some (.long b) ∧ (code = 0 → o 0 = b) := A8
    subst A8
    refine J_callX (xGo_s3 d_La_law_367 xc_La_96) ⟨xq_La_boards.1, xq_La_boards.2.1⟩ (rl (by omega) (by omega) ⟨Nat.le_of_ble_eq_true rfl, Nat.le_of_ble_eq_true rfl, Nat.le_of_ble_eq_true rfl, Nat.le_of_ble_eq_true rfl⟩) (Nat.le_of_ble_eq_true rfl) A1 ?_
    refine J_widen (k2 := (a + 1, b + 6)) (Nat.add_le_add_left z1 _) (Nat.add_le_add_left z2 _) (show ¬ (0 : Nat) = 2 by decide) ?_
    refine J_istore d_La_law_370 (by decide) ?_
    refine J_aload_n d_La_law_372 rfl rfl ?_
    refine J_sload_n d_La_law_373 rfl rfl ?_
    refine J_iload d_La_law_374 rfl ?_
    refine J_iconst (v := 1) d_La_law_376 (by decide) ?_
    refine J_iadd d_La_law_377 ?_
    refine J_sald d_La_law_378 hx1 ?_
    refine J_if_eq (tgt := 386) d_La_law_379 (by decide) (fun c379 => ?_) (fun c379 => ?_)
    · skip
      exact absurd c379 c358
    · skip
      refine J_iconst (v := 1) d_La_law_382 (by decide) ?_
      refine J_goto (tgt := 387) d_La_law_383 (by decide) ?_
      refine J_callW (xGo_v1 d_La_law_387 xc_La_99 A2 rfl rfl) ⟨xq_Mo_boards.1, xq_Mo_boards.2.1⟩ (rl (by omega) (by omega) ⟨Nat.le_of_ble_eq_true rfl, Nat.le_of_ble_eq_true rfl, Nat.le_of_ble_eq_true rfl, Nat.le_of_ble_eq_true rfl⟩) (Nat.le_of_ble_eq_true rfl) A3 ?_
      refine J_lstore d_La_law_390 (by decide) ?_
      refine J_aload_n d_La_law_392 rfl rfl ?_
      refine J_callP (xGo_v0 d_La_law_393 xc_La_84 A5 rfl rfl) ⟨xq_Mo_thrown.1, xq_Mo_thrown.2.1⟩ (rl (by omega) (by omega) ⟨Nat.le_of_ble_eq_true rfl, Nat.le_of_ble_eq_true rfl, Nat.le_of_ble_eq_true rfl, Nat.le_of_ble_eq_true rfl⟩) (Nat.le_of_ble_eq_true rfl) A4 ?_
      refine J_iload d_La_law_396 rfl ?_
      refine J_icmp_eq (tgt := 403) d_La_law_398 (by decide) (fun c398 => ?_) (fun c398 => ?_)
      · skip
        refine J_iload d_La_law_403 rfl ?_
        refine J_if_ne (tgt := 419) d_La_law_405 (by decide) (fun c405 => ?_) (fun c405 => ?_)
        · skip
          refine J_goto (tgt := 1362) d_La_law_419 (by decide) ?_
          exact J_back rfl rfl rfl rfl rfl (nx _ A7)
        · skip
          have c405 := Classical.not_not.mp c405
          refine J_aload_n d_La_law_408 rfl rfl ?_
          refine J_iconst (v := 0) d_La_law_409 (by decide) ?_
          refine J_lald d_La_law_410 (gt1 hG) A6 (vp_in_nI (n := 0) (by decide) (by decide)) ?_
          refine J_lload d_La_law_411 rfl ?_
          refine J_lcmp d_La_law_413 ?_
          refine J_lif_eq (tgt := 419) d_La_law_414 (by decide) (fun c414 => ?_) (fun c414 => ?_)
          · skip
            refine J_goto (tgt := 1362) d_La_law_419 (by decide) ?_
            exact J_back rfl rfl rfl rfl rfl (nx _ A7)
          · skip
            exact absurd (hq c405) c414
      · skip
        exact absurd rfl c398
set_option maxHeartbeats 4000000 in
set_option maxRecDepth 100000 in
theorem law_bin {j : Nat} {h : List va_E} {i : Int32} {a b : Nat} {r : xR} (hG : gTok G) (hj : j ≤ 1000) (hI : Inv j h) (ha : a ≤ 1000) (hb : b ≤ 9000) (hx1 : vp_in (i + 1) (gN G)) (hx2 : vp_in (i + 2) (gN G)) (hx3 : vp_in (i + 3) (gN G)) (hx4 : vp_in (i + 4) (gN G)) (hx5 : vp_in (i + 5) (gN G)) (hx6 : vp_in (i + 6) (gN G)) (nx : ∀ h2, Inv (j + 1) h2 → JW G Y_La_law (a + 1, b + 6) 1362 (LL i) [] (0, h2) r) : JW G Y_La_law (a, b) 422 (LL i) [] (0, h) r := by
  unfold LL
  refine J_aload_n d_La_law_422 rfl rfl ?_
  refine J_sload_n d_La_law_423 rfl rfl ?_
  refine J_iload d_La_law_424 rfl ?_
  refine J_iconst (v := 1) d_La_law_426 (by decide) ?_
  refine J_iadd d_La_law_427 ?_
  refine J_sald d_La_law_428 hx1 ?_
  refine J_sload_n d_La_law_429 rfl rfl ?_
  refine J_iload d_La_law_430 rfl ?_
  refine J_iconst (v := 2) d_La_law_432 (by decide) ?_
  refine J_iadd d_La_law_433 ?_
  refine J_sald d_La_law_434 hx2 ?_
  refine J_aload_n d_La_law_435 rfl rfl ?_
  obtain ⟨code, h1, h2, kz, v, o, f1, f2, z1, z2, A1, A2, A3, A4, A5, A6, A7, A8⟩ := p_bin (k := gx G (i + 1).toNatClampNeg) (m := gx G (i + 2).toNatClampNeg) hG hI
  obtain ⟨q, A8, hq⟩ : ∃ b : Int32, v = some (.int b) ∧ (code = 0 → o 0 = b.toInt64) := A8
  subst A8
  refine J_callX (xGo_s4 d_La_law_436 xc_La_100) ⟨xq_La_bin.1, xq_La_bin.2.1⟩ (rl (by omega) (by omega) ⟨Nat.le_of_ble_eq_true rfl, Nat.le_of_ble_eq_true rfl, Nat.le_of_ble_eq_true rfl, Nat.le_of_ble_eq_true rfl⟩) (Nat.le_of_ble_eq_true rfl) A1 ?_
  refine J_widen (k2 := (a + 1, b + 6)) (Nat.add_le_add_left z1 _) (Nat.add_le_add_left z2 _) (show ¬ (0 : Nat) = 2 by decide) ?_
  refine J_istore d_La_law_439 (by decide) ?_
  refine J_aload_n d_La_law_441 rfl rfl ?_
  refine J_sload_n d_La_law_442 rfl rfl ?_
  refine J_iload d_La_law_443 rfl ?_
  refine J_iconst (v := 1) d_La_law_445 (by decide) ?_
  refine J_iadd d_La_law_446 ?_
  refine J_sald d_La_law_447 hx1 ?_
  refine J_sload_n d_La_law_448 rfl rfl ?_
  refine J_iload d_La_law_449 rfl ?_
  refine J_iconst (v := 2) d_La_law_451 (by decide) ?_
  refine J_iadd d_La_law_452 ?_
  refine J_sald d_La_law_453 hx2 ?_
  refine J_callW (xGo_v2 d_La_law_454 xc_La_103 A2 rfl rfl) ⟨xq_Mo_bin.1, xq_Mo_bin.2.1⟩ (rl (by omega) (by omega) ⟨Nat.le_of_ble_eq_true rfl, Nat.le_of_ble_eq_true rfl, Nat.le_of_ble_eq_true rfl, Nat.le_of_ble_eq_true rfl⟩) (Nat.le_of_ble_eq_true rfl) A3 ?_
  refine J_istore d_La_law_457 (by decide) ?_
  refine J_aload_n d_La_law_459 rfl rfl ?_
  refine J_callP (xGo_v0 d_La_law_460 xc_La_84 A5 rfl rfl) ⟨xq_Mo_thrown.1, xq_Mo_thrown.2.1⟩ (rl (by omega) (by omega) ⟨Nat.le_of_ble_eq_true rfl, Nat.le_of_ble_eq_true rfl, Nat.le_of_ble_eq_true rfl, Nat.le_of_ble_eq_true rfl⟩) (Nat.le_of_ble_eq_true rfl) A4 ?_
  refine J_iload d_La_law_463 rfl ?_
  refine J_icmp_eq (tgt := 470) d_La_law_465 (by decide) (fun c465 => ?_) (fun c465 => ?_)
  · skip
    refine J_iload d_La_law_470 rfl ?_
    refine J_if_ne (tgt := 487) d_La_law_472 (by decide) (fun c472 => ?_) (fun c472 => ?_)
    · skip
      refine J_goto (tgt := 1362) d_La_law_487 (by decide) ?_
      exact J_back rfl rfl rfl rfl rfl (nx _ A7)
    · skip
      have c472 := Classical.not_not.mp c472
      refine J_aload_n d_La_law_475 rfl rfl ?_
      refine J_iconst (v := 0) d_La_law_476 (by decide) ?_
      refine J_lald d_La_law_477 (gt1 hG) A6 (vp_in_nI (n := 0) (by decide) (by decide)) ?_
      refine J_iload d_La_law_478 rfl ?_
      refine J_i2l d_La_law_480 ?_
      refine J_lcmp d_La_law_481 ?_
      refine J_lif_eq (tgt := 487) d_La_law_482 (by decide) (fun c482 => ?_) (fun c482 => ?_)
      · skip
        refine J_goto (tgt := 1362) d_La_law_487 (by decide) ?_
        exact J_back rfl rfl rfl rfl rfl (nx _ A7)
      · skip
        exact absurd (hq c472) c482
  · skip
    exact absurd rfl c465
set_option maxHeartbeats 4000000 in
set_option maxRecDepth 100000 in
theorem law_pour {j : Nat} {h : List va_E} {i : Int32} {a b : Nat} {r : xR} (hG : gTok G) (hj : j ≤ 1000) (hI : Inv j h) (ha : a ≤ 1000) (hb : b ≤ 9000) (hx1 : vp_in (i + 1) (gN G)) (hx2 : vp_in (i + 2) (gN G)) (hx3 : vp_in (i + 3) (gN G)) (hx4 : vp_in (i + 4) (gN G)) (hx5 : vp_in (i + 5) (gN G)) (hx6 : vp_in (i + 6) (gN G)) (nx : ∀ h2, Inv (j + 1) h2 → JW G Y_La_law (a + 1, b + 6) 1362 (LL i) [] (0, h2) r) : JW G Y_La_law (a, b) 490 (LL i) [] (0, h) r := by
  unfold LL
  refine J_aload_n d_La_law_490 rfl rfl ?_
  refine J_sload_n d_La_law_491 rfl rfl ?_
  refine J_iload d_La_law_492 rfl ?_
  refine J_iconst (v := 1) d_La_law_494 (by decide) ?_
  refine J_iadd d_La_law_495 ?_
  refine J_sald d_La_law_496 hx1 ?_
  refine J_sload_n d_La_law_497 rfl rfl ?_
  refine J_iload d_La_law_498 rfl ?_
  refine J_iconst (v := 2) d_La_law_500 (by decide) ?_
  refine J_iadd d_La_law_501 ?_
  refine J_sald d_La_law_502 hx2 ?_
  refine J_sload_n d_La_law_503 rfl rfl ?_
  refine J_iload d_La_law_504 rfl ?_
  refine J_iconst (v := 3) d_La_law_506 (by decide) ?_
  refine J_iadd d_La_law_507 ?_
  refine J_sald d_La_law_508 hx3 ?_
  refine J_aload_n d_La_law_509 rfl rfl ?_
  obtain ⟨code, h1, h2, kz, v, o, f1, f2, z1, z2, A1, A2, A3, A4, A5, A6, A7, A8⟩ := p_pour (b := gx G (i + 1).toNatClampNeg) (k := gx G (i + 2).toNatClampNeg) (w := gx G (i + 3).toNatClampNeg) hG hI
  obtain ⟨q, A8, hq⟩ : ∃ b : Int32, v = some (.int b) ∧ (code = 0 → o 0 = if b = 0 then 0 else 1) := A8
  subst A8
  refine J_callX (xGo_s5 d_La_law_510 xc_La_104) ⟨xq_La_pour.1, xq_La_pour.2.1⟩ (rl (by omega) (by omega) ⟨Nat.le_of_ble_eq_true rfl, Nat.le_of_ble_eq_true rfl, Nat.le_of_ble_eq_true rfl, Nat.le_of_ble_eq_true rfl⟩) (Nat.le_of_ble_eq_true rfl) A1 ?_
  refine J_widen (k2 := (a + 1, b + 6)) (Nat.add_le_add_left z1 _) (Nat.add_le_add_left z2 _) (show ¬ (0 : Nat) = 2 by decide) ?_
  refine J_istore d_La_law_513 (by decide) ?_
  refine J_aload_n d_La_law_515 rfl rfl ?_
  refine J_sload_n d_La_law_516 rfl rfl ?_
  refine J_iload d_La_law_517 rfl ?_
  refine J_iconst (v := 1) d_La_law_519 (by decide) ?_
  refine J_iadd d_La_law_520 ?_
  refine J_sald d_La_law_521 hx1 ?_
  refine J_sload_n d_La_law_522 rfl rfl ?_
  refine J_iload d_La_law_523 rfl ?_
  refine J_iconst (v := 2) d_La_law_525 (by decide) ?_
  refine J_iadd d_La_law_526 ?_
  refine J_sald d_La_law_527 hx2 ?_
  refine J_sload_n d_La_law_528 rfl rfl ?_
  refine J_iload d_La_law_529 rfl ?_
  refine J_iconst (v := 3) d_La_law_531 (by decide) ?_
  refine J_iadd d_La_law_532 ?_
  refine J_sald d_La_law_533 hx3 ?_
  refine J_callW (xGo_v3 d_La_law_534 xc_La_106 A2 rfl rfl) ⟨xq_Mo_pour.1, xq_Mo_pour.2.1⟩ (rl (by omega) (by omega) ⟨Nat.le_of_ble_eq_true rfl, Nat.le_of_ble_eq_true rfl, Nat.le_of_ble_eq_true rfl, Nat.le_of_ble_eq_true rfl⟩) (Nat.le_of_ble_eq_true rfl) A3 ?_
  refine J_istore d_La_law_537 (by decide) ?_
  refine J_aload_n d_La_law_539 rfl rfl ?_
  refine J_callP (xGo_v0 d_La_law_540 xc_La_84 A5 rfl rfl) ⟨xq_Mo_thrown.1, xq_Mo_thrown.2.1⟩ (rl (by omega) (by omega) ⟨Nat.le_of_ble_eq_true rfl, Nat.le_of_ble_eq_true rfl, Nat.le_of_ble_eq_true rfl, Nat.le_of_ble_eq_true rfl⟩) (Nat.le_of_ble_eq_true rfl) A4 ?_
  refine J_iload d_La_law_543 rfl ?_
  refine J_icmp_eq (tgt := 550) d_La_law_545 (by decide) (fun c545 => ?_) (fun c545 => ?_)
  · skip
    refine J_iload d_La_law_550 rfl ?_
    refine J_if_ne (tgt := 574) d_La_law_552 (by decide) (fun c552 => ?_) (fun c552 => ?_)
    · skip
      refine J_goto (tgt := 1362) d_La_law_574 (by decide) ?_
      exact J_back rfl rfl rfl rfl rfl (nx _ A7)
    · skip
      have c552 := Classical.not_not.mp c552
      refine J_aload_n d_La_law_555 rfl rfl ?_
      refine J_iconst (v := 0) d_La_law_556 (by decide) ?_
      refine J_lald d_La_law_557 (gt1 hG) A6 (vp_in_nI (n := 0) (by decide) (by decide)) ?_
      refine J_iload d_La_law_558 rfl ?_
      refine J_if_eq (tgt := 567) d_La_law_560 (by decide) (fun c560 => ?_) (fun c560 => ?_)
      · skip
        refine J_lconst (v := 0) d_La_law_567 (by decide) ?_
        refine J_lcmp d_La_law_568 ?_
        refine J_lif_eq (tgt := 574) d_La_law_569 (by decide) (fun c569 => ?_) (fun c569 => ?_)
        · skip
          refine J_goto (tgt := 1362) d_La_law_574 (by decide) ?_
          exact J_back rfl rfl rfl rfl rfl (nx _ A7)
        · skip
          exact absurd ((hq c552).trans (if_pos c560)) c569
      · skip
        refine J_lconst (v := 1) d_La_law_563 (by decide) ?_
        refine J_goto (tgt := 568) d_La_law_564 (by decide) ?_
        refine J_lcmp d_La_law_568 ?_
        refine J_lif_eq (tgt := 574) d_La_law_569 (by decide) (fun c569 => ?_) (fun c569 => ?_)
        · skip
          refine J_goto (tgt := 1362) d_La_law_574 (by decide) ?_
          exact J_back rfl rfl rfl rfl rfl (nx _ A7)
        · skip
          exact absurd ((hq c552).trans (if_neg c560)) c569
  · skip
    exact absurd rfl c545
set_option maxHeartbeats 4000000 in
set_option maxRecDepth 100000 in
theorem law_about {j : Nat} {h : List va_E} {i : Int32} {a b : Nat} {r : xR} (hG : gTok G) (hj : j ≤ 1000) (hI : Inv j h) (ha : a ≤ 1000) (hb : b ≤ 9000) (hx1 : vp_in (i + 1) (gN G)) (hx2 : vp_in (i + 2) (gN G)) (hx3 : vp_in (i + 3) (gN G)) (hx4 : vp_in (i + 4) (gN G)) (hx5 : vp_in (i + 5) (gN G)) (hx6 : vp_in (i + 6) (gN G)) (nx : ∀ h2, Inv (j + 1) h2 → JW G Y_La_law (a + 1, b + 6) 1362 (LL i) [] (0, h2) r) : JW G Y_La_law (a, b) 577 (LL i) [] (0, h) r := by
  unfold LL
  refine J_aload_n d_La_law_577 rfl rfl ?_
  refine J_sload_n d_La_law_578 rfl rfl ?_
  refine J_iload d_La_law_579 rfl ?_
  refine J_iconst (v := 1) d_La_law_581 (by decide) ?_
  refine J_iadd d_La_law_582 ?_
  refine J_sald d_La_law_583 hx1 ?_
  refine J_sload_n d_La_law_584 rfl rfl ?_
  refine J_iload d_La_law_585 rfl ?_
  refine J_iconst (v := 2) d_La_law_587 (by decide) ?_
  refine J_iadd d_La_law_588 ?_
  refine J_sald d_La_law_589 hx2 ?_
  refine J_aload_n d_La_law_590 rfl rfl ?_
  obtain ⟨code, h1, h2, kz, v, o, f1, f2, z1, z2, A1, A2, A3, A4, A5, A6, A7, A8⟩ := p_about (b := gx G (i + 1).toNatClampNeg) (q := gx G (i + 2).toNatClampNeg) hG hI
  obtain ⟨q, A8, hq⟩ : ∃ b : Int64, v = some (.long b) ∧ (code = 0 → o 0 = b) := A8
  subst A8
  refine J_callX (xGo_s4 d_La_law_591 xc_La_107) ⟨xq_La_about.1, xq_La_about.2.1⟩ (rl (by omega) (by omega) ⟨Nat.le_of_ble_eq_true rfl, Nat.le_of_ble_eq_true rfl, Nat.le_of_ble_eq_true rfl, Nat.le_of_ble_eq_true rfl⟩) (Nat.le_of_ble_eq_true rfl) A1 ?_
  refine J_widen (k2 := (a + 1, b + 6)) (Nat.add_le_add_left z1 _) (Nat.add_le_add_left z2 _) (show ¬ (0 : Nat) = 2 by decide) ?_
  refine J_istore d_La_law_594 (by decide) ?_
  refine J_aload_n d_La_law_596 rfl rfl ?_
  refine J_sload_n d_La_law_597 rfl rfl ?_
  refine J_iload d_La_law_598 rfl ?_
  refine J_iconst (v := 1) d_La_law_600 (by decide) ?_
  refine J_iadd d_La_law_601 ?_
  refine J_sald d_La_law_602 hx1 ?_
  refine J_sload_n d_La_law_603 rfl rfl ?_
  refine J_iload d_La_law_604 rfl ?_
  refine J_iconst (v := 2) d_La_law_606 (by decide) ?_
  refine J_iadd d_La_law_607 ?_
  refine J_sald d_La_law_608 hx2 ?_
  refine J_callW (xGo_v2 d_La_law_609 xc_La_109 A2 rfl rfl) ⟨xq_Mo_about.1, xq_Mo_about.2.1⟩ (rl (by omega) (by omega) ⟨Nat.le_of_ble_eq_true rfl, Nat.le_of_ble_eq_true rfl, Nat.le_of_ble_eq_true rfl, Nat.le_of_ble_eq_true rfl⟩) (Nat.le_of_ble_eq_true rfl) A3 ?_
  refine J_lstore d_La_law_612 (by decide) ?_
  refine J_aload_n d_La_law_614 rfl rfl ?_
  refine J_callP (xGo_v0 d_La_law_615 xc_La_84 A5 rfl rfl) ⟨xq_Mo_thrown.1, xq_Mo_thrown.2.1⟩ (rl (by omega) (by omega) ⟨Nat.le_of_ble_eq_true rfl, Nat.le_of_ble_eq_true rfl, Nat.le_of_ble_eq_true rfl, Nat.le_of_ble_eq_true rfl⟩) (Nat.le_of_ble_eq_true rfl) A4 ?_
  refine J_iload d_La_law_618 rfl ?_
  refine J_icmp_eq (tgt := 625) d_La_law_620 (by decide) (fun c620 => ?_) (fun c620 => ?_)
  · skip
    refine J_iload d_La_law_625 rfl ?_
    refine J_if_ne (tgt := 641) d_La_law_627 (by decide) (fun c627 => ?_) (fun c627 => ?_)
    · skip
      refine J_goto (tgt := 1362) d_La_law_641 (by decide) ?_
      exact J_back rfl rfl rfl rfl rfl (nx _ A7)
    · skip
      have c627 := Classical.not_not.mp c627
      refine J_aload_n d_La_law_630 rfl rfl ?_
      refine J_iconst (v := 0) d_La_law_631 (by decide) ?_
      refine J_lald d_La_law_632 (gt1 hG) A6 (vp_in_nI (n := 0) (by decide) (by decide)) ?_
      refine J_lload d_La_law_633 rfl ?_
      refine J_lcmp d_La_law_635 ?_
      refine J_lif_eq (tgt := 641) d_La_law_636 (by decide) (fun c636 => ?_) (fun c636 => ?_)
      · skip
        refine J_goto (tgt := 1362) d_La_law_641 (by decide) ?_
        exact J_back rfl rfl rfl rfl rfl (nx _ A7)
      · skip
        exact absurd (hq c627) c636
  · skip
    exact absurd rfl c620
set_option maxHeartbeats 4000000 in
set_option maxRecDepth 100000 in
theorem law_screen {j : Nat} {h : List va_E} {i : Int32} {a b : Nat} {r : xR} (hG : gTok G) (hj : j ≤ 1000) (hI : Inv j h) (ha : a ≤ 1000) (hb : b ≤ 9000) (hx1 : vp_in (i + 1) (gN G)) (hx2 : vp_in (i + 2) (gN G)) (hx3 : vp_in (i + 3) (gN G)) (hx4 : vp_in (i + 4) (gN G)) (hx5 : vp_in (i + 5) (gN G)) (hx6 : vp_in (i + 6) (gN G)) (nx : ∀ h2, Inv (j + 1) h2 → JW G Y_La_law (a + 1, b + 6) 1362 (LL i) [] (0, h2) r) : JW G Y_La_law (a, b) 644 (LL i) [] (0, h) r := by
  unfold LL
  refine J_aload_n d_La_law_644 rfl rfl ?_
  refine J_sload_n d_La_law_645 rfl rfl ?_
  refine J_iload d_La_law_646 rfl ?_
  refine J_iconst (v := 1) d_La_law_648 (by decide) ?_
  refine J_iadd d_La_law_649 ?_
  refine J_sald d_La_law_650 hx1 ?_
  refine J_sload_n d_La_law_651 rfl rfl ?_
  refine J_iload d_La_law_652 rfl ?_
  refine J_iconst (v := 2) d_La_law_654 (by decide) ?_
  refine J_iadd d_La_law_655 ?_
  refine J_sald d_La_law_656 hx2 ?_
  refine J_sload_n d_La_law_657 rfl rfl ?_
  refine J_iload d_La_law_658 rfl ?_
  refine J_iconst (v := 3) d_La_law_660 (by decide) ?_
  refine J_iadd d_La_law_661 ?_
  refine J_sald d_La_law_662 hx3 ?_
  refine J_sload_n d_La_law_663 rfl rfl ?_
  refine J_iload d_La_law_664 rfl ?_
  refine J_iconst (v := 4) d_La_law_666 (by decide) ?_
  refine J_iadd d_La_law_667 ?_
  refine J_sald d_La_law_668 hx4 ?_
  refine J_sload_n d_La_law_669 rfl rfl ?_
  refine J_iload d_La_law_670 rfl ?_
  refine J_iconst (v := 5) d_La_law_672 (by decide) ?_
  refine J_iadd d_La_law_673 ?_
  refine J_sald d_La_law_674 hx5 ?_
  refine J_sload_n d_La_law_675 rfl rfl ?_
  refine J_iload d_La_law_676 rfl ?_
  refine J_bipush (v := 6) d_La_law_678 (by decide) ?_
  refine J_iadd d_La_law_680 ?_
  refine J_sald d_La_law_681 (by assumption) ?_
  obtain ⟨code, h1, h2, kz, v, o, f1, f2, z1, z2, A1, A2, A3, A4, A5, A6, A7, A8⟩ := p_screen (s := gx G (i + 1).toNatClampNeg) (b0 := gx G (i + 2).toNatClampNeg) (b1 := gx G (i + 3).toNatClampNeg) (b2 := gx G (i + 4).toNatClampNeg) (a0 := gx G (i + 5).toNatClampNeg) (a1 := gx G (i + 6).toNatClampNeg) hG hI
  have A8 : v = none := A8
  subst A8
  refine J_callX (xGo_s7 d_La_law_682 xc_La_110) ⟨xq_La_screen.1, xq_La_screen.2.1⟩ (rl (by omega) (by omega) ⟨Nat.le_of_ble_eq_true rfl, Nat.le_of_ble_eq_true rfl, Nat.le_of_ble_eq_true rfl, Nat.le_of_ble_eq_true rfl⟩) (Nat.le_of_ble_eq_true rfl) A1 ?_
  refine J_widen (k2 := (a + 1, b + 6)) (Nat.add_le_add_left z1 _) (Nat.add_le_add_left z2 _) (show ¬ (0 : Nat) = 2 by decide) ?_
  refine J_istore d_La_law_685 (by decide) ?_
  refine J_aload_n d_La_law_687 rfl rfl ?_
  refine J_sload_n d_La_law_688 rfl rfl ?_
  refine J_iload d_La_law_689 rfl ?_
  refine J_iconst (v := 1) d_La_law_691 (by decide) ?_
  refine J_iadd d_La_law_692 ?_
  refine J_sald d_La_law_693 hx1 ?_
  refine J_sload_n d_La_law_694 rfl rfl ?_
  refine J_iload d_La_law_695 rfl ?_
  refine J_iconst (v := 2) d_La_law_697 (by decide) ?_
  refine J_iadd d_La_law_698 ?_
  refine J_sald d_La_law_699 hx2 ?_
  refine J_sload_n d_La_law_700 rfl rfl ?_
  refine J_iload d_La_law_701 rfl ?_
  refine J_iconst (v := 3) d_La_law_703 (by decide) ?_
  refine J_iadd d_La_law_704 ?_
  refine J_sald d_La_law_705 hx3 ?_
  refine J_sload_n d_La_law_706 rfl rfl ?_
  refine J_iload d_La_law_707 rfl ?_
  refine J_iconst (v := 4) d_La_law_709 (by decide) ?_
  refine J_iadd d_La_law_710 ?_
  refine J_sald d_La_law_711 hx4 ?_
  refine J_sload_n d_La_law_712 rfl rfl ?_
  refine J_iload d_La_law_713 rfl ?_
  refine J_iconst (v := 5) d_La_law_715 (by decide) ?_
  refine J_iadd d_La_law_716 ?_
  refine J_sald d_La_law_717 hx5 ?_
  refine J_sload_n d_La_law_718 rfl rfl ?_
  refine J_iload d_La_law_719 rfl ?_
  refine J_bipush (v := 6) d_La_law_721 (by decide) ?_
  refine J_iadd d_La_law_723 ?_
  refine J_sald d_La_law_724 (by assumption) ?_
  refine J_callW (xGo_v6 d_La_law_725 xc_La_113 A2 rfl rfl) ⟨xq_Mo_screen.1, xq_Mo_screen.2.1⟩ (rl (by omega) (by omega) ⟨Nat.le_of_ble_eq_true rfl, Nat.le_of_ble_eq_true rfl, Nat.le_of_ble_eq_true rfl, Nat.le_of_ble_eq_true rfl⟩) (Nat.le_of_ble_eq_true rfl) A3 ?_
  refine J_aload_n d_La_law_728 rfl rfl ?_
  refine J_callP (xGo_v0 d_La_law_729 xc_La_84 A5 rfl rfl) ⟨xq_Mo_thrown.1, xq_Mo_thrown.2.1⟩ (rl (by omega) (by omega) ⟨Nat.le_of_ble_eq_true rfl, Nat.le_of_ble_eq_true rfl, Nat.le_of_ble_eq_true rfl, Nat.le_of_ble_eq_true rfl⟩) (Nat.le_of_ble_eq_true rfl) A4 ?_
  refine J_iload d_La_law_732 rfl ?_
  refine J_icmp_eq (tgt := 739) d_La_law_734 (by decide) (fun c734 => ?_) (fun c734 => ?_)
  · skip
    refine J_goto (tgt := 1362) d_La_law_739 (by decide) ?_
    exact J_back rfl rfl rfl rfl rfl (nx _ A7)
  · skip
    exact absurd rfl c734
set_option maxHeartbeats 4000000 in
set_option maxRecDepth 100000 in
theorem law_send {j : Nat} {h : List va_E} {i : Int32} {a b : Nat} {r : xR} (hG : gTok G) (hj : j ≤ 1000) (hI : Inv j h) (ha : a ≤ 1000) (hb : b ≤ 9000) (hx1 : vp_in (i + 1) (gN G)) (hx2 : vp_in (i + 2) (gN G)) (hx3 : vp_in (i + 3) (gN G)) (hx4 : vp_in (i + 4) (gN G)) (hx5 : vp_in (i + 5) (gN G)) (hx6 : vp_in (i + 6) (gN G)) (nx : ∀ h2, Inv (j + 1) h2 → JW G Y_La_law (a + 1, b + 6) 1362 (LL i) [] (0, h2) r) : JW G Y_La_law (a, b) 742 (LL i) [] (0, h) r := by
  unfold LL
  refine J_aload_n d_La_law_742 rfl rfl ?_
  refine J_sload_n d_La_law_743 rfl rfl ?_
  refine J_iload d_La_law_744 rfl ?_
  refine J_iconst (v := 1) d_La_law_746 (by decide) ?_
  refine J_iadd d_La_law_747 ?_
  refine J_sald d_La_law_748 hx1 ?_
  refine J_sload_n d_La_law_749 rfl rfl ?_
  refine J_iload d_La_law_750 rfl ?_
  refine J_iconst (v := 2) d_La_law_752 (by decide) ?_
  refine J_iadd d_La_law_753 ?_
  refine J_sald d_La_law_754 hx2 ?_
  refine J_sload_n d_La_law_755 rfl rfl ?_
  refine J_iload d_La_law_756 rfl ?_
  refine J_iconst (v := 3) d_La_law_758 (by decide) ?_
  refine J_iadd d_La_law_759 ?_
  refine J_sald d_La_law_760 hx3 ?_
  refine J_aload_n d_La_law_761 rfl rfl ?_
  obtain ⟨code, h1, h2, kz, v, o, f1, f2, z1, z2, A1, A2, A3, A4, A5, A6, A7, A8⟩ := p_send (s := gx G (i + 1).toNatClampNeg) (k := gx G (i + 2).toNatClampNeg) (w := gx G (i + 3).toNatClampNeg) hG hI
  obtain ⟨q, A8, hq⟩ : ∃ b : Int32, v = some (.int b) ∧ (code = 0 → o 0 = if b = 0 then 0 else 1) := A8
  subst A8
  refine J_callX (xGo_s5 d_La_law_762 xc_La_114) ⟨xq_La_send.1, xq_La_send.2.1⟩ (rl (by omega) (by omega) ⟨Nat.le_of_ble_eq_true rfl, Nat.le_of_ble_eq_true rfl, Nat.le_of_ble_eq_true rfl, Nat.le_of_ble_eq_true rfl⟩) (Nat.le_of_ble_eq_true rfl) A1 ?_
  refine J_widen (k2 := (a + 1, b + 6)) (Nat.add_le_add_left z1 _) (Nat.add_le_add_left z2 _) (show ¬ (0 : Nat) = 2 by decide) ?_
  refine J_istore d_La_law_765 (by decide) ?_
  refine J_aload_n d_La_law_767 rfl rfl ?_
  refine J_sload_n d_La_law_768 rfl rfl ?_
  refine J_iload d_La_law_769 rfl ?_
  refine J_iconst (v := 1) d_La_law_771 (by decide) ?_
  refine J_iadd d_La_law_772 ?_
  refine J_sald d_La_law_773 hx1 ?_
  refine J_sload_n d_La_law_774 rfl rfl ?_
  refine J_iload d_La_law_775 rfl ?_
  refine J_iconst (v := 2) d_La_law_777 (by decide) ?_
  refine J_iadd d_La_law_778 ?_
  refine J_sald d_La_law_779 hx2 ?_
  refine J_sload_n d_La_law_780 rfl rfl ?_
  refine J_iload d_La_law_781 rfl ?_
  refine J_iconst (v := 3) d_La_law_783 (by decide) ?_
  refine J_iadd d_La_law_784 ?_
  refine J_sald d_La_law_785 hx3 ?_
  refine J_callW (xGo_v3 d_La_law_786 xc_La_116 A2 rfl rfl) ⟨xq_Mo_send.1, xq_Mo_send.2.1⟩ (rl (by omega) (by omega) ⟨Nat.le_of_ble_eq_true rfl, Nat.le_of_ble_eq_true rfl, Nat.le_of_ble_eq_true rfl, Nat.le_of_ble_eq_true rfl⟩) (Nat.le_of_ble_eq_true rfl) A3 ?_
  refine J_istore d_La_law_789 (by decide) ?_
  refine J_aload_n d_La_law_791 rfl rfl ?_
  refine J_callP (xGo_v0 d_La_law_792 xc_La_84 A5 rfl rfl) ⟨xq_Mo_thrown.1, xq_Mo_thrown.2.1⟩ (rl (by omega) (by omega) ⟨Nat.le_of_ble_eq_true rfl, Nat.le_of_ble_eq_true rfl, Nat.le_of_ble_eq_true rfl, Nat.le_of_ble_eq_true rfl⟩) (Nat.le_of_ble_eq_true rfl) A4 ?_
  refine J_iload d_La_law_795 rfl ?_
  refine J_icmp_eq (tgt := 802) d_La_law_797 (by decide) (fun c797 => ?_) (fun c797 => ?_)
  · skip
    refine J_iload d_La_law_802 rfl ?_
    refine J_if_ne (tgt := 826) d_La_law_804 (by decide) (fun c804 => ?_) (fun c804 => ?_)
    · skip
      refine J_goto (tgt := 1362) d_La_law_826 (by decide) ?_
      exact J_back rfl rfl rfl rfl rfl (nx _ A7)
    · skip
      have c804 := Classical.not_not.mp c804
      refine J_aload_n d_La_law_807 rfl rfl ?_
      refine J_iconst (v := 0) d_La_law_808 (by decide) ?_
      refine J_lald d_La_law_809 (gt1 hG) A6 (vp_in_nI (n := 0) (by decide) (by decide)) ?_
      refine J_iload d_La_law_810 rfl ?_
      refine J_if_eq (tgt := 819) d_La_law_812 (by decide) (fun c812 => ?_) (fun c812 => ?_)
      · skip
        refine J_lconst (v := 0) d_La_law_819 (by decide) ?_
        refine J_lcmp d_La_law_820 ?_
        refine J_lif_eq (tgt := 826) d_La_law_821 (by decide) (fun c821 => ?_) (fun c821 => ?_)
        · skip
          refine J_goto (tgt := 1362) d_La_law_826 (by decide) ?_
          exact J_back rfl rfl rfl rfl rfl (nx _ A7)
        · skip
          exact absurd ((hq c804).trans (if_pos c812)) c821
      · skip
        refine J_lconst (v := 1) d_La_law_815 (by decide) ?_
        refine J_goto (tgt := 820) d_La_law_816 (by decide) ?_
        refine J_lcmp d_La_law_820 ?_
        refine J_lif_eq (tgt := 826) d_La_law_821 (by decide) (fun c821 => ?_) (fun c821 => ?_)
        · skip
          refine J_goto (tgt := 1362) d_La_law_826 (by decide) ?_
          exact J_back rfl rfl rfl rfl rfl (nx _ A7)
        · skip
          exact absurd ((hq c804).trans (if_neg c812)) c821
  · skip
    exact absurd rfl c797
set_option maxHeartbeats 4000000 in
set_option maxRecDepth 100000 in
theorem law_scale {j : Nat} {h : List va_E} {i : Int32} {a b : Nat} {r : xR} (hG : gTok G) (hj : j ≤ 1000) (hI : Inv j h) (ha : a ≤ 1000) (hb : b ≤ 9000) (hx1 : vp_in (i + 1) (gN G)) (hx2 : vp_in (i + 2) (gN G)) (hx3 : vp_in (i + 3) (gN G)) (hx4 : vp_in (i + 4) (gN G)) (hx5 : vp_in (i + 5) (gN G)) (hx6 : vp_in (i + 6) (gN G)) (nx : ∀ h2, Inv (j + 1) h2 → JW G Y_La_law (a + 1, b + 6) 1362 (LL i) [] (0, h2) r) : JW G Y_La_law (a, b) 829 (LL i) [] (0, h) r := by
  unfold LL
  refine J_aload_n d_La_law_829 rfl rfl ?_
  refine J_sload_n d_La_law_830 rfl rfl ?_
  refine J_iload d_La_law_831 rfl ?_
  refine J_iconst (v := 1) d_La_law_833 (by decide) ?_
  refine J_iadd d_La_law_834 ?_
  refine J_sald d_La_law_835 hx1 ?_
  refine J_sload_n d_La_law_836 rfl rfl ?_
  refine J_iload d_La_law_837 rfl ?_
  refine J_iconst (v := 2) d_La_law_839 (by decide) ?_
  refine J_iadd d_La_law_840 ?_
  refine J_sald d_La_law_841 hx2 ?_
  refine J_i2l d_La_law_842 ?_
  refine J_bipush (v := 32) d_La_law_843 (by decide) ?_
  refine J_lshl d_La_law_845 rfl ?_
  refine J_sload_n d_La_law_846 rfl rfl ?_
  refine J_iload d_La_law_847 rfl ?_
  refine J_iconst (v := 3) d_La_law_849 (by decide) ?_
  refine J_iadd d_La_law_850 ?_
  refine J_sald d_La_law_851 hx3 ?_
  refine J_i2l d_La_law_852 ?_
  refine J_ldc2_w d_La_law_853 xj_La_117 ?_
  refine J_land d_La_law_856 ?_
  refine J_lor d_La_law_857 ?_
  obtain ⟨code, h1, h2, kz, v, o, f1, f2, z1, z2, A1, A2, A3, A4, A5, A6, A7, A8⟩ := p_scale (b := gx G (i + 1).toNatClampNeg) (g := (gx G (i + 2).toNatClampNeg).toInt64 <<< ((32 : Int32).toInt64 &&& 63) ||| (gx G (i + 3).toNatClampNeg).toInt64 &&& 4294967295) hG hI
  have A8 : v = none := A8
  subst A8
  refine J_callX (xGo_s3 d_La_law_858 xc_La_119) ⟨xq_La_scale.1, xq_La_scale.2.1⟩ (rl (by omega) (by omega) ⟨Nat.le_of_ble_eq_true rfl, Nat.le_of_ble_eq_true rfl, Nat.le_of_ble_eq_true rfl, Nat.le_of_ble_eq_true rfl⟩) (Nat.le_of_ble_eq_true rfl) A1 ?_
  refine J_widen (k2 := (a + 1, b + 6)) (Nat.add_le_add_left z1 _) (Nat.add_le_add_left z2 _) (show ¬ (0 : Nat) = 2 by decide) ?_
  refine J_istore d_La_law_861 (by decide) ?_
  refine J_aload_n d_La_law_863 rfl rfl ?_
  refine J_sload_n d_La_law_864 rfl rfl ?_
  refine J_iload d_La_law_865 rfl ?_
  refine J_iconst (v := 1) d_La_law_867 (by decide) ?_
  refine J_iadd d_La_law_868 ?_
  refine J_sald d_La_law_869 hx1 ?_
  refine J_sload_n d_La_law_870 rfl rfl ?_
  refine J_iload d_La_law_871 rfl ?_
  refine J_iconst (v := 2) d_La_law_873 (by decide) ?_
  refine J_iadd d_La_law_874 ?_
  refine J_sald d_La_law_875 hx2 ?_
  refine J_i2l d_La_law_876 ?_
  refine J_bipush (v := 32) d_La_law_877 (by decide) ?_
  refine J_lshl d_La_law_879 rfl ?_
  refine J_sload_n d_La_law_880 rfl rfl ?_
  refine J_iload d_La_law_881 rfl ?_
  refine J_iconst (v := 3) d_La_law_883 (by decide) ?_
  refine J_iadd d_La_law_884 ?_
  refine J_sald d_La_law_885 hx3 ?_
  refine J_i2l d_La_law_886 ?_
  refine J_ldc2_w d_La_law_887 xj_La_117 ?_
  refine J_land d_La_law_890 ?_
  refine J_lor d_La_law_891 ?_
  refine J_callW (xGo_v2 d_La_law_892 xc_La_122 A2 rfl rfl) ⟨xq_Mo_scale.1, xq_Mo_scale.2.1⟩ (rl (by omega) (by omega) ⟨Nat.le_of_ble_eq_true rfl, Nat.le_of_ble_eq_true rfl, Nat.le_of_ble_eq_true rfl, Nat.le_of_ble_eq_true rfl⟩) (Nat.le_of_ble_eq_true rfl) A3 ?_
  refine J_aload_n d_La_law_895 rfl rfl ?_
  refine J_callP (xGo_v0 d_La_law_896 xc_La_84 A5 rfl rfl) ⟨xq_Mo_thrown.1, xq_Mo_thrown.2.1⟩ (rl (by omega) (by omega) ⟨Nat.le_of_ble_eq_true rfl, Nat.le_of_ble_eq_true rfl, Nat.le_of_ble_eq_true rfl, Nat.le_of_ble_eq_true rfl⟩) (Nat.le_of_ble_eq_true rfl) A4 ?_
  refine J_iload d_La_law_899 rfl ?_
  refine J_icmp_eq (tgt := 906) d_La_law_901 (by decide) (fun c901 => ?_) (fun c901 => ?_)
  · skip
    refine J_goto (tgt := 1362) d_La_law_906 (by decide) ?_
    exact J_back rfl rfl rfl rfl rfl (nx _ A7)
  · skip
    exact absurd rfl c901
set_option maxHeartbeats 4000000 in
set_option maxRecDepth 100000 in
theorem law_shift {j : Nat} {h : List va_E} {i : Int32} {a b : Nat} {r : xR} (hG : gTok G) (hj : j ≤ 1000) (hI : Inv j h) (ha : a ≤ 1000) (hb : b ≤ 9000) (hx1 : vp_in (i + 1) (gN G)) (hx2 : vp_in (i + 2) (gN G)) (hx3 : vp_in (i + 3) (gN G)) (hx4 : vp_in (i + 4) (gN G)) (hx5 : vp_in (i + 5) (gN G)) (hx6 : vp_in (i + 6) (gN G)) (nx : ∀ h2, Inv (j + 1) h2 → JW G Y_La_law (a + 1, b + 6) 1362 (LL i) [] (0, h2) r) : JW G Y_La_law (a, b) 909 (LL i) [] (0, h) r := by
  unfold LL
  refine J_aload_n d_La_law_909 rfl rfl ?_
  refine J_sload_n d_La_law_910 rfl rfl ?_
  refine J_iload d_La_law_911 rfl ?_
  refine J_iconst (v := 1) d_La_law_913 (by decide) ?_
  refine J_iadd d_La_law_914 ?_
  refine J_sald d_La_law_915 hx1 ?_
  refine J_aload_n d_La_law_916 rfl rfl ?_
  obtain ⟨code, h1, h2, kz, v, o, f1, f2, z1, z2, A1, A2, A3, A4, A5, A6, A7, A8⟩ := p_shift (q := gx G (i + 1).toNatClampNeg) hG hI
  obtain ⟨q, A8, hq⟩ : ∃ b : Int64, v = some (.long b) ∧ (code = 0 → o 0 = b) := A8
  subst A8
  refine J_callX (xGo_s3 d_La_law_917 xc_La_123) ⟨xq_La_shift.1, xq_La_shift.2.1⟩ (rl (by omega) (by omega) ⟨Nat.le_of_ble_eq_true rfl, Nat.le_of_ble_eq_true rfl, Nat.le_of_ble_eq_true rfl, Nat.le_of_ble_eq_true rfl⟩) (Nat.le_of_ble_eq_true rfl) A1 ?_
  refine J_widen (k2 := (a + 1, b + 6)) (Nat.add_le_add_left z1 _) (Nat.add_le_add_left z2 _) (show ¬ (0 : Nat) = 2 by decide) ?_
  refine J_istore d_La_law_920 (by decide) ?_
  refine J_aload_n d_La_law_922 rfl rfl ?_
  refine J_sload_n d_La_law_923 rfl rfl ?_
  refine J_iload d_La_law_924 rfl ?_
  refine J_iconst (v := 1) d_La_law_926 (by decide) ?_
  refine J_iadd d_La_law_927 ?_
  refine J_sald d_La_law_928 hx1 ?_
  refine J_callW (xGo_v1 d_La_law_929 xc_La_126 A2 rfl rfl) ⟨xq_Mo_shift.1, xq_Mo_shift.2.1⟩ (rl (by omega) (by omega) ⟨Nat.le_of_ble_eq_true rfl, Nat.le_of_ble_eq_true rfl, Nat.le_of_ble_eq_true rfl, Nat.le_of_ble_eq_true rfl⟩) (Nat.le_of_ble_eq_true rfl) A3 ?_
  refine J_lstore d_La_law_932 (by decide) ?_
  refine J_aload_n d_La_law_934 rfl rfl ?_
  refine J_callP (xGo_v0 d_La_law_935 xc_La_84 A5 rfl rfl) ⟨xq_Mo_thrown.1, xq_Mo_thrown.2.1⟩ (rl (by omega) (by omega) ⟨Nat.le_of_ble_eq_true rfl, Nat.le_of_ble_eq_true rfl, Nat.le_of_ble_eq_true rfl, Nat.le_of_ble_eq_true rfl⟩) (Nat.le_of_ble_eq_true rfl) A4 ?_
  refine J_iload d_La_law_938 rfl ?_
  refine J_icmp_eq (tgt := 945) d_La_law_940 (by decide) (fun c940 => ?_) (fun c940 => ?_)
  · skip
    refine J_iload d_La_law_945 rfl ?_
    refine J_if_ne (tgt := 961) d_La_law_947 (by decide) (fun c947 => ?_) (fun c947 => ?_)
    · skip
      refine J_goto (tgt := 1362) d_La_law_961 (by decide) ?_
      exact J_back rfl rfl rfl rfl rfl (nx _ A7)
    · skip
      have c947 := Classical.not_not.mp c947
      refine J_aload_n d_La_law_950 rfl rfl ?_
      refine J_iconst (v := 0) d_La_law_951 (by decide) ?_
      refine J_lald d_La_law_952 (gt1 hG) A6 (vp_in_nI (n := 0) (by decide) (by decide)) ?_
      refine J_lload d_La_law_953 rfl ?_
      refine J_lcmp d_La_law_955 ?_
      refine J_lif_eq (tgt := 961) d_La_law_956 (by decide) (fun c956 => ?_) (fun c956 => ?_)
      · skip
        refine J_goto (tgt := 1362) d_La_law_961 (by decide) ?_
        exact J_back rfl rfl rfl rfl rfl (nx _ A7)
      · skip
        exact absurd (hq c947) c956
  · skip
    exact absurd rfl c940
set_option maxHeartbeats 4000000 in
set_option maxRecDepth 100000 in
theorem law_begin {j : Nat} {h : List va_E} {i : Int32} {a b : Nat} {r : xR} (hG : gTok G) (hj : j ≤ 1000) (hI : Inv j h) (ha : a ≤ 1000) (hb : b ≤ 9000) (hx1 : vp_in (i + 1) (gN G)) (hx2 : vp_in (i + 2) (gN G)) (hx3 : vp_in (i + 3) (gN G)) (hx4 : vp_in (i + 4) (gN G)) (hx5 : vp_in (i + 5) (gN G)) (hx6 : vp_in (i + 6) (gN G)) (nx : ∀ h2, Inv (j + 1) h2 → JW G Y_La_law (a + 1, b + 6) 1362 (LL i) [] (0, h2) r) : JW G Y_La_law (a, b) 964 (LL i) [] (0, h) r := by
  unfold LL
  obtain ⟨fs, gs, o, B1, B2, B3⟩ := Inv_1 hI
  obtain ⟨h1, h2, f1, A1, A2, A3, A7⟩ := p_begin hG (by omega) hI
  refine J_aload_n d_La_law_964 rfl rfl ?_
  refine J_callW (xGo_v0 d_La_law_965 xc_La_127 B1 rfl rfl) ⟨xq_RF_begin.1, xq_RF_begin.2.1⟩ (rl (by omega) (by omega) ⟨Nat.le_of_ble_eq_true rfl, Nat.le_of_ble_eq_true rfl, Nat.le_of_ble_eq_true rfl, Nat.le_of_ble_eq_true rfl⟩) (Nat.le_of_ble_eq_true rfl) A1 ?_
  refine J_aload_n d_La_law_968 rfl rfl ?_
  refine J_callW (xGo_v0 d_La_law_969 xc_La_130 A2 rfl rfl) ⟨xq_Mo_begin.1, xq_Mo_begin.2.1⟩ (rl (by omega) (by omega) ⟨Nat.le_of_ble_eq_true rfl, Nat.le_of_ble_eq_true rfl, Nat.le_of_ble_eq_true rfl, Nat.le_of_ble_eq_true rfl⟩) (Nat.le_of_ble_eq_true rfl) A3 ?_
  refine J_goto (tgt := 1362) d_La_law_972 (by decide) ?_
  refine J_widen (k2 := (a + 1, b + 6)) (Nat.le_add_right _ _) (Nat.le_add_right _ _) (show ¬ (0 : Nat) = 2 by decide) ?_
  exact J_back rfl rfl rfl rfl rfl (nx _ A7)
set_option maxHeartbeats 4000000 in
set_option maxRecDepth 100000 in
theorem law_row {j : Nat} {h : List va_E} {i : Int32} {a b : Nat} {r : xR} (hG : gTok G) (hj : j ≤ 1000) (hI : Inv j h) (ha : a ≤ 1000) (hb : b ≤ 9000) (hx1 : vp_in (i + 1) (gN G)) (hx2 : vp_in (i + 2) (gN G)) (hx3 : vp_in (i + 3) (gN G)) (hx4 : vp_in (i + 4) (gN G)) (hx5 : vp_in (i + 5) (gN G)) (hx6 : vp_in (i + 6) (gN G)) (nx : ∀ h2, Inv (j + 1) h2 → JW G Y_La_law (a + 1, b + 6) 1362 (LL i) [] (0, h2) r) : JW G Y_La_law (a, b) 975 (LL i) [] (0, h) r := by
  unfold LL
  refine J_aload_n d_La_law_975 rfl rfl ?_
  refine J_sload_n d_La_law_976 rfl rfl ?_
  refine J_iload d_La_law_977 rfl ?_
  refine J_iconst (v := 1) d_La_law_979 (by decide) ?_
  refine J_iadd d_La_law_980 ?_
  refine J_sald d_La_law_981 hx1 ?_
  refine J_sload_n d_La_law_982 rfl rfl ?_
  refine J_iload d_La_law_983 rfl ?_
  refine J_iconst (v := 2) d_La_law_985 (by decide) ?_
  refine J_iadd d_La_law_986 ?_
  refine J_sald d_La_law_987 hx2 ?_
  refine J_aload_n d_La_law_988 rfl rfl ?_
  obtain ⟨code, h1, h2, kz, v, o, f1, f2, z1, z2, A1, A2, A3, A4, A5, A6, A7, A8⟩ := p_row (d := gx G (i + 1).toNatClampNeg) (q := gx G (i + 2).toNatClampNeg) hG hI
  obtain ⟨q, A8, hq⟩ : ∃ b : Int32, v = some (.int b) ∧ (code = 0 → o 0 = b.toInt64) := A8
  subst A8
  refine J_callX (xGo_s4 d_La_law_989 xc_La_131) ⟨xq_La_row.1, xq_La_row.2.1⟩ (rl (by omega) (by omega) ⟨Nat.le_of_ble_eq_true rfl, Nat.le_of_ble_eq_true rfl, Nat.le_of_ble_eq_true rfl, Nat.le_of_ble_eq_true rfl⟩) (Nat.le_of_ble_eq_true rfl) A1 ?_
  refine J_widen (k2 := (a + 1, b + 6)) (Nat.add_le_add_left z1 _) (Nat.add_le_add_left z2 _) (show ¬ (0 : Nat) = 2 by decide) ?_
  refine J_istore d_La_law_992 (by decide) ?_
  refine J_aload_n d_La_law_994 rfl rfl ?_
  refine J_sload_n d_La_law_995 rfl rfl ?_
  refine J_iload d_La_law_996 rfl ?_
  refine J_iconst (v := 1) d_La_law_998 (by decide) ?_
  refine J_iadd d_La_law_999 ?_
  refine J_sald d_La_law_1000 hx1 ?_
  refine J_sload_n d_La_law_1001 rfl rfl ?_
  refine J_iload d_La_law_1002 rfl ?_
  refine J_iconst (v := 2) d_La_law_1004 (by decide) ?_
  refine J_iadd d_La_law_1005 ?_
  refine J_sald d_La_law_1006 hx2 ?_
  refine J_callW (xGo_v2 d_La_law_1007 xc_La_133 A2 rfl rfl) ⟨xq_Mo_row.1, xq_Mo_row.2.1⟩ (rl (by omega) (by omega) ⟨Nat.le_of_ble_eq_true rfl, Nat.le_of_ble_eq_true rfl, Nat.le_of_ble_eq_true rfl, Nat.le_of_ble_eq_true rfl⟩) (Nat.le_of_ble_eq_true rfl) A3 ?_
  refine J_istore d_La_law_1010 (by decide) ?_
  refine J_aload_n d_La_law_1012 rfl rfl ?_
  refine J_callP (xGo_v0 d_La_law_1013 xc_La_84 A5 rfl rfl) ⟨xq_Mo_thrown.1, xq_Mo_thrown.2.1⟩ (rl (by omega) (by omega) ⟨Nat.le_of_ble_eq_true rfl, Nat.le_of_ble_eq_true rfl, Nat.le_of_ble_eq_true rfl, Nat.le_of_ble_eq_true rfl⟩) (Nat.le_of_ble_eq_true rfl) A4 ?_
  refine J_iload d_La_law_1016 rfl ?_
  refine J_icmp_eq (tgt := 1023) d_La_law_1018 (by decide) (fun c1018 => ?_) (fun c1018 => ?_)
  · skip
    refine J_iload d_La_law_1023 rfl ?_
    refine J_if_ne (tgt := 1040) d_La_law_1025 (by decide) (fun c1025 => ?_) (fun c1025 => ?_)
    · skip
      refine J_goto (tgt := 1362) d_La_law_1040 (by decide) ?_
      exact J_back rfl rfl rfl rfl rfl (nx _ A7)
    · skip
      have c1025 := Classical.not_not.mp c1025
      refine J_aload_n d_La_law_1028 rfl rfl ?_
      refine J_iconst (v := 0) d_La_law_1029 (by decide) ?_
      refine J_lald d_La_law_1030 (gt1 hG) A6 (vp_in_nI (n := 0) (by decide) (by decide)) ?_
      refine J_iload d_La_law_1031 rfl ?_
      refine J_i2l d_La_law_1033 ?_
      refine J_lcmp d_La_law_1034 ?_
      refine J_lif_eq (tgt := 1040) d_La_law_1035 (by decide) (fun c1035 => ?_) (fun c1035 => ?_)
      · skip
        refine J_goto (tgt := 1362) d_La_law_1040 (by decide) ?_
        exact J_back rfl rfl rfl rfl rfl (nx _ A7)
      · skip
        exact absurd (hq c1025) c1035
  · skip
    exact absurd rfl c1018
set_option maxHeartbeats 4000000 in
set_option maxRecDepth 100000 in
theorem law_burn {j : Nat} {h : List va_E} {i : Int32} {a b : Nat} {r : xR} (hG : gTok G) (hj : j ≤ 1000) (hI : Inv j h) (ha : a ≤ 1000) (hb : b ≤ 9000) (hx1 : vp_in (i + 1) (gN G)) (hx2 : vp_in (i + 2) (gN G)) (hx3 : vp_in (i + 3) (gN G)) (hx4 : vp_in (i + 4) (gN G)) (hx5 : vp_in (i + 5) (gN G)) (hx6 : vp_in (i + 6) (gN G)) (nx : ∀ h2, Inv (j + 1) h2 → JW G Y_La_law (a + 1, b + 6) 1362 (LL i) [] (0, h2) r) : JW G Y_La_law (a, b) 1043 (LL i) [] (0, h) r := by
  unfold LL
  refine J_aload_n d_La_law_1043 rfl rfl ?_
  refine J_sload_n d_La_law_1044 rfl rfl ?_
  refine J_iload d_La_law_1045 rfl ?_
  refine J_iconst (v := 1) d_La_law_1047 (by decide) ?_
  refine J_iadd d_La_law_1048 ?_
  refine J_sald d_La_law_1049 hx1 ?_
  refine J_sload_n d_La_law_1050 rfl rfl ?_
  refine J_iload d_La_law_1051 rfl ?_
  refine J_iconst (v := 2) d_La_law_1053 (by decide) ?_
  refine J_iadd d_La_law_1054 ?_
  refine J_sald d_La_law_1055 hx2 ?_
  refine J_sload_n d_La_law_1056 rfl rfl ?_
  refine J_iload d_La_law_1057 rfl ?_
  refine J_iconst (v := 3) d_La_law_1059 (by decide) ?_
  refine J_iadd d_La_law_1060 ?_
  refine J_sald d_La_law_1061 hx3 ?_
  refine J_aload_n d_La_law_1062 rfl rfl ?_
  obtain ⟨code, h1, h2, kz, v, o, f1, f2, z1, z2, A1, A2, A3, A4, A5, A6, A7, A8⟩ := p_burn (b := gx G (i + 1).toNatClampNeg) (k := gx G (i + 2).toNatClampNeg) (d := gx G (i + 3).toNatClampNeg) hG hI
  obtain ⟨q, A8, hq⟩ : ∃ b : Int64, v = some (.long b) ∧ (code = 0 → o 0 = b) := A8
  subst A8
  refine J_callX (xGo_s5 d_La_law_1063 xc_La_134) ⟨xq_La_burn.1, xq_La_burn.2.1⟩ (rl (by omega) (by omega) ⟨Nat.le_of_ble_eq_true rfl, Nat.le_of_ble_eq_true rfl, Nat.le_of_ble_eq_true rfl, Nat.le_of_ble_eq_true rfl⟩) (Nat.le_of_ble_eq_true rfl) A1 ?_
  refine J_widen (k2 := (a + 1, b + 6)) (Nat.add_le_add_left z1 _) (Nat.add_le_add_left z2 _) (show ¬ (0 : Nat) = 2 by decide) ?_
  refine J_istore d_La_law_1066 (by decide) ?_
  refine J_aload_n d_La_law_1068 rfl rfl ?_
  refine J_sload_n d_La_law_1069 rfl rfl ?_
  refine J_iload d_La_law_1070 rfl ?_
  refine J_iconst (v := 1) d_La_law_1072 (by decide) ?_
  refine J_iadd d_La_law_1073 ?_
  refine J_sald d_La_law_1074 hx1 ?_
  refine J_sload_n d_La_law_1075 rfl rfl ?_
  refine J_iload d_La_law_1076 rfl ?_
  refine J_iconst (v := 2) d_La_law_1078 (by decide) ?_
  refine J_iadd d_La_law_1079 ?_
  refine J_sald d_La_law_1080 hx2 ?_
  refine J_sload_n d_La_law_1081 rfl rfl ?_
  refine J_iload d_La_law_1082 rfl ?_
  refine J_iconst (v := 3) d_La_law_1084 (by decide) ?_
  refine J_iadd d_La_law_1085 ?_
  refine J_sald d_La_law_1086 hx3 ?_
  refine J_callW (xGo_v3 d_La_law_1087 xc_La_136 A2 rfl rfl) ⟨xq_Mo_burn.1, xq_Mo_burn.2.1⟩ (rl (by omega) (by omega) ⟨Nat.le_of_ble_eq_true rfl, Nat.le_of_ble_eq_true rfl, Nat.le_of_ble_eq_true rfl, Nat.le_of_ble_eq_true rfl⟩) (Nat.le_of_ble_eq_true rfl) A3 ?_
  refine J_lstore d_La_law_1090 (by decide) ?_
  refine J_aload_n d_La_law_1092 rfl rfl ?_
  refine J_callP (xGo_v0 d_La_law_1093 xc_La_84 A5 rfl rfl) ⟨xq_Mo_thrown.1, xq_Mo_thrown.2.1⟩ (rl (by omega) (by omega) ⟨Nat.le_of_ble_eq_true rfl, Nat.le_of_ble_eq_true rfl, Nat.le_of_ble_eq_true rfl, Nat.le_of_ble_eq_true rfl⟩) (Nat.le_of_ble_eq_true rfl) A4 ?_
  refine J_iload d_La_law_1096 rfl ?_
  refine J_icmp_eq (tgt := 1103) d_La_law_1098 (by decide) (fun c1098 => ?_) (fun c1098 => ?_)
  · skip
    refine J_iload d_La_law_1103 rfl ?_
    refine J_if_ne (tgt := 1119) d_La_law_1105 (by decide) (fun c1105 => ?_) (fun c1105 => ?_)
    · skip
      refine J_goto (tgt := 1362) d_La_law_1119 (by decide) ?_
      exact J_back rfl rfl rfl rfl rfl (nx _ A7)
    · skip
      have c1105 := Classical.not_not.mp c1105
      refine J_aload_n d_La_law_1108 rfl rfl ?_
      refine J_iconst (v := 0) d_La_law_1109 (by decide) ?_
      refine J_lald d_La_law_1110 (gt1 hG) A6 (vp_in_nI (n := 0) (by decide) (by decide)) ?_
      refine J_lload d_La_law_1111 rfl ?_
      refine J_lcmp d_La_law_1113 ?_
      refine J_lif_eq (tgt := 1119) d_La_law_1114 (by decide) (fun c1114 => ?_) (fun c1114 => ?_)
      · skip
        refine J_goto (tgt := 1362) d_La_law_1119 (by decide) ?_
        exact J_back rfl rfl rfl rfl rfl (nx _ A7)
      · skip
        exact absurd (hq c1105) c1114
  · skip
    exact absurd rfl c1098
set_option maxHeartbeats 4000000 in
set_option maxRecDepth 100000 in
theorem law_sell {j : Nat} {h : List va_E} {i : Int32} {a b : Nat} {r : xR} (hG : gTok G) (hj : j ≤ 1000) (hI : Inv j h) (ha : a ≤ 1000) (hb : b ≤ 9000) (hx1 : vp_in (i + 1) (gN G)) (hx2 : vp_in (i + 2) (gN G)) (hx3 : vp_in (i + 3) (gN G)) (hx4 : vp_in (i + 4) (gN G)) (hx5 : vp_in (i + 5) (gN G)) (hx6 : vp_in (i + 6) (gN G)) (nx : ∀ h2, Inv (j + 1) h2 → JW G Y_La_law (a + 1, b + 6) 1362 (LL i) [] (0, h2) r) : JW G Y_La_law (a, b) 1122 (LL i) [] (0, h) r := by
  unfold LL
  refine J_aload_n d_La_law_1122 rfl rfl ?_
  refine J_sload_n d_La_law_1123 rfl rfl ?_
  refine J_iload d_La_law_1124 rfl ?_
  refine J_iconst (v := 1) d_La_law_1126 (by decide) ?_
  refine J_iadd d_La_law_1127 ?_
  refine J_sald d_La_law_1128 hx1 ?_
  refine J_sload_n d_La_law_1129 rfl rfl ?_
  refine J_iload d_La_law_1130 rfl ?_
  refine J_iconst (v := 2) d_La_law_1132 (by decide) ?_
  refine J_iadd d_La_law_1133 ?_
  refine J_sald d_La_law_1134 hx2 ?_
  refine J_sload_n d_La_law_1135 rfl rfl ?_
  refine J_iload d_La_law_1136 rfl ?_
  refine J_iconst (v := 3) d_La_law_1138 (by decide) ?_
  refine J_iadd d_La_law_1139 ?_
  refine J_sald d_La_law_1140 hx3 ?_
  refine J_aload_n d_La_law_1141 rfl rfl ?_
  obtain ⟨code, h1, h2, kz, v, o, f1, f2, z1, z2, A1, A2, A3, A4, A5, A6, A7, A8⟩ := p_sell (b := gx G (i + 1).toNatClampNeg) (k := gx G (i + 2).toNatClampNeg) (c := gx G (i + 3).toNatClampNeg) hG hI
  obtain ⟨q, A8, hq⟩ : ∃ b : Int64, v = some (.long b) ∧ (code = 0 → o 0 = b) := A8
  subst A8
  refine J_callX (xGo_s5 d_La_law_1142 xc_La_137) ⟨xq_La_sell.1, xq_La_sell.2.1⟩ (rl (by omega) (by omega) ⟨Nat.le_of_ble_eq_true rfl, Nat.le_of_ble_eq_true rfl, Nat.le_of_ble_eq_true rfl, Nat.le_of_ble_eq_true rfl⟩) (Nat.le_of_ble_eq_true rfl) A1 ?_
  refine J_widen (k2 := (a + 1, b + 6)) (Nat.add_le_add_left z1 _) (Nat.add_le_add_left z2 _) (show ¬ (0 : Nat) = 2 by decide) ?_
  refine J_istore d_La_law_1145 (by decide) ?_
  refine J_aload_n d_La_law_1147 rfl rfl ?_
  refine J_sload_n d_La_law_1148 rfl rfl ?_
  refine J_iload d_La_law_1149 rfl ?_
  refine J_iconst (v := 1) d_La_law_1151 (by decide) ?_
  refine J_iadd d_La_law_1152 ?_
  refine J_sald d_La_law_1153 hx1 ?_
  refine J_sload_n d_La_law_1154 rfl rfl ?_
  refine J_iload d_La_law_1155 rfl ?_
  refine J_iconst (v := 2) d_La_law_1157 (by decide) ?_
  refine J_iadd d_La_law_1158 ?_
  refine J_sald d_La_law_1159 hx2 ?_
  refine J_sload_n d_La_law_1160 rfl rfl ?_
  refine J_iload d_La_law_1161 rfl ?_
  refine J_iconst (v := 3) d_La_law_1163 (by decide) ?_
  refine J_iadd d_La_law_1164 ?_
  refine J_sald d_La_law_1165 hx3 ?_
  refine J_callW (xGo_v3 d_La_law_1166 xc_La_139 A2 rfl rfl) ⟨xq_Mo_sell.1, xq_Mo_sell.2.1⟩ (rl (by omega) (by omega) ⟨Nat.le_of_ble_eq_true rfl, Nat.le_of_ble_eq_true rfl, Nat.le_of_ble_eq_true rfl, Nat.le_of_ble_eq_true rfl⟩) (Nat.le_of_ble_eq_true rfl) A3 ?_
  refine J_lstore d_La_law_1169 (by decide) ?_
  refine J_aload_n d_La_law_1171 rfl rfl ?_
  refine J_callP (xGo_v0 d_La_law_1172 xc_La_84 A5 rfl rfl) ⟨xq_Mo_thrown.1, xq_Mo_thrown.2.1⟩ (rl (by omega) (by omega) ⟨Nat.le_of_ble_eq_true rfl, Nat.le_of_ble_eq_true rfl, Nat.le_of_ble_eq_true rfl, Nat.le_of_ble_eq_true rfl⟩) (Nat.le_of_ble_eq_true rfl) A4 ?_
  refine J_iload d_La_law_1175 rfl ?_
  refine J_icmp_eq (tgt := 1182) d_La_law_1177 (by decide) (fun c1177 => ?_) (fun c1177 => ?_)
  · skip
    refine J_iload d_La_law_1182 rfl ?_
    refine J_if_ne (tgt := 1198) d_La_law_1184 (by decide) (fun c1184 => ?_) (fun c1184 => ?_)
    · skip
      refine J_goto (tgt := 1362) d_La_law_1198 (by decide) ?_
      exact J_back rfl rfl rfl rfl rfl (nx _ A7)
    · skip
      have c1184 := Classical.not_not.mp c1184
      refine J_aload_n d_La_law_1187 rfl rfl ?_
      refine J_iconst (v := 0) d_La_law_1188 (by decide) ?_
      refine J_lald d_La_law_1189 (gt1 hG) A6 (vp_in_nI (n := 0) (by decide) (by decide)) ?_
      refine J_lload d_La_law_1190 rfl ?_
      refine J_lcmp d_La_law_1192 ?_
      refine J_lif_eq (tgt := 1198) d_La_law_1193 (by decide) (fun c1193 => ?_) (fun c1193 => ?_)
      · skip
        refine J_goto (tgt := 1362) d_La_law_1198 (by decide) ?_
        exact J_back rfl rfl rfl rfl rfl (nx _ A7)
      · skip
        exact absurd (hq c1184) c1193
  · skip
    exact absurd rfl c1177
set_option maxHeartbeats 4000000 in
set_option maxRecDepth 100000 in
theorem law_span {j : Nat} {h : List va_E} {i : Int32} {a b : Nat} {r : xR} (hG : gTok G) (hj : j ≤ 1000) (hI : Inv j h) (ha : a ≤ 1000) (hb : b ≤ 9000) (hx1 : vp_in (i + 1) (gN G)) (hx2 : vp_in (i + 2) (gN G)) (hx3 : vp_in (i + 3) (gN G)) (hx4 : vp_in (i + 4) (gN G)) (hx5 : vp_in (i + 5) (gN G)) (hx6 : vp_in (i + 6) (gN G)) (nx : ∀ h2, Inv (j + 1) h2 → JW G Y_La_law (a + 1, b + 6) 1362 (LL i) [] (0, h2) r) : JW G Y_La_law (a, b) 1201 (LL i) [] (0, h) r := by
  unfold LL
  refine J_aload_n d_La_law_1201 rfl rfl ?_
  refine J_sload_n d_La_law_1202 rfl rfl ?_
  refine J_iload d_La_law_1203 rfl ?_
  refine J_iconst (v := 1) d_La_law_1205 (by decide) ?_
  refine J_iadd d_La_law_1206 ?_
  refine J_sald d_La_law_1207 hx1 ?_
  refine J_sload_n d_La_law_1208 rfl rfl ?_
  refine J_iload d_La_law_1209 rfl ?_
  refine J_iconst (v := 2) d_La_law_1211 (by decide) ?_
  refine J_iadd d_La_law_1212 ?_
  refine J_sald d_La_law_1213 hx2 ?_
  refine J_sload_n d_La_law_1214 rfl rfl ?_
  refine J_iload d_La_law_1215 rfl ?_
  refine J_iconst (v := 3) d_La_law_1217 (by decide) ?_
  refine J_iadd d_La_law_1218 ?_
  refine J_sald d_La_law_1219 hx3 ?_
  obtain ⟨code, h1, h2, kz, v, o, f1, f2, z1, z2, A1, A2, A3, A4, A5, A6, A7, A8⟩ := p_span (b := gx G (i + 1).toNatClampNeg) (l := gx G (i + 2).toNatClampNeg) (u := gx G (i + 3).toNatClampNeg) hG hI
  have A8 : v = none := A8
  subst A8
  refine J_callX (xGo_s4 d_La_law_1220 xc_La_140) ⟨xq_La_span.1, xq_La_span.2.1⟩ (rl (by omega) (by omega) ⟨Nat.le_of_ble_eq_true rfl, Nat.le_of_ble_eq_true rfl, Nat.le_of_ble_eq_true rfl, Nat.le_of_ble_eq_true rfl⟩) (Nat.le_of_ble_eq_true rfl) A1 ?_
  refine J_widen (k2 := (a + 1, b + 6)) (Nat.add_le_add_left z1 _) (Nat.add_le_add_left z2 _) (show ¬ (0 : Nat) = 2 by decide) ?_
  refine J_istore d_La_law_1223 (by decide) ?_
  refine J_aload_n d_La_law_1225 rfl rfl ?_
  refine J_sload_n d_La_law_1226 rfl rfl ?_
  refine J_iload d_La_law_1227 rfl ?_
  refine J_iconst (v := 1) d_La_law_1229 (by decide) ?_
  refine J_iadd d_La_law_1230 ?_
  refine J_sald d_La_law_1231 hx1 ?_
  refine J_sload_n d_La_law_1232 rfl rfl ?_
  refine J_iload d_La_law_1233 rfl ?_
  refine J_iconst (v := 2) d_La_law_1235 (by decide) ?_
  refine J_iadd d_La_law_1236 ?_
  refine J_sald d_La_law_1237 hx2 ?_
  refine J_sload_n d_La_law_1238 rfl rfl ?_
  refine J_iload d_La_law_1239 rfl ?_
  refine J_iconst (v := 3) d_La_law_1241 (by decide) ?_
  refine J_iadd d_La_law_1242 ?_
  refine J_sald d_La_law_1243 hx3 ?_
  refine J_callW (xGo_v3 d_La_law_1244 xc_La_142 A2 rfl rfl) ⟨xq_Mo_span.1, xq_Mo_span.2.1⟩ (rl (by omega) (by omega) ⟨Nat.le_of_ble_eq_true rfl, Nat.le_of_ble_eq_true rfl, Nat.le_of_ble_eq_true rfl, Nat.le_of_ble_eq_true rfl⟩) (Nat.le_of_ble_eq_true rfl) A3 ?_
  refine J_aload_n d_La_law_1247 rfl rfl ?_
  refine J_callP (xGo_v0 d_La_law_1248 xc_La_84 A5 rfl rfl) ⟨xq_Mo_thrown.1, xq_Mo_thrown.2.1⟩ (rl (by omega) (by omega) ⟨Nat.le_of_ble_eq_true rfl, Nat.le_of_ble_eq_true rfl, Nat.le_of_ble_eq_true rfl, Nat.le_of_ble_eq_true rfl⟩) (Nat.le_of_ble_eq_true rfl) A4 ?_
  refine J_iload d_La_law_1251 rfl ?_
  refine J_icmp_eq (tgt := 1258) d_La_law_1253 (by decide) (fun c1253 => ?_) (fun c1253 => ?_)
  · skip
    refine J_goto (tgt := 1362) d_La_law_1258 (by decide) ?_
    exact J_back rfl rfl rfl rfl rfl (nx _ A7)
  · skip
    exact absurd rfl c1253
set_option maxHeartbeats 4000000 in
set_option maxRecDepth 100000 in
theorem law_mix {j : Nat} {h : List va_E} {i : Int32} {a b : Nat} {r : xR} (hG : gTok G) (hj : j ≤ 1000) (hI : Inv j h) (ha : a ≤ 1000) (hb : b ≤ 9000) (hx1 : vp_in (i + 1) (gN G)) (hx2 : vp_in (i + 2) (gN G)) (hx3 : vp_in (i + 3) (gN G)) (hx4 : vp_in (i + 4) (gN G)) (hx5 : vp_in (i + 5) (gN G)) (hx6 : vp_in (i + 6) (gN G)) (nx : ∀ h2, Inv (j + 1) h2 → JW G Y_La_law (a + 1, b + 6) 1362 (LL i) [] (0, h2) r) : JW G Y_La_law (a, b) 1261 (LL i) [] (0, h) r := by
  unfold LL
  refine J_aload_n d_La_law_1261 rfl rfl ?_
  refine J_sload_n d_La_law_1262 rfl rfl ?_
  refine J_iload d_La_law_1263 rfl ?_
  refine J_iconst (v := 1) d_La_law_1265 (by decide) ?_
  refine J_iadd d_La_law_1266 ?_
  refine J_sald d_La_law_1267 hx1 ?_
  refine J_sload_n d_La_law_1268 rfl rfl ?_
  refine J_iload d_La_law_1269 rfl ?_
  refine J_iconst (v := 2) d_La_law_1271 (by decide) ?_
  refine J_iadd d_La_law_1272 ?_
  refine J_sald d_La_law_1273 hx2 ?_
  refine J_sload_n d_La_law_1274 rfl rfl ?_
  refine J_iload d_La_law_1275 rfl ?_
  refine J_iconst (v := 3) d_La_law_1277 (by decide) ?_
  refine J_iadd d_La_law_1278 ?_
  refine J_sald d_La_law_1279 hx3 ?_
  refine J_aload_n d_La_law_1280 rfl rfl ?_
  obtain ⟨code, h1, h2, kz, v, o, f1, f2, z1, z2, A1, A2, A3, A4, A5, A6, A7, A8⟩ := p_mix (b := gx G (i + 1).toNatClampNeg) (t := gx G (i + 2).toNatClampNeg) (k := gx G (i + 3).toNatClampNeg) hG hI
  obtain ⟨q, A8, hq⟩ : ∃ b : Int32, v = some (.int b) ∧ (code = 0 → o 0 = if b = 0 then 0 else 1) := A8
  subst A8
  refine J_callX (xGo_s5 d_La_law_1281 xc_La_143) ⟨xq_La_mix.1, xq_La_mix.2.1⟩ (rl (by omega) (by omega) ⟨Nat.le_of_ble_eq_true rfl, Nat.le_of_ble_eq_true rfl, Nat.le_of_ble_eq_true rfl, Nat.le_of_ble_eq_true rfl⟩) (Nat.le_of_ble_eq_true rfl) A1 ?_
  refine J_widen (k2 := (a + 1, b + 6)) (Nat.add_le_add_left z1 _) (Nat.add_le_add_left z2 _) (show ¬ (0 : Nat) = 2 by decide) ?_
  refine J_istore d_La_law_1284 (by decide) ?_
  refine J_aload_n d_La_law_1286 rfl rfl ?_
  refine J_sload_n d_La_law_1287 rfl rfl ?_
  refine J_iload d_La_law_1288 rfl ?_
  refine J_iconst (v := 1) d_La_law_1290 (by decide) ?_
  refine J_iadd d_La_law_1291 ?_
  refine J_sald d_La_law_1292 hx1 ?_
  refine J_sload_n d_La_law_1293 rfl rfl ?_
  refine J_iload d_La_law_1294 rfl ?_
  refine J_iconst (v := 2) d_La_law_1296 (by decide) ?_
  refine J_iadd d_La_law_1297 ?_
  refine J_sald d_La_law_1298 hx2 ?_
  refine J_sload_n d_La_law_1299 rfl rfl ?_
  refine J_iload d_La_law_1300 rfl ?_
  refine J_iconst (v := 3) d_La_law_1302 (by decide) ?_
  refine J_iadd d_La_law_1303 ?_
  refine J_sald d_La_law_1304 hx3 ?_
  refine J_callW (xGo_v3 d_La_law_1305 xc_La_145 A2 rfl rfl) ⟨xq_Mo_mix.1, xq_Mo_mix.2.1⟩ (rl (by omega) (by omega) ⟨Nat.le_of_ble_eq_true rfl, Nat.le_of_ble_eq_true rfl, Nat.le_of_ble_eq_true rfl, Nat.le_of_ble_eq_true rfl⟩) (Nat.le_of_ble_eq_true rfl) A3 ?_
  refine J_istore d_La_law_1308 (by decide) ?_
  refine J_aload_n d_La_law_1310 rfl rfl ?_
  refine J_callP (xGo_v0 d_La_law_1311 xc_La_84 A5 rfl rfl) ⟨xq_Mo_thrown.1, xq_Mo_thrown.2.1⟩ (rl (by omega) (by omega) ⟨Nat.le_of_ble_eq_true rfl, Nat.le_of_ble_eq_true rfl, Nat.le_of_ble_eq_true rfl, Nat.le_of_ble_eq_true rfl⟩) (Nat.le_of_ble_eq_true rfl) A4 ?_
  refine J_iload d_La_law_1314 rfl ?_
  refine J_icmp_eq (tgt := 1321) d_La_law_1316 (by decide) (fun c1316 => ?_) (fun c1316 => ?_)
  · skip
    refine J_iload d_La_law_1321 rfl ?_
    refine J_if_ne (tgt := 1345) d_La_law_1323 (by decide) (fun c1323 => ?_) (fun c1323 => ?_)
    · skip
      refine J_goto (tgt := 1362) d_La_law_1345 (by decide) ?_
      exact J_back rfl rfl rfl rfl rfl (nx _ A7)
    · skip
      have c1323 := Classical.not_not.mp c1323
      refine J_aload_n d_La_law_1326 rfl rfl ?_
      refine J_iconst (v := 0) d_La_law_1327 (by decide) ?_
      refine J_lald d_La_law_1328 (gt1 hG) A6 (vp_in_nI (n := 0) (by decide) (by decide)) ?_
      refine J_iload d_La_law_1329 rfl ?_
      refine J_if_eq (tgt := 1338) d_La_law_1331 (by decide) (fun c1331 => ?_) (fun c1331 => ?_)
      · skip
        refine J_lconst (v := 0) d_La_law_1338 (by decide) ?_
        refine J_lcmp d_La_law_1339 ?_
        refine J_lif_eq (tgt := 1345) d_La_law_1340 (by decide) (fun c1340 => ?_) (fun c1340 => ?_)
        · skip
          refine J_goto (tgt := 1362) d_La_law_1345 (by decide) ?_
          exact J_back rfl rfl rfl rfl rfl (nx _ A7)
        · skip
          exact absurd ((hq c1323).trans (if_pos c1331)) c1340
      · skip
        refine J_lconst (v := 1) d_La_law_1334 (by decide) ?_
        refine J_goto (tgt := 1339) d_La_law_1335 (by decide) ?_
        refine J_lcmp d_La_law_1339 ?_
        refine J_lif_eq (tgt := 1345) d_La_law_1340 (by decide) (fun c1340 => ?_) (fun c1340 => ?_)
        · skip
          refine J_goto (tgt := 1362) d_La_law_1345 (by decide) ?_
          exact J_back rfl rfl rfl rfl rfl (nx _ A7)
        · skip
          exact absurd ((hq c1323).trans (if_neg c1331)) c1340
  · skip
    exact absurd rfl c1316
set_option maxHeartbeats 4000000 in
set_option maxRecDepth 100000 in
theorem law_carbon {j : Nat} {h : List va_E} {i : Int32} {a b : Nat} {r : xR} (hG : gTok G) (hj : j ≤ 1000) (hI : Inv j h) (ha : a ≤ 1000) (hb : b ≤ 9000) (hx1 : vp_in (i + 1) (gN G)) (hx2 : vp_in (i + 2) (gN G)) (hx3 : vp_in (i + 3) (gN G)) (hx4 : vp_in (i + 4) (gN G)) (hx5 : vp_in (i + 5) (gN G)) (hx6 : vp_in (i + 6) (gN G)) (nx : ∀ h2, Inv (j + 1) h2 → JW G Y_La_law (a + 1, b + 6) 1362 (LL i) [] (0, h2) r) : JW G Y_La_law (a, b) 1348 (LL i) [] (0, h) r := by
  unfold LL
  obtain ⟨fs, gs, o, B1, B2, B3⟩ := Inv_1 hI
  obtain ⟨v, h2, A1, A3, A7⟩ := p_carbon hG hI
  refine J_aload_n d_La_law_1348 rfl rfl ?_
  refine J_callP (xGo_v0 d_La_law_1349 xc_La_146 B1 rfl rfl) ⟨xq_RF_carbon.1, xq_RF_carbon.2.1⟩ (rl (by omega) (by omega) ⟨Nat.le_of_ble_eq_true rfl, Nat.le_of_ble_eq_true rfl, Nat.le_of_ble_eq_true rfl, Nat.le_of_ble_eq_true rfl⟩) (Nat.le_of_ble_eq_true rfl) A1 ?_
  refine J_aload_n d_La_law_1352 rfl rfl ?_
  refine J_callW (xGo_v0 d_La_law_1353 xc_La_150 B2 rfl rfl) ⟨xq_Mo_carbon.1, xq_Mo_carbon.2.1⟩ (rl (by omega) (by omega) ⟨Nat.le_of_ble_eq_true rfl, Nat.le_of_ble_eq_true rfl, Nat.le_of_ble_eq_true rfl, Nat.le_of_ble_eq_true rfl⟩) (Nat.le_of_ble_eq_true rfl) A3 ?_
  refine J_lcmp d_La_law_1356 ?_
  refine J_lif_eq (tgt := 1362) d_La_law_1357 (by decide) (fun c1357 => ?_) (fun c1357 => ?_)
  · skip
    refine J_widen (k2 := (a + 1, b + 6)) (Nat.le_add_right _ _) (Nat.le_add_right _ _) (show ¬ (0 : Nat) = 2 by decide) ?_
    exact J_back rfl rfl rfl rfl rfl (nx _ A7)
  · skip
    exact absurd rfl c1357
end XW
