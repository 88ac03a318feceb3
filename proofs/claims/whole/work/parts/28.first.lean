section XV
variable {G : xG}
theorem hi8 {i : Nat} (hi : i < 8) : (upd (upd (upd (upd (upd (upd (upd (upd (fun _ => 0) 0 1000) 1 1000) 2 1000) 3 1000) 4 1000) 5 1000) 6 1000) 7 1000) i = 1000 := lt8 (P := fun i => (upd (upd (upd (upd (upd (upd (upd (upd (fun _ => 0) 0 1000) 1 1000) 2 1000) 3 1000) 4 1000) 5 1000) 6 1000) 7 1000) i = 1000) rfl rfl rfl rfl rfl rfl rfl rfl hi
theorem Inv_0 : Inv 0 (ch (1, 10) (1, 4) (0, 0, 0, 0, 0) (0, 0, 0, 0, 0) 0 0 0 0 0 (fun _ => (0, 0, 0, 0, -1, 0, 1000)) (fun _ => (0, 0, 0, 0, 0, 0)) 0 (fun _ => 0) (fun _ => 0) (mh 0 (upd (upd (fun _ => 0) 0 1) 1 1) (upd (upd (fun _ => 0) 0 10) 1 4) 0 (fun _ => 0) (fun _ => 0) 0 (fun _ => 0) (fun _ => 0) (fun _ => 0) (fun _ => 0) (vp_updL (vp_updL (vp_updL (vp_updL (vp_updL (vp_updL (vp_updL (vp_updL (fun _ => 0) 0 (-1)) 1 (-1)) 2 (-1)) 3 (-1)) 4 (-1)) 5 (-1)) 6 (-1)) 7 (-1)) (fun _ => 0) (upd (upd (upd (upd (upd (upd (upd (upd (fun _ => 0) 0 1000) 1 1000) 2 1000) 3 1000) 4 1000) 5 1000) 6 1000) 7 1000) (fun _ => 0) (fun _ => 0) (fun _ => 0) 0 0 0 0 (fun _ => 0) (fun _ => 0) 0 0 [oc_ (fun _ => 0)])) := by
  refine ⟨0, (upd (upd (fun _ => 0) 0 1) 1 1), (upd (upd (fun _ => 0) 0 10) 1 4), 0, (fun _ => 0), (fun _ => 0), 0, (fun _ => 0), (fun _ => 0), (fun _ => 0), (fun _ => 0), (vp_updL (vp_updL (vp_updL (vp_updL (vp_updL (vp_updL (vp_updL (vp_updL (fun _ => 0) 0 (-1)) 1 (-1)) 2 (-1)) 3 (-1)) 4 (-1)) 5 (-1)) 6 (-1)) 7 (-1)), (fun _ => 0), (upd (upd (upd (upd (upd (upd (upd (upd (fun _ => 0) 0 1000) 1 1000) 2 1000) 3 1000) 4 1000) 5 1000) 6 1000) 7 1000), (fun _ => 0), (fun _ => 0), (fun _ => 0), 0, 0, 0, 0, (fun _ => 0), (fun _ => 0), 0, 0, (fun _ => 0), ⟨?_, by decide, by decide, by decide, fun i hi => absurd hi (by omega), fun i _ hi => ⟨rfl, rfl, re8 hi⟩, fun i _ hs => absurd rfl hs, fun i hi => absurd hi (by omega)⟩, ?_⟩
  · intro t ht
    have : t = 0 ∨ t = 1 := by omega
    rcases this with rfl | rfl
    · exact ⟨by decide, by decide, by decide, by decide⟩
    · exact ⟨by decide, by decide, by decide, by decide⟩
  · refine (ch_ext (sc2 := fun _ => (0, 0, 0, 0, 0, 0)) (fun i hi => ?_) (fun _ _ => rfl)).trans rfl
    rw [re8 hi, hi8 hi]
set_option maxHeartbeats 4000000 in
set_option maxRecDepth 100000 in
theorem law_first (hG : gTok G) (hN : gN G ≤ 3584) : JW G Y_La_law (0, 0) 0 [(0, .float 0)] [] (2, []) (.inl (some (.int 1)), (0, []), 552, 3349) := by
  refine J_newN 0 (ci := 0) (fs := [.null, .null, .null, .null, .int 0, .null, .int 0, .null, .null, .long 0, .long 0, .int 0]) rfl d_La_law_0 rfl rfl xu_RF xt_RF (xTw_1 14 rfl rfl) (xTw_1 15 rfl rfl) (xTw_1 1 rfl rfl) (fun j hj => by rcases (show j = 0 ∨ j = 1 ∨ j = 2 ∨ j = 3 ∨ j = 4 ∨ j = 5 ∨ j = 6 ∨ j = 7 ∨ j = 8 ∨ j = 9 ∨ j = 10 ∨ j = 11 by omega) with rfl | rfl | rfl | rfl | rfl | rfl | rfl | rfl | rfl | rfl | rfl | rfl <;> rfl) ⟨Nat.le_of_ble_eq_true rfl, Nat.le_of_ble_eq_true rfl⟩ ?_
  refine J_heap (h2 := [.inr (0, [.null, .null, .null, .null, .int 0, .null, .int 0, .null, .null, .long 0, .long 0, .int 0])]) rfl ?_
  refine J_dup d_La_law_3 ?_
  refine J_callN rfl (xGo_i0 d_La_law_4 xq_RF_init xl_La_74.1 xl_La_74.2 rfl) ⟨xq_RF_init.1, xq_RF_init.2.1⟩ ⟨Nat.le_of_ble_eq_true rfl, Nat.le_of_ble_eq_true rfl, Nat.le_of_ble_eq_true rfl, Nat.le_of_ble_eq_true rfl⟩ (Nat.le_of_ble_eq_true rfl) (i_RF hG) rfl ?_
  refine J_astore_n d_La_law_7 rfl (by decide) ?_
  refine J_newN 22 (ci := 6) (fs := [.int 0, .null, .null, .int 0, .null, .null, .int 0, .null, .null, .null, .null, .null, .null, .null, .null, .null, .null, .long 0, .long 0, .long 0, .int 0, .null, .null, .long 0, .long 0]) rfl d_La_law_8 rfl rfl xu_Mo xt_Mo (xTw_3 63 rfl rfl) (xTw_3 64 rfl rfl) (xTw_1 7 rfl rfl) (fun j hj => by rcases (show j = 0 ∨ j = 1 ∨ j = 2 ∨ j = 3 ∨ j = 4 ∨ j = 5 ∨ j = 6 ∨ j = 7 ∨ j = 8 ∨ j = 9 ∨ j = 10 ∨ j = 11 ∨ j = 12 ∨ j = 13 ∨ j = 14 ∨ j = 15 ∨ j = 16 ∨ j = 17 ∨ j = 18 ∨ j = 19 ∨ j = 20 ∨ j = 21 ∨ j = 22 ∨ j = 23 ∨ j = 24 by omega) with rfl | rfl | rfl | rfl | rfl | rfl | rfl | rfl | rfl | rfl | rfl | rfl | rfl | rfl | rfl | rfl | rfl | rfl | rfl | rfl | rfl | rfl | rfl | rfl | rfl <;> rfl) ⟨Nat.le_of_ble_eq_true rfl, Nat.le_of_ble_eq_true rfl⟩ ?_
  refine J_heap (h2 := ch (1, 10) (1, 4) (0, 0, 0, 0, 0) (0, 0, 0, 0, 0) 0 0 0 0 0 (fun _ => (0, 0, 0, 0, -1, 0, 1000)) (fun _ => (0, 0, 0, 0, 0, 0)) 0 (fun _ => 0) (fun _ => 0) [.inr (6, [.int 0, .null, .null, .int 0, .null, .null, .int 0, .null, .null, .null, .null, .null, .null, .null, .null, .null, .null, .long 0, .long 0, .long 0, .int 0, .null, .null, .long 0, .long 0])]) rfl ?_
  refine J_dup d_La_law_11 ?_
  refine J_callN rfl (xGo_i0 d_La_law_12 xq_Mo_init xl_La_77.1 xl_La_77.2 rfl) ⟨xq_Mo_init.1, xq_Mo_init.2.1⟩ ⟨Nat.le_of_ble_eq_true rfl, Nat.le_of_ble_eq_true rfl, Nat.le_of_ble_eq_true rfl, Nat.le_of_ble_eq_true rfl⟩ (Nat.le_of_ble_eq_true rfl) (i_Mo hG) rfl ?_
  refine J_heap (h2 := ch (1, 10) (1, 4) (0, 0, 0, 0, 0) (0, 0, 0, 0, 0) 0 0 0 0 0 (fun _ => (0, 0, 0, 0, -1, 0, 1000)) (fun _ => (0, 0, 0, 0, 0, 0)) 0 (fun _ => 0) (fun _ => 0) (mh 0 (upd (upd (fun _ => 0) 0 1) 1 1) (upd (upd (fun _ => 0) 0 10) 1 4) 0 (fun _ => 0) (fun _ => 0) 0 (fun _ => 0) (fun _ => 0) (fun _ => 0) (fun _ => 0) (vp_updL (vp_updL (vp_updL (vp_updL (vp_updL (vp_updL (vp_updL (vp_updL (fun _ => 0) 0 (-1)) 1 (-1)) 2 (-1)) 3 (-1)) 4 (-1)) 5 (-1)) 6 (-1)) 7 (-1)) (fun _ => 0) (upd (upd (upd (upd (upd (upd (upd (upd (fun _ => 0) 0 1000) 1 1000) 2 1000) 3 1000) 4 1000) 5 1000) 6 1000) 7 1000) (fun _ => 0) (fun _ => 0) (fun _ => 0) 0 0 0 0 (fun _ => 0) (fun _ => 0) 0 0 [])) rfl ?_
  refine J_astore_n d_La_law_15 rfl (by decide) ?_
  refine J_iconst (v := 1) d_La_law_16 (by decide) ?_
  refine J_newaN (t := 1) (N := 1) 39 (ty := .long) (a0 := .inr (.inl (fun _ => 0))) rfl d_La_law_17 rfl rfl (xTw_3 146 rfl rfl) (by decide) (by decide) (by decide) (gtl hG) (fun _ => rfl) (fun _ h => by rw [← h]; rfl) ⟨Nat.le_of_ble_eq_true rfl, Nat.le_of_ble_eq_true rfl⟩ ?_
  refine J_heap (h2 := ch (1, 10) (1, 4) (0, 0, 0, 0, 0) (0, 0, 0, 0, 0) 0 0 0 0 0 (fun _ => (0, 0, 0, 0, -1, 0, 1000)) (fun _ => (0, 0, 0, 0, 0, 0)) 0 (fun _ => 0) (fun _ => 0) (mh 0 (upd (upd (fun _ => 0) 0 1) 1 1) (upd (upd (fun _ => 0) 0 10) 1 4) 0 (fun _ => 0) (fun _ => 0) 0 (fun _ => 0) (fun _ => 0) (fun _ => 0) (fun _ => 0) (vp_updL (vp_updL (vp_updL (vp_updL (vp_updL (vp_updL (vp_updL (vp_updL (fun _ => 0) 0 (-1)) 1 (-1)) 2 (-1)) 3 (-1)) 4 (-1)) 5 (-1)) 6 (-1)) 7 (-1)) (fun _ => 0) (upd (upd (upd (upd (upd (upd (upd (upd (fun _ => 0) 0 1000) 1 1000) 2 1000) 3 1000) 4 1000) 5 1000) 6 1000) 7 1000) (fun _ => 0) (fun _ => 0) (fun _ => 0) 0 0 0 0 (fun _ => 0) (fun _ => 0) 0 0 [oc_ (fun _ => 0)])) rfl ?_
  refine J_astore_n d_La_law_19 rfl (by decide) ?_
  refine J_iconst (v := 0) d_La_law_20 (by decide) ?_
  refine J_istore d_La_law_21 (by decide) ?_
  refine J_forget ?_
  refine J_back rfl rfl rfl rfl rfl ?_
  exact law_loop hG hN (gN G) 0 _ (by omega) (by omega) Inv_0
end XV
