theorem lw_k13 : Cond.classLink RL 13 ioX ∈ AL := al (by decide +kernel) rfl
theorem lw_k15 : Cond.classLink RL 15 iaX ∈ AL := al (by decide +kernel) rfl
theorem lw_k17 : Cond.classLink RL 17 isX ∈ AL := al (by decide +kernel) rfl
theorem lw_c13 : Cond.castable ioX ioX ∈ NW := List.mem_filter.mpr ⟨by decide +kernel, rfl⟩
theorem lw_c15 : Cond.castable iaX iaX ∈ NW := List.mem_filter.mpr ⟨by decide +kernel, rfl⟩
theorem lw_c17 : Cond.castable isX isX ∈ NW := List.mem_filter.mpr ⟨by decide +kernel, rfl⟩
set_option maxRecDepth 100000 in
set_option maxHeartbeats 4000000 in
theorem w_make (l : Launch) (G : Gt) (σ : St) {P : Int32 → St → Prop} (v1 v2 v3 : Int32) {d : Nat} (hd : d ≤ 8) (h : Ct l G yX3_make cX3_make 6 (some .int) d 0 0 [.ref (gB G 0), .int v1, .int v2, .int v3] σ (Qi G P)) : CtL l G yL_make cL_make 6 [(0, 12, 15, 13), (0, 12, 19, 15), (0, 12, 23, 17)] 9 [.ref (gB G 0), .int v1, .int v2, .int v3, .ref (gB G 8)] σ (Qi G (fun r σ' => r = 0 ∧ ∃ v σ1, P v σ1 ∧ σ' = setO σ1 v.toInt64)) := by
  refine ml_intro (by decide +kernel) (Nat.le_of_ble_eq_true rfl) ?_
  intro p e s m below meth c S hr hlk hxt hI ls hl
  have hl : lv_has ls 6 [(0, .ref (gB G 0)), (1, .int v1), (2, .int v2), (3, .int v3), (4, .ref (gB G 8))] := hl
  refine lv_aload S.1 S.2.1 dL_make_0 (lv_at hl 4 rfl) ?_
  refine lv_iconst (v := 0) S.1 S.2.1 dL_make_2 (by decide) ?_
  refine lv_aload_n S.1 S.2.1 dL_make_3 rfl (lv_at hl 0 rfl) ?_
  refine lv_iload_n S.1 S.2.1 dL_make_4 rfl (lv_at hl 1 rfl) ?_
  refine lv_iload_n S.1 S.2.1 dL_make_5 rfl (lv_at hl 2 rfl) ?_
  refine lv_iload_n S.1 S.2.1 dL_make_6 rfl (lv_at hl 3 rfl) ?_
  refine cl_i hI (rnV (As := [.int v1, .int v2, .int v3]) (rest := [.int 0, .ref (gB G 8)]) S hI h (cw_L_X3_make S.2.2.2.2 ⟨by show d + 1 ≤ 9; omega, by show _ ≤ 36 * 9; omega⟩) (rcX hI) rfl hl.1 (Nat.le_of_ble_eq_true rfl) dL_make_7 ⟨Nat.le_of_ble_eq_true rfl, Nat.le_of_ble_eq_true rfl⟩) (fun r1 σ1 H locs hq1 hI => ?_)
  refine lv_i2l (v := r1.toInt64) S.1 S.2.1 dL_make_10 rfl ?_
  refine s_out S hI dL_make_11 (fun H locs hI => ?_)
  refine lv_goto (tgt := 27) S.1 S.2.1 dL_make_12 (by decide) ?_
  refine lv_iconst (v := 0) S.1 S.2.1 dL_make_27 (by decide) ?_
  exact xt_i S hI hr hlk (⟨rfl, _, _, hq1, rfl⟩) (by decide) (by decide) dL_make_28
set_option maxRecDepth 100000 in
set_option maxHeartbeats 4000000 in
theorem wx_make_1 (l : Launch) (G : Gt) (σ : St) (v1 v2 v3 : Int32) {d : Nat} (hd : d ≤ 8) (h : CtX l G yX3_make cX3_make 6 (some .int) d [.ref (gB G 0), .int v1, .int v2, .int v3] σ (NoI G) ioX) : CtL l G yL_make cL_make 6 [(0, 12, 15, 13), (0, 12, 19, 15), (0, 12, 23, 17)] 9 [.ref (gB G 0), .int v1, .int v2, .int v3, .ref (gB G 8)] σ (Qi G (fun r σ' => r = 1 ∧ σ' = σ)) := by
  refine ml_intro (by decide +kernel) (Nat.le_of_ble_eq_true rfl) ?_
  intro p e s m below meth c S hr hlk hxt hI ls hl
  have hl : lv_has ls 6 [(0, .ref (gB G 0)), (1, .int v1), (2, .int v2), (3, .int v3), (4, .ref (gB G 8))] := hl
  refine lv_aload S.1 S.2.1 dL_make_0 (lv_at hl 4 rfl) ?_
  refine lv_iconst (v := 0) S.1 S.2.1 dL_make_2 (by decide) ?_
  refine lv_aload_n S.1 S.2.1 dL_make_3 rfl (lv_at hl 0 rfl) ?_
  refine lv_iload_n S.1 S.2.1 dL_make_4 rfl (lv_at hl 1 rfl) ?_
  refine lv_iload_n S.1 S.2.1 dL_make_5 rfl (lv_at hl 2 rfl) ?_
  refine lv_iload_n S.1 S.2.1 dL_make_6 rfl (lv_at hl 3 rfl) ?_
  refine lw_bad (As := [.int v1, .int v2, .int v3]) (rest := [.int 0, .ref (gB G 8)]) S hI h (cw_L_X3_make S.2.2.2.2 ⟨by show d + 1 ≤ 9; omega, by show _ ≤ 36 * 9; omega⟩) rfl hl.1 (Nat.le_of_ble_eq_true rfl) dL_make_7 ⟨Nat.le_of_ble_eq_true rfl, Nat.le_of_ble_eq_true rfl⟩ [] ⟨0, 12, 15, 13⟩ [⟨0, 12, 19, 15⟩, ⟨0, 12, 23, 17⟩] hxt (fun _ h9 => nomatch h9) (by decide) (by decide) lw_k13 lw_c13 (fun q9 H locs hI => ?_)
  refine lv_astore (lv' := [(5, .ref q9), (0, .ref (gB G 0)), (1, .int v1), (2, .int v2), (3, .int v3), (4, .ref (gB G 8))]) S.1 S.2.1 dL_make_15 hl (by decide) rfl (fun ls hl => ?_)
  refine lv_iconst (v := 1) S.1 S.2.1 dL_make_17 (by decide) ?_
  exact xt_i S hI hr hlk (⟨rfl, rfl⟩) (by decide) (by decide) dL_make_18
set_option maxRecDepth 100000 in
set_option maxHeartbeats 4000000 in
theorem wx_make_2 (l : Launch) (G : Gt) (σ : St) (v1 v2 v3 : Int32) {d : Nat} (hd : d ≤ 8) (h : CtX l G yX3_make cX3_make 6 (some .int) d [.ref (gB G 0), .int v1, .int v2, .int v3] σ (NoI G) iaX) : CtL l G yL_make cL_make 6 [(0, 12, 15, 13), (0, 12, 19, 15), (0, 12, 23, 17)] 9 [.ref (gB G 0), .int v1, .int v2, .int v3, .ref (gB G 8)] σ (Qi G (fun r σ' => r = 2 ∧ σ' = σ)) := by
  refine ml_intro (by decide +kernel) (Nat.le_of_ble_eq_true rfl) ?_
  intro p e s m below meth c S hr hlk hxt hI ls hl
  have hl : lv_has ls 6 [(0, .ref (gB G 0)), (1, .int v1), (2, .int v2), (3, .int v3), (4, .ref (gB G 8))] := hl
  refine lv_aload S.1 S.2.1 dL_make_0 (lv_at hl 4 rfl) ?_
  refine lv_iconst (v := 0) S.1 S.2.1 dL_make_2 (by decide) ?_
  refine lv_aload_n S.1 S.2.1 dL_make_3 rfl (lv_at hl 0 rfl) ?_
  refine lv_iload_n S.1 S.2.1 dL_make_4 rfl (lv_at hl 1 rfl) ?_
  refine lv_iload_n S.1 S.2.1 dL_make_5 rfl (lv_at hl 2 rfl) ?_
  refine lv_iload_n S.1 S.2.1 dL_make_6 rfl (lv_at hl 3 rfl) ?_
  refine lw_bad (As := [.int v1, .int v2, .int v3]) (rest := [.int 0, .ref (gB G 8)]) S hI h (cw_L_X3_make S.2.2.2.2 ⟨by show d + 1 ≤ 9; omega, by show _ ≤ 36 * 9; omega⟩) rfl hl.1 (Nat.le_of_ble_eq_true rfl) dL_make_7 ⟨Nat.le_of_ble_eq_true rfl, Nat.le_of_ble_eq_true rfl⟩ [⟨0, 12, 15, 13⟩] ⟨0, 12, 19, 15⟩ [⟨0, 12, 23, 17⟩] hxt (List.forall_mem_cons.mpr ⟨⟨by decide, ioX, lw_k13, by decide⟩, (fun _ h9 => nomatch h9)⟩) (by decide) (by decide) lw_k15 lw_c15 (fun q9 H locs hI => ?_)
  refine lv_astore (lv' := [(5, .ref q9), (0, .ref (gB G 0)), (1, .int v1), (2, .int v2), (3, .int v3), (4, .ref (gB G 8))]) S.1 S.2.1 dL_make_19 hl (by decide) rfl (fun ls hl => ?_)
  refine lv_iconst (v := 2) S.1 S.2.1 dL_make_21 (by decide) ?_
  exact xt_i S hI hr hlk (⟨rfl, rfl⟩) (by decide) (by decide) dL_make_22
set_option maxRecDepth 100000 in
set_option maxHeartbeats 4000000 in
theorem wx_make_3 (l : Launch) (G : Gt) (σ : St) (v1 v2 v3 : Int32) {d : Nat} (hd : d ≤ 8) (h : CtX l G yX3_make cX3_make 6 (some .int) d [.ref (gB G 0), .int v1, .int v2, .int v3] σ (NoI G) isX) : CtL l G yL_make cL_make 6 [(0, 12, 15, 13), (0, 12, 19, 15), (0, 12, 23, 17)] 9 [.ref (gB G 0), .int v1, .int v2, .int v3, .ref (gB G 8)] σ (Qi G (fun r σ' => r = 3 ∧ σ' = σ)) := by
  refine ml_intro (by decide +kernel) (Nat.le_of_ble_eq_true rfl) ?_
  intro p e s m below meth c S hr hlk hxt hI ls hl
  have hl : lv_has ls 6 [(0, .ref (gB G 0)), (1, .int v1), (2, .int v2), (3, .int v3), (4, .ref (gB G 8))] := hl
  refine lv_aload S.1 S.2.1 dL_make_0 (lv_at hl 4 rfl) ?_
  refine lv_iconst (v := 0) S.1 S.2.1 dL_make_2 (by decide) ?_
  refine lv_aload_n S.1 S.2.1 dL_make_3 rfl (lv_at hl 0 rfl) ?_
  refine lv_iload_n S.1 S.2.1 dL_make_4 rfl (lv_at hl 1 rfl) ?_
  refine lv_iload_n S.1 S.2.1 dL_make_5 rfl (lv_at hl 2 rfl) ?_
  refine lv_iload_n S.1 S.2.1 dL_make_6 rfl (lv_at hl 3 rfl) ?_
  refine lw_bad (As := [.int v1, .int v2, .int v3]) (rest := [.int 0, .ref (gB G 8)]) S hI h (cw_L_X3_make S.2.2.2.2 ⟨by show d + 1 ≤ 9; omega, by show _ ≤ 36 * 9; omega⟩) rfl hl.1 (Nat.le_of_ble_eq_true rfl) dL_make_7 ⟨Nat.le_of_ble_eq_true rfl, Nat.le_of_ble_eq_true rfl⟩ [⟨0, 12, 15, 13⟩, ⟨0, 12, 19, 15⟩] ⟨0, 12, 23, 17⟩ [] hxt (List.forall_mem_cons.mpr ⟨⟨by decide, ioX, lw_k13, by decide⟩, (List.forall_mem_cons.mpr ⟨⟨by decide, iaX, lw_k15, by decide⟩, (fun _ h9 => nomatch h9)⟩)⟩) (by decide) (by decide) lw_k17 lw_c17 (fun q9 H locs hI => ?_)
  refine lv_astore (lv' := [(5, .ref q9), (0, .ref (gB G 0)), (1, .int v1), (2, .int v2), (3, .int v3), (4, .ref (gB G 8))]) S.1 S.2.1 dL_make_23 hl (by decide) rfl (fun ls hl => ?_)
  refine lv_iconst (v := 3) S.1 S.2.1 dL_make_25 (by decide) ?_
  exact xt_i S hI hr hlk (⟨rfl, rfl⟩) (by decide) (by decide) dL_make_26
set_option maxRecDepth 100000 in
set_option maxHeartbeats 4000000 in
theorem w_move (l : Launch) (G : Gt) (σ : St) {P : Int32 → St → Prop} (v1 v2 : Int32) {d : Nat} (hd : d ≤ 8) (h : Ct l G yX3_move cX3_move 6 (some .int) d 0 0 [.ref (gB G 0), .int v1, .int v2] σ (Qi G P)) : CtL l G yL_move cL_move 5 [(0, 10, 13, 13), (0, 10, 17, 17)] 9 [.ref (gB G 0), .int v1, .int v2, .ref (gB G 8)] σ (Qi G (fun r σ' => r = 0 ∧ ∃ v σ1, P v σ1 ∧ σ' = setO σ1 v.toInt64)) := by
  refine ml_intro (by decide +kernel) (Nat.le_of_ble_eq_true rfl) ?_
  intro p e s m below meth c S hr hlk hxt hI ls hl
  have hl : lv_has ls 5 [(0, .ref (gB G 0)), (1, .int v1), (2, .int v2), (3, .ref (gB G 8))] := hl
  refine lv_aload_n S.1 S.2.1 dL_move_0 rfl (lv_at hl 3 rfl) ?_
  refine lv_iconst (v := 0) S.1 S.2.1 dL_move_1 (by decide) ?_
  refine lv_aload_n S.1 S.2.1 dL_move_2 rfl (lv_at hl 0 rfl) ?_
  refine lv_iload_n S.1 S.2.1 dL_move_3 rfl (lv_at hl 1 rfl) ?_
  refine lv_iload_n S.1 S.2.1 dL_move_4 rfl (lv_at hl 2 rfl) ?_
  refine cl_i hI (rnV (As := [.int v1, .int v2]) (rest := [.int 0, .ref (gB G 8)]) S hI h (cw_L_X3_move S.2.2.2.2 ⟨by show d + 1 ≤ 9; omega, by show _ ≤ 36 * 9; omega⟩) (rcX hI) rfl hl.1 (Nat.le_of_ble_eq_true rfl) dL_move_5 ⟨Nat.le_of_ble_eq_true rfl, Nat.le_of_ble_eq_true rfl⟩) (fun r1 σ1 H locs hq1 hI => ?_)
  refine lv_i2l (v := r1.toInt64) S.1 S.2.1 dL_move_8 rfl ?_
  refine s_out S hI dL_move_9 (fun H locs hI => ?_)
  refine lv_goto (tgt := 21) S.1 S.2.1 dL_move_10 (by decide) ?_
  refine lv_iconst (v := 0) S.1 S.2.1 dL_move_21 (by decide) ?_
  exact xt_i S hI hr hlk (⟨rfl, _, _, hq1, rfl⟩) (by decide) (by decide) dL_move_22
set_option maxRecDepth 100000 in
set_option maxHeartbeats 4000000 in
theorem wx_move_1 (l : Launch) (G : Gt) (σ : St) (v1 v2 : Int32) {d : Nat} (hd : d ≤ 8) (h : CtX l G yX3_move cX3_move 6 (some .int) d [.ref (gB G 0), .int v1, .int v2] σ (NoI G) ioX) : CtL l G yL_move cL_move 5 [(0, 10, 13, 13), (0, 10, 17, 17)] 9 [.ref (gB G 0), .int v1, .int v2, .ref (gB G 8)] σ (Qi G (fun r σ' => r = 1 ∧ σ' = σ)) := by
  refine ml_intro (by decide +kernel) (Nat.le_of_ble_eq_true rfl) ?_
  intro p e s m below meth c S hr hlk hxt hI ls hl
  have hl : lv_has ls 5 [(0, .ref (gB G 0)), (1, .int v1), (2, .int v2), (3, .ref (gB G 8))] := hl
  refine lv_aload_n S.1 S.2.1 dL_move_0 rfl (lv_at hl 3 rfl) ?_
  refine lv_iconst (v := 0) S.1 S.2.1 dL_move_1 (by decide) ?_
  refine lv_aload_n S.1 S.2.1 dL_move_2 rfl (lv_at hl 0 rfl) ?_
  refine lv_iload_n S.1 S.2.1 dL_move_3 rfl (lv_at hl 1 rfl) ?_
  refine lv_iload_n S.1 S.2.1 dL_move_4 rfl (lv_at hl 2 rfl) ?_
  refine lw_bad (As := [.int v1, .int v2]) (rest := [.int 0, .ref (gB G 8)]) S hI h (cw_L_X3_move S.2.2.2.2 ⟨by show d + 1 ≤ 9; omega, by show _ ≤ 36 * 9; omega⟩) rfl hl.1 (Nat.le_of_ble_eq_true rfl) dL_move_5 ⟨Nat.le_of_ble_eq_true rfl, Nat.le_of_ble_eq_true rfl⟩ [] ⟨0, 10, 13, 13⟩ [⟨0, 10, 17, 17⟩] hxt (fun _ h9 => nomatch h9) (by decide) (by decide) lw_k13 lw_c13 (fun q9 H locs hI => ?_)
  refine lv_astore (lv' := [(4, .ref q9), (0, .ref (gB G 0)), (1, .int v1), (2, .int v2), (3, .ref (gB G 8))]) S.1 S.2.1 dL_move_13 hl (by decide) rfl (fun ls hl => ?_)
  refine lv_iconst (v := 1) S.1 S.2.1 dL_move_15 (by decide) ?_
  exact xt_i S hI hr hlk (⟨rfl, rfl⟩) (by decide) (by decide) dL_move_16
set_option maxRecDepth 100000 in
set_option maxHeartbeats 4000000 in
theorem wx_move_2 (l : Launch) (G : Gt) (σ : St) (v1 v2 : Int32) {d : Nat} (hd : d ≤ 8) (h : CtX l G yX3_move cX3_move 6 (some .int) d [.ref (gB G 0), .int v1, .int v2] σ (NoI G) isX) : CtL l G yL_move cL_move 5 [(0, 10, 13, 13), (0, 10, 17, 17)] 9 [.ref (gB G 0), .int v1, .int v2, .ref (gB G 8)] σ (Qi G (fun r σ' => r = 2 ∧ σ' = σ)) := by
  refine ml_intro (by decide +kernel) (Nat.le_of_ble_eq_true rfl) ?_
  intro p e s m below meth c S hr hlk hxt hI ls hl
  have hl : lv_has ls 5 [(0, .ref (gB G 0)), (1, .int v1), (2, .int v2), (3, .ref (gB G 8))] := hl
  refine lv_aload_n S.1 S.2.1 dL_move_0 rfl (lv_at hl 3 rfl) ?_
  refine lv_iconst (v := 0) S.1 S.2.1 dL_move_1 (by decide) ?_
  refine lv_aload_n S.1 S.2.1 dL_move_2 rfl (lv_at hl 0 rfl) ?_
  refine lv_iload_n S.1 S.2.1 dL_move_3 rfl (lv_at hl 1 rfl) ?_
  refine lv_iload_n S.1 S.2.1 dL_move_4 rfl (lv_at hl 2 rfl) ?_
  refine lw_bad (As := [.int v1, .int v2]) (rest := [.int 0, .ref (gB G 8)]) S hI h (cw_L_X3_move S.2.2.2.2 ⟨by show d + 1 ≤ 9; omega, by show _ ≤ 36 * 9; omega⟩) rfl hl.1 (Nat.le_of_ble_eq_true rfl) dL_move_5 ⟨Nat.le_of_ble_eq_true rfl, Nat.le_of_ble_eq_true rfl⟩ [⟨0, 10, 13, 13⟩] ⟨0, 10, 17, 17⟩ [] hxt (List.forall_mem_cons.mpr ⟨⟨by decide, ioX, lw_k13, by decide⟩, (fun _ h9 => nomatch h9)⟩) (by decide) (by decide) lw_k17 lw_c17 (fun q9 H locs hI => ?_)
  refine lv_astore (lv' := [(4, .ref q9), (0, .ref (gB G 0)), (1, .int v1), (2, .int v2), (3, .ref (gB G 8))]) S.1 S.2.1 dL_move_17 hl (by decide) rfl (fun ls hl => ?_)
  refine lv_iconst (v := 2) S.1 S.2.1 dL_move_19 (by decide) ?_
  exact xt_i S hI hr hlk (⟨rfl, rfl⟩) (by decide) (by decide) dL_move_20
set_option maxRecDepth 100000 in
set_option maxHeartbeats 4000000 in
theorem w_keep (l : Launch) (G : Gt) (σ : St) {P : Int32 → St → Prop} (v1 : Int32) {d : Nat} (hd : d ≤ 8) (h : Ct l G yX3_keep cX3_keep 4 (some .int) d 0 0 [.ref (gB G 0), .int v1] σ (Qi G P)) : CtL l G yL_keep cL_keep 4 [(0, 9, 12, 13), (0, 9, 15, 17)] 9 [.ref (gB G 0), .int v1, .ref (gB G 8)] σ (Qi G (fun r σ' => r = 0 ∧ ∃ v σ1, P v σ1 ∧ σ' = setO σ1 v.toInt64)) := by
  refine ml_intro (by decide +kernel) (Nat.le_of_ble_eq_true rfl) ?_
  intro p e s m below meth c S hr hlk hxt hI ls hl
  have hl : lv_has ls 4 [(0, .ref (gB G 0)), (1, .int v1), (2, .ref (gB G 8))] := hl
  refine lv_aload_n S.1 S.2.1 dL_keep_0 rfl (lv_at hl 2 rfl) ?_
  refine lv_iconst (v := 0) S.1 S.2.1 dL_keep_1 (by decide) ?_
  refine lv_aload_n S.1 S.2.1 dL_keep_2 rfl (lv_at hl 0 rfl) ?_
  refine lv_iload_n S.1 S.2.1 dL_keep_3 rfl (lv_at hl 1 rfl) ?_
  refine cl_i hI (rnV (As := [.int v1]) (rest := [.int 0, .ref (gB G 8)]) S hI h (cw_L_X3_keep S.2.2.2.2 ⟨by show d + 1 ≤ 9; omega, by show _ ≤ 36 * 9; omega⟩) (rcX hI) rfl hl.1 (Nat.le_of_ble_eq_true rfl) dL_keep_4 ⟨Nat.le_of_ble_eq_true rfl, Nat.le_of_ble_eq_true rfl⟩) (fun r1 σ1 H locs hq1 hI => ?_)
  refine lv_i2l (v := r1.toInt64) S.1 S.2.1 dL_keep_7 rfl ?_
  refine s_out S hI dL_keep_8 (fun H locs hI => ?_)
  refine lv_goto (tgt := 18) S.1 S.2.1 dL_keep_9 (by decide) ?_
  refine lv_iconst (v := 0) S.1 S.2.1 dL_keep_18 (by decide) ?_
  exact xt_i S hI hr hlk (⟨rfl, _, _, hq1, rfl⟩) (by decide) (by decide) dL_keep_19
set_option maxRecDepth 100000 in
set_option maxHeartbeats 4000000 in
theorem wx_keep_1 (l : Launch) (G : Gt) (σ : St) (v1 : Int32) {d : Nat} (hd : d ≤ 8) (h : CtX l G yX3_keep cX3_keep 4 (some .int) d [.ref (gB G 0), .int v1] σ (NoI G) ioX) : CtL l G yL_keep cL_keep 4 [(0, 9, 12, 13), (0, 9, 15, 17)] 9 [.ref (gB G 0), .int v1, .ref (gB G 8)] σ (Qi G (fun r σ' => r = 1 ∧ σ' = σ)) := by
  refine ml_intro (by decide +kernel) (Nat.le_of_ble_eq_true rfl) ?_
  intro p e s m below meth c S hr hlk hxt hI ls hl
  have hl : lv_has ls 4 [(0, .ref (gB G 0)), (1, .int v1), (2, .ref (gB G 8))] := hl
  refine lv_aload_n S.1 S.2.1 dL_keep_0 rfl (lv_at hl 2 rfl) ?_
  refine lv_iconst (v := 0) S.1 S.2.1 dL_keep_1 (by decide) ?_
  refine lv_aload_n S.1 S.2.1 dL_keep_2 rfl (lv_at hl 0 rfl) ?_
  refine lv_iload_n S.1 S.2.1 dL_keep_3 rfl (lv_at hl 1 rfl) ?_
  refine lw_bad (As := [.int v1]) (rest := [.int 0, .ref (gB G 8)]) S hI h (cw_L_X3_keep S.2.2.2.2 ⟨by show d + 1 ≤ 9; omega, by show _ ≤ 36 * 9; omega⟩) rfl hl.1 (Nat.le_of_ble_eq_true rfl) dL_keep_4 ⟨Nat.le_of_ble_eq_true rfl, Nat.le_of_ble_eq_true rfl⟩ [] ⟨0, 9, 12, 13⟩ [⟨0, 9, 15, 17⟩] hxt (fun _ h9 => nomatch h9) (by decide) (by decide) lw_k13 lw_c13 (fun q9 H locs hI => ?_)
  refine lv_astore_n (lv' := [(3, .ref q9), (0, .ref (gB G 0)), (1, .int v1), (2, .ref (gB G 8))]) S.1 S.2.1 dL_keep_12 rfl hl (by decide) rfl (fun ls hl => ?_)
  refine lv_iconst (v := 1) S.1 S.2.1 dL_keep_13 (by decide) ?_
  exact xt_i S hI hr hlk (⟨rfl, rfl⟩) (by decide) (by decide) dL_keep_14
set_option maxRecDepth 100000 in
set_option maxHeartbeats 4000000 in
theorem wx_keep_2 (l : Launch) (G : Gt) (σ : St) (v1 : Int32) {d : Nat} (hd : d ≤ 8) (h : CtX l G yX3_keep cX3_keep 4 (some .int) d [.ref (gB G 0), .int v1] σ (NoI G) isX) : CtL l G yL_keep cL_keep 4 [(0, 9, 12, 13), (0, 9, 15, 17)] 9 [.ref (gB G 0), .int v1, .ref (gB G 8)] σ (Qi G (fun r σ' => r = 2 ∧ σ' = σ)) := by
  refine ml_intro (by decide +kernel) (Nat.le_of_ble_eq_true rfl) ?_
  intro p e s m below meth c S hr hlk hxt hI ls hl
  have hl : lv_has ls 4 [(0, .ref (gB G 0)), (1, .int v1), (2, .ref (gB G 8))] := hl
  refine lv_aload_n S.1 S.2.1 dL_keep_0 rfl (lv_at hl 2 rfl) ?_
  refine lv_iconst (v := 0) S.1 S.2.1 dL_keep_1 (by decide) ?_
  refine lv_aload_n S.1 S.2.1 dL_keep_2 rfl (lv_at hl 0 rfl) ?_
  refine lv_iload_n S.1 S.2.1 dL_keep_3 rfl (lv_at hl 1 rfl) ?_
  refine lw_bad (As := [.int v1]) (rest := [.int 0, .ref (gB G 8)]) S hI h (cw_L_X3_keep S.2.2.2.2 ⟨by show d + 1 ≤ 9; omega, by show _ ≤ 36 * 9; omega⟩) rfl hl.1 (Nat.le_of_ble_eq_true rfl) dL_keep_4 ⟨Nat.le_of_ble_eq_true rfl, Nat.le_of_ble_eq_true rfl⟩ [⟨0, 9, 12, 13⟩] ⟨0, 9, 15, 17⟩ [] hxt (List.forall_mem_cons.mpr ⟨⟨by decide, ioX, lw_k13, by decide⟩, (fun _ h9 => nomatch h9)⟩) (by decide) (by decide) lw_k17 lw_c17 (fun q9 H locs hI => ?_)
  refine lv_astore_n (lv' := [(3, .ref q9), (0, .ref (gB G 0)), (1, .int v1), (2, .ref (gB G 8))]) S.1 S.2.1 dL_keep_15 rfl hl (by decide) rfl (fun ls hl => ?_)
  refine lv_iconst (v := 2) S.1 S.2.1 dL_keep_16 (by decide) ?_
  exact xt_i S hI hr hlk (⟨rfl, rfl⟩) (by decide) (by decide) dL_keep_17
set_option maxRecDepth 100000 in
set_option maxHeartbeats 4000000 in
theorem w_set (l : Launch) (G : Gt) (σ : St) {P : Int32 → St → Prop} (v1 v2 : Int32) {d : Nat} (hd : d ≤ 8) (h : Ct l G yX3_set cX3_set 5 (some .int) d 0 0 [.ref (gB G 0), .int v1, .int v2] σ (Qi G P)) : CtL l G yL_set cL_set 5 [(0, 10, 13, 13), (0, 10, 17, 15)] 9 [.ref (gB G 0), .int v1, .int v2, .ref (gB G 8)] σ (Qi G (fun r σ' => r = 0 ∧ ∃ v σ1, P v σ1 ∧ σ' = setO σ1 v.toInt64)) := by
  refine ml_intro (by decide +kernel) (Nat.le_of_ble_eq_true rfl) ?_
  intro p e s m below meth c S hr hlk hxt hI ls hl
  have hl : lv_has ls 5 [(0, .ref (gB G 0)), (1, .int v1), (2, .int v2), (3, .ref (gB G 8))] := hl
  refine lv_aload_n S.1 S.2.1 dL_set_0 rfl (lv_at hl 3 rfl) ?_
  refine lv_iconst (v := 0) S.1 S.2.1 dL_set_1 (by decide) ?_
  refine lv_aload_n S.1 S.2.1 dL_set_2 rfl (lv_at hl 0 rfl) ?_
  refine lv_iload_n S.1 S.2.1 dL_set_3 rfl (lv_at hl 1 rfl) ?_
  refine lv_iload_n S.1 S.2.1 dL_set_4 rfl (lv_at hl 2 rfl) ?_
  refine cl_i hI (rnV (As := [.int v1, .int v2]) (rest := [.int 0, .ref (gB G 8)]) S hI h (cw_L_X3_set S.2.2.2.2 ⟨by show d + 1 ≤ 9; omega, by show _ ≤ 36 * 9; omega⟩) (rcX hI) rfl hl.1 (Nat.le_of_ble_eq_true rfl) dL_set_5 ⟨Nat.le_of_ble_eq_true rfl, Nat.le_of_ble_eq_true rfl⟩) (fun r1 σ1 H locs hq1 hI => ?_)
  refine lv_i2l (v := r1.toInt64) S.1 S.2.1 dL_set_8 rfl ?_
  refine s_out S hI dL_set_9 (fun H locs hI => ?_)
  refine lv_goto (tgt := 21) S.1 S.2.1 dL_set_10 (by decide) ?_
  refine lv_iconst (v := 0) S.1 S.2.1 dL_set_21 (by decide) ?_
  exact xt_i S hI hr hlk (⟨rfl, _, _, hq1, rfl⟩) (by decide) (by decide) dL_set_22
set_option maxRecDepth 100000 in
set_option maxHeartbeats 4000000 in
theorem wx_set_1 (l : Launch) (G : Gt) (σ : St) (v1 v2 : Int32) {d : Nat} (hd : d ≤ 8) (h : CtX l G yX3_set cX3_set 5 (some .int) d [.ref (gB G 0), .int v1, .int v2] σ (NoI G) ioX) : CtL l G yL_set cL_set 5 [(0, 10, 13, 13), (0, 10, 17, 15)] 9 [.ref (gB G 0), .int v1, .int v2, .ref (gB G 8)] σ (Qi G (fun r σ' => r = 1 ∧ σ' = σ)) := by
  refine ml_intro (by decide +kernel) (Nat.le_of_ble_eq_true rfl) ?_
  intro p e s m below meth c S hr hlk hxt hI ls hl
  have hl : lv_has ls 5 [(0, .ref (gB G 0)), (1, .int v1), (2, .int v2), (3, .ref (gB G 8))] := hl
  refine lv_aload_n S.1 S.2.1 dL_set_0 rfl (lv_at hl 3 rfl) ?_
  refine lv_iconst (v := 0) S.1 S.2.1 dL_set_1 (by decide) ?_
  refine lv_aload_n S.1 S.2.1 dL_set_2 rfl (lv_at hl 0 rfl) ?_
  refine lv_iload_n S.1 S.2.1 dL_set_3 rfl (lv_at hl 1 rfl) ?_
  refine lv_iload_n S.1 S.2.1 dL_set_4 rfl (lv_at hl 2 rfl) ?_
  refine lw_bad (As := [.int v1, .int v2]) (rest := [.int 0, .ref (gB G 8)]) S hI h (cw_L_X3_set S.2.2.2.2 ⟨by show d + 1 ≤ 9; omega, by show _ ≤ 36 * 9; omega⟩) rfl hl.1 (Nat.le_of_ble_eq_true rfl) dL_set_5 ⟨Nat.le_of_ble_eq_true rfl, Nat.le_of_ble_eq_true rfl⟩ [] ⟨0, 10, 13, 13⟩ [⟨0, 10, 17, 15⟩] hxt (fun _ h9 => nomatch h9) (by decide) (by decide) lw_k13 lw_c13 (fun q9 H locs hI => ?_)
  refine lv_astore (lv' := [(4, .ref q9), (0, .ref (gB G 0)), (1, .int v1), (2, .int v2), (3, .ref (gB G 8))]) S.1 S.2.1 dL_set_13 hl (by decide) rfl (fun ls hl => ?_)
  refine lv_iconst (v := 1) S.1 S.2.1 dL_set_15 (by decide) ?_
  exact xt_i S hI hr hlk (⟨rfl, rfl⟩) (by decide) (by decide) dL_set_16
set_option maxRecDepth 100000 in
set_option maxHeartbeats 4000000 in
theorem wx_set_2 (l : Launch) (G : Gt) (σ : St) (v1 v2 : Int32) {d : Nat} (hd : d ≤ 8) (h : CtX l G yX3_set cX3_set 5 (some .int) d [.ref (gB G 0), .int v1, .int v2] σ (NoI G) iaX) : CtL l G yL_set cL_set 5 [(0, 10, 13, 13), (0, 10, 17, 15)] 9 [.ref (gB G 0), .int v1, .int v2, .ref (gB G 8)] σ (Qi G (fun r σ' => r = 2 ∧ σ' = σ)) := by
  refine ml_intro (by decide +kernel) (Nat.le_of_ble_eq_true rfl) ?_
  intro p e s m below meth c S hr hlk hxt hI ls hl
  have hl : lv_has ls 5 [(0, .ref (gB G 0)), (1, .int v1), (2, .int v2), (3, .ref (gB G 8))] := hl
  refine lv_aload_n S.1 S.2.1 dL_set_0 rfl (lv_at hl 3 rfl) ?_
  refine lv_iconst (v := 0) S.1 S.2.1 dL_set_1 (by decide) ?_
  refine lv_aload_n S.1 S.2.1 dL_set_2 rfl (lv_at hl 0 rfl) ?_
  refine lv_iload_n S.1 S.2.1 dL_set_3 rfl (lv_at hl 1 rfl) ?_
  refine lv_iload_n S.1 S.2.1 dL_set_4 rfl (lv_at hl 2 rfl) ?_
  refine lw_bad (As := [.int v1, .int v2]) (rest := [.int 0, .ref (gB G 8)]) S hI h (cw_L_X3_set S.2.2.2.2 ⟨by show d + 1 ≤ 9; omega, by show _ ≤ 36 * 9; omega⟩) rfl hl.1 (Nat.le_of_ble_eq_true rfl) dL_set_5 ⟨Nat.le_of_ble_eq_true rfl, Nat.le_of_ble_eq_true rfl⟩ [⟨0, 10, 13, 13⟩] ⟨0, 10, 17, 15⟩ [] hxt (List.forall_mem_cons.mpr ⟨⟨by decide, ioX, lw_k13, by decide⟩, (fun _ h9 => nomatch h9)⟩) (by decide) (by decide) lw_k15 lw_c15 (fun q9 H locs hI => ?_)
  refine lv_astore (lv' := [(4, .ref q9), (0, .ref (gB G 0)), (1, .int v1), (2, .int v2), (3, .ref (gB G 8))]) S.1 S.2.1 dL_set_17 hl (by decide) rfl (fun ls hl => ?_)
  refine lv_iconst (v := 2) S.1 S.2.1 dL_set_19 (by decide) ?_
  exact xt_i S hI hr hlk (⟨rfl, rfl⟩) (by decide) (by decide) dL_set_20
set_option maxRecDepth 100000 in
set_option maxHeartbeats 4000000 in
theorem w_pass (l : Launch) (G : Gt) (σ : St) {P : Int32 → St → Prop} (v1 : Int32) {d : Nat} (hd : d ≤ 8) (h : Ct l G yX3_pass cX3_pass 4 (some .int) d 0 0 [.ref (gB G 0), .int v1] σ (Qi G P)) : CtL l G yL_pass cL_pass 4 [(0, 9, 12, 15)] 9 [.ref (gB G 0), .int v1, .ref (gB G 8)] σ (Qi G (fun r σ' => r = 0 ∧ ∃ v σ1, P v σ1 ∧ σ' = setO σ1 v.toInt64)) := by
  refine ml_intro (by decide +kernel) (Nat.le_of_ble_eq_true rfl) ?_
  intro p e s m below meth c S hr hlk hxt hI ls hl
  have hl : lv_has ls 4 [(0, .ref (gB G 0)), (1, .int v1), (2, .ref (gB G 8))] := hl
  refine lv_aload_n S.1 S.2.1 dL_pass_0 rfl (lv_at hl 2 rfl) ?_
  refine lv_iconst (v := 0) S.1 S.2.1 dL_pass_1 (by decide) ?_
  refine lv_aload_n S.1 S.2.1 dL_pass_2 rfl (lv_at hl 0 rfl) ?_
  refine lv_iload_n S.1 S.2.1 dL_pass_3 rfl (lv_at hl 1 rfl) ?_
  refine cl_i hI (rnV (As := [.int v1]) (rest := [.int 0, .ref (gB G 8)]) S hI h (cw_L_X3_pass S.2.2.2.2 ⟨by show d + 1 ≤ 9; omega, by show _ ≤ 36 * 9; omega⟩) (rcX hI) rfl hl.1 (Nat.le_of_ble_eq_true rfl) dL_pass_4 ⟨Nat.le_of_ble_eq_true rfl, Nat.le_of_ble_eq_true rfl⟩) (fun r1 σ1 H locs hq1 hI => ?_)
  refine lv_i2l (v := r1.toInt64) S.1 S.2.1 dL_pass_7 rfl ?_
  refine s_out S hI dL_pass_8 (fun H locs hI => ?_)
  refine lv_goto (tgt := 15) S.1 S.2.1 dL_pass_9 (by decide) ?_
  refine lv_iconst (v := 0) S.1 S.2.1 dL_pass_15 (by decide) ?_
  exact xt_i S hI hr hlk (⟨rfl, _, _, hq1, rfl⟩) (by decide) (by decide) dL_pass_16
set_option maxRecDepth 100000 in
set_option maxHeartbeats 4000000 in
theorem wx_pass_1 (l : Launch) (G : Gt) (σ : St) (v1 : Int32) {d : Nat} (hd : d ≤ 8) (h : CtX l G yX3_pass cX3_pass 4 (some .int) d [.ref (gB G 0), .int v1] σ (NoI G) iaX) : CtL l G yL_pass cL_pass 4 [(0, 9, 12, 15)] 9 [.ref (gB G 0), .int v1, .ref (gB G 8)] σ (Qi G (fun r σ' => r = 1 ∧ σ' = σ)) := by
  refine ml_intro (by decide +kernel) (Nat.le_of_ble_eq_true rfl) ?_
  intro p e s m below meth c S hr hlk hxt hI ls hl
  have hl : lv_has ls 4 [(0, .ref (gB G 0)), (1, .int v1), (2, .ref (gB G 8))] := hl
  refine lv_aload_n S.1 S.2.1 dL_pass_0 rfl (lv_at hl 2 rfl) ?_
  refine lv_iconst (v := 0) S.1 S.2.1 dL_pass_1 (by decide) ?_
  refine lv_aload_n S.1 S.2.1 dL_pass_2 rfl (lv_at hl 0 rfl) ?_
  refine lv_iload_n S.1 S.2.1 dL_pass_3 rfl (lv_at hl 1 rfl) ?_
  refine lw_bad (As := [.int v1]) (rest := [.int 0, .ref (gB G 8)]) S hI h (cw_L_X3_pass S.2.2.2.2 ⟨by show d + 1 ≤ 9; omega, by show _ ≤ 36 * 9; omega⟩) rfl hl.1 (Nat.le_of_ble_eq_true rfl) dL_pass_4 ⟨Nat.le_of_ble_eq_true rfl, Nat.le_of_ble_eq_true rfl⟩ [] ⟨0, 9, 12, 15⟩ [] hxt (fun _ h9 => nomatch h9) (by decide) (by decide) lw_k15 lw_c15 (fun q9 H locs hI => ?_)
  refine lv_astore_n (lv' := [(3, .ref q9), (0, .ref (gB G 0)), (1, .int v1), (2, .ref (gB G 8))]) S.1 S.2.1 dL_pass_12 rfl hl (by decide) rfl (fun ls hl => ?_)
  refine lv_iconst (v := 1) S.1 S.2.1 dL_pass_13 (by decide) ?_
  exact xt_i S hI hr hlk (⟨rfl, rfl⟩) (by decide) (by decide) dL_pass_14
set_option maxRecDepth 100000 in
set_option maxHeartbeats 4000000 in
theorem w_settingOf (l : Launch) (G : Gt) (σ : St) {P : Int32 → St → Prop} (v1 : Int32) {d : Nat} (hd : d ≤ 8) (h : Ct l G yX3_settingOf cX3_settingOf 2 (some .int) d 0 0 [.ref (gB G 0), .int v1] σ (Qi G P)) : CtL l G yL_settingOf cL_settingOf 4 [(0, 9, 12, 13)] 9 [.ref (gB G 0), .int v1, .ref (gB G 8)] σ (Qi G (fun r σ' => r = 0 ∧ ∃ v σ1, P v σ1 ∧ σ' = setO σ1 v.toInt64)) := by
  refine ml_intro (by decide +kernel) (Nat.le_of_ble_eq_true rfl) ?_
  intro p e s m below meth c S hr hlk hxt hI ls hl
  have hl : lv_has ls 4 [(0, .ref (gB G 0)), (1, .int v1), (2, .ref (gB G 8))] := hl
  refine lv_aload_n S.1 S.2.1 dL_settingOf_0 rfl (lv_at hl 2 rfl) ?_
  refine lv_iconst (v := 0) S.1 S.2.1 dL_settingOf_1 (by decide) ?_
  refine lv_aload_n S.1 S.2.1 dL_settingOf_2 rfl (lv_at hl 0 rfl) ?_
  refine lv_iload_n S.1 S.2.1 dL_settingOf_3 rfl (lv_at hl 1 rfl) ?_
  refine cl_i hI (rnV (As := [.int v1]) (rest := [.int 0, .ref (gB G 8)]) S hI h (cw_L_X3_settingOf S.2.2.2.2 ⟨by show d + 1 ≤ 9; omega, by show _ ≤ 36 * 9; omega⟩) (rcX hI) rfl hl.1 (Nat.le_of_ble_eq_true rfl) dL_settingOf_4 ⟨Nat.le_of_ble_eq_true rfl, Nat.le_of_ble_eq_true rfl⟩) (fun r1 σ1 H locs hq1 hI => ?_)
  refine lv_i2l (v := r1.toInt64) S.1 S.2.1 dL_settingOf_7 rfl ?_
  refine s_out S hI dL_settingOf_8 (fun H locs hI => ?_)
  refine lv_goto (tgt := 15) S.1 S.2.1 dL_settingOf_9 (by decide) ?_
  refine lv_iconst (v := 0) S.1 S.2.1 dL_settingOf_15 (by decide) ?_
  exact xt_i S hI hr hlk (⟨rfl, _, _, hq1, rfl⟩) (by decide) (by decide) dL_settingOf_16
set_option maxRecDepth 100000 in
set_option maxHeartbeats 4000000 in
theorem wx_settingOf_1 (l : Launch) (G : Gt) (σ : St) (v1 : Int32) {d : Nat} (hd : d ≤ 8) (h : CtX l G yX3_settingOf cX3_settingOf 2 (some .int) d [.ref (gB G 0), .int v1] σ (NoI G) ioX) : CtL l G yL_settingOf cL_settingOf 4 [(0, 9, 12, 13)] 9 [.ref (gB G 0), .int v1, .ref (gB G 8)] σ (Qi G (fun r σ' => r = 1 ∧ σ' = σ)) := by
  refine ml_intro (by decide +kernel) (Nat.le_of_ble_eq_true rfl) ?_
  intro p e s m below meth c S hr hlk hxt hI ls hl
  have hl : lv_has ls 4 [(0, .ref (gB G 0)), (1, .int v1), (2, .ref (gB G 8))] := hl
  refine lv_aload_n S.1 S.2.1 dL_settingOf_0 rfl (lv_at hl 2 rfl) ?_
  refine lv_iconst (v := 0) S.1 S.2.1 dL_settingOf_1 (by decide) ?_
  refine lv_aload_n S.1 S.2.1 dL_settingOf_2 rfl (lv_at hl 0 rfl) ?_
  refine lv_iload_n S.1 S.2.1 dL_settingOf_3 rfl (lv_at hl 1 rfl) ?_
  refine lw_bad (As := [.int v1]) (rest := [.int 0, .ref (gB G 8)]) S hI h (cw_L_X3_settingOf S.2.2.2.2 ⟨by show d + 1 ≤ 9; omega, by show _ ≤ 36 * 9; omega⟩) rfl hl.1 (Nat.le_of_ble_eq_true rfl) dL_settingOf_4 ⟨Nat.le_of_ble_eq_true rfl, Nat.le_of_ble_eq_true rfl⟩ [] ⟨0, 9, 12, 13⟩ [] hxt (fun _ h9 => nomatch h9) (by decide) (by decide) lw_k13 lw_c13 (fun q9 H locs hI => ?_)
  refine lv_astore_n (lv' := [(3, .ref q9), (0, .ref (gB G 0)), (1, .int v1), (2, .ref (gB G 8))]) S.1 S.2.1 dL_settingOf_12 rfl hl (by decide) rfl (fun ls hl => ?_)
  refine lv_iconst (v := 1) S.1 S.2.1 dL_settingOf_13 (by decide) ?_
  exact xt_i S hI hr hlk (⟨rfl, rfl⟩) (by decide) (by decide) dL_settingOf_14
set_option maxRecDepth 100000 in
set_option maxHeartbeats 4000000 in
theorem w_heatOn (l : Launch) (G : Gt) (σ : St) {P : Int32 → St → Prop} (v1 : Int32) {d : Nat} (hd : d ≤ 8) (h : Ct l G yX3_heatOn cX3_heatOn 2 (some .int) d 0 0 [.ref (gB G 0), .int v1] σ (Qi G P)) : CtL l G yL_heatOn cL_heatOn 4 [(0, 9, 12, 13)] 9 [.ref (gB G 0), .int v1, .ref (gB G 8)] σ (Qi G (fun r σ' => r = 0 ∧ ∃ v σ1, P v σ1 ∧ σ' = setO σ1 v.toInt64)) := by
  refine ml_intro (by decide +kernel) (Nat.le_of_ble_eq_true rfl) ?_
  intro p e s m below meth c S hr hlk hxt hI ls hl
  have hl : lv_has ls 4 [(0, .ref (gB G 0)), (1, .int v1), (2, .ref (gB G 8))] := hl
  refine lv_aload_n S.1 S.2.1 dL_heatOn_0 rfl (lv_at hl 2 rfl) ?_
  refine lv_iconst (v := 0) S.1 S.2.1 dL_heatOn_1 (by decide) ?_
  refine lv_aload_n S.1 S.2.1 dL_heatOn_2 rfl (lv_at hl 0 rfl) ?_
  refine lv_iload_n S.1 S.2.1 dL_heatOn_3 rfl (lv_at hl 1 rfl) ?_
  refine cl_i hI (rnV (As := [.int v1]) (rest := [.int 0, .ref (gB G 8)]) S hI h (cw_L_X3_heatOn S.2.2.2.2 ⟨by show d + 1 ≤ 9; omega, by show _ ≤ 36 * 9; omega⟩) (rcX hI) rfl hl.1 (Nat.le_of_ble_eq_true rfl) dL_heatOn_4 ⟨Nat.le_of_ble_eq_true rfl, Nat.le_of_ble_eq_true rfl⟩) (fun r1 σ1 H locs hq1 hI => ?_)
  refine lv_i2l (v := r1.toInt64) S.1 S.2.1 dL_heatOn_7 rfl ?_
  refine s_out S hI dL_heatOn_8 (fun H locs hI => ?_)
  refine lv_goto (tgt := 15) S.1 S.2.1 dL_heatOn_9 (by decide) ?_
  refine lv_iconst (v := 0) S.1 S.2.1 dL_heatOn_15 (by decide) ?_
  exact xt_i S hI hr hlk (⟨rfl, _, _, hq1, rfl⟩) (by decide) (by decide) dL_heatOn_16
set_option maxRecDepth 100000 in
set_option maxHeartbeats 4000000 in
theorem wx_heatOn_1 (l : Launch) (G : Gt) (σ : St) (v1 : Int32) {d : Nat} (hd : d ≤ 8) (h : CtX l G yX3_heatOn cX3_heatOn 2 (some .int) d [.ref (gB G 0), .int v1] σ (NoI G) ioX) : CtL l G yL_heatOn cL_heatOn 4 [(0, 9, 12, 13)] 9 [.ref (gB G 0), .int v1, .ref (gB G 8)] σ (Qi G (fun r σ' => r = 1 ∧ σ' = σ)) := by
  refine ml_intro (by decide +kernel) (Nat.le_of_ble_eq_true rfl) ?_
  intro p e s m below meth c S hr hlk hxt hI ls hl
  have hl : lv_has ls 4 [(0, .ref (gB G 0)), (1, .int v1), (2, .ref (gB G 8))] := hl
  refine lv_aload_n S.1 S.2.1 dL_heatOn_0 rfl (lv_at hl 2 rfl) ?_
  refine lv_iconst (v := 0) S.1 S.2.1 dL_heatOn_1 (by decide) ?_
  refine lv_aload_n S.1 S.2.1 dL_heatOn_2 rfl (lv_at hl 0 rfl) ?_
  refine lv_iload_n S.1 S.2.1 dL_heatOn_3 rfl (lv_at hl 1 rfl) ?_
  refine lw_bad (As := [.int v1]) (rest := [.int 0, .ref (gB G 8)]) S hI h (cw_L_X3_heatOn S.2.2.2.2 ⟨by show d + 1 ≤ 9; omega, by show _ ≤ 36 * 9; omega⟩) rfl hl.1 (Nat.le_of_ble_eq_true rfl) dL_heatOn_4 ⟨Nat.le_of_ble_eq_true rfl, Nat.le_of_ble_eq_true rfl⟩ [] ⟨0, 9, 12, 13⟩ [] hxt (fun _ h9 => nomatch h9) (by decide) (by decide) lw_k13 lw_c13 (fun q9 H locs hI => ?_)
  refine lv_astore_n (lv' := [(3, .ref q9), (0, .ref (gB G 0)), (1, .int v1), (2, .ref (gB G 8))]) S.1 S.2.1 dL_heatOn_12 rfl hl (by decide) rfl (fun ls hl => ?_)
  refine lv_iconst (v := 1) S.1 S.2.1 dL_heatOn_13 (by decide) ?_
  exact xt_i S hI hr hlk (⟨rfl, rfl⟩) (by decide) (by decide) dL_heatOn_14
set_option maxRecDepth 100000 in
set_option maxHeartbeats 4000000 in
theorem w_promisesOn (l : Launch) (G : Gt) (σ : St) {P : Int32 → St → Prop} (v1 : Int32) {d : Nat} (hd : d ≤ 8) (h : Ct l G yX3_promisesOn cX3_promisesOn 8 (some .int) d 0 0 [.ref (gB G 0), .int v1] σ (Qi G P)) : CtL l G yL_promisesOn cL_promisesOn 4 [(0, 9, 12, 13)] 9 [.ref (gB G 0), .int v1, .ref (gB G 8)] σ (Qi G (fun r σ' => r = 0 ∧ ∃ v σ1, P v σ1 ∧ σ' = setO σ1 v.toInt64)) := by
  refine ml_intro (by decide +kernel) (Nat.le_of_ble_eq_true rfl) ?_
  intro p e s m below meth c S hr hlk hxt hI ls hl
  have hl : lv_has ls 4 [(0, .ref (gB G 0)), (1, .int v1), (2, .ref (gB G 8))] := hl
  refine lv_aload_n S.1 S.2.1 dL_promisesOn_0 rfl (lv_at hl 2 rfl) ?_
  refine lv_iconst (v := 0) S.1 S.2.1 dL_promisesOn_1 (by decide) ?_
  refine lv_aload_n S.1 S.2.1 dL_promisesOn_2 rfl (lv_at hl 0 rfl) ?_
  refine lv_iload_n S.1 S.2.1 dL_promisesOn_3 rfl (lv_at hl 1 rfl) ?_
  refine cl_i hI (rnV (As := [.int v1]) (rest := [.int 0, .ref (gB G 8)]) S hI h (cw_L_X3_promisesOn S.2.2.2.2 ⟨by show d + 1 ≤ 9; omega, by show _ ≤ 36 * 9; omega⟩) (rcX hI) rfl hl.1 (Nat.le_of_ble_eq_true rfl) dL_promisesOn_4 ⟨Nat.le_of_ble_eq_true rfl, Nat.le_of_ble_eq_true rfl⟩) (fun r1 σ1 H locs hq1 hI => ?_)
  refine lv_i2l (v := r1.toInt64) S.1 S.2.1 dL_promisesOn_7 rfl ?_
  refine s_out S hI dL_promisesOn_8 (fun H locs hI => ?_)
  refine lv_goto (tgt := 15) S.1 S.2.1 dL_promisesOn_9 (by decide) ?_
  refine lv_iconst (v := 0) S.1 S.2.1 dL_promisesOn_15 (by decide) ?_
  exact xt_i S hI hr hlk (⟨rfl, _, _, hq1, rfl⟩) (by decide) (by decide) dL_promisesOn_16
set_option maxRecDepth 100000 in
set_option maxHeartbeats 4000000 in
theorem wx_promisesOn_1 (l : Launch) (G : Gt) (σ : St) (v1 : Int32) {d : Nat} (hd : d ≤ 8) (h : CtX l G yX3_promisesOn cX3_promisesOn 8 (some .int) d [.ref (gB G 0), .int v1] σ (NoI G) ioX) : CtL l G yL_promisesOn cL_promisesOn 4 [(0, 9, 12, 13)] 9 [.ref (gB G 0), .int v1, .ref (gB G 8)] σ (Qi G (fun r σ' => r = 1 ∧ σ' = σ)) := by
  refine ml_intro (by decide +kernel) (Nat.le_of_ble_eq_true rfl) ?_
  intro p e s m below meth c S hr hlk hxt hI ls hl
  have hl : lv_has ls 4 [(0, .ref (gB G 0)), (1, .int v1), (2, .ref (gB G 8))] := hl
  refine lv_aload_n S.1 S.2.1 dL_promisesOn_0 rfl (lv_at hl 2 rfl) ?_
  refine lv_iconst (v := 0) S.1 S.2.1 dL_promisesOn_1 (by decide) ?_
  refine lv_aload_n S.1 S.2.1 dL_promisesOn_2 rfl (lv_at hl 0 rfl) ?_
  refine lv_iload_n S.1 S.2.1 dL_promisesOn_3 rfl (lv_at hl 1 rfl) ?_
  refine lw_bad (As := [.int v1]) (rest := [.int 0, .ref (gB G 8)]) S hI h (cw_L_X3_promisesOn S.2.2.2.2 ⟨by show d + 1 ≤ 9; omega, by show _ ≤ 36 * 9; omega⟩) rfl hl.1 (Nat.le_of_ble_eq_true rfl) dL_promisesOn_4 ⟨Nat.le_of_ble_eq_true rfl, Nat.le_of_ble_eq_true rfl⟩ [] ⟨0, 9, 12, 13⟩ [] hxt (fun _ h9 => nomatch h9) (by decide) (by decide) lw_k13 lw_c13 (fun q9 H locs hI => ?_)
  refine lv_astore_n (lv' := [(3, .ref q9), (0, .ref (gB G 0)), (1, .int v1), (2, .ref (gB G 8))]) S.1 S.2.1 dL_promisesOn_12 rfl hl (by decide) rfl (fun ls hl => ?_)
  refine lv_iconst (v := 1) S.1 S.2.1 dL_promisesOn_13 (by decide) ?_
  exact xt_i S hI hr hlk (⟨rfl, rfl⟩) (by decide) (by decide) dL_promisesOn_14
set_option maxRecDepth 100000 in
set_option maxHeartbeats 4000000 in
theorem w_makerOf (l : Launch) (G : Gt) (σ : St) {P : Int32 → St → Prop} (v1 : Int32) {d : Nat} (hd : d ≤ 8) (h : Ct l G yX3_makerOf cX3_makerOf 2 (some .int) d 0 0 [.ref (gB G 0), .int v1] σ (Qi G P)) : CtL l G yL_makerOf cL_makerOf 4 [(0, 9, 12, 13)] 9 [.ref (gB G 0), .int v1, .ref (gB G 8)] σ (Qi G (fun r σ' => r = 0 ∧ ∃ v σ1, P v σ1 ∧ σ' = setO σ1 v.toInt64)) := by
  refine ml_intro (by decide +kernel) (Nat.le_of_ble_eq_true rfl) ?_
  intro p e s m below meth c S hr hlk hxt hI ls hl
  have hl : lv_has ls 4 [(0, .ref (gB G 0)), (1, .int v1), (2, .ref (gB G 8))] := hl
  refine lv_aload_n S.1 S.2.1 dL_makerOf_0 rfl (lv_at hl 2 rfl) ?_
  refine lv_iconst (v := 0) S.1 S.2.1 dL_makerOf_1 (by decide) ?_
  refine lv_aload_n S.1 S.2.1 dL_makerOf_2 rfl (lv_at hl 0 rfl) ?_
  refine lv_iload_n S.1 S.2.1 dL_makerOf_3 rfl (lv_at hl 1 rfl) ?_
  refine cl_i hI (rnV (As := [.int v1]) (rest := [.int 0, .ref (gB G 8)]) S hI h (cw_L_X3_makerOf S.2.2.2.2 ⟨by show d + 1 ≤ 9; omega, by show _ ≤ 36 * 9; omega⟩) (rcX hI) rfl hl.1 (Nat.le_of_ble_eq_true rfl) dL_makerOf_4 ⟨Nat.le_of_ble_eq_true rfl, Nat.le_of_ble_eq_true rfl⟩) (fun r1 σ1 H locs hq1 hI => ?_)
  refine lv_i2l (v := r1.toInt64) S.1 S.2.1 dL_makerOf_7 rfl ?_
  refine s_out S hI dL_makerOf_8 (fun H locs hI => ?_)
  refine lv_goto (tgt := 15) S.1 S.2.1 dL_makerOf_9 (by decide) ?_
  refine lv_iconst (v := 0) S.1 S.2.1 dL_makerOf_15 (by decide) ?_
  exact xt_i S hI hr hlk (⟨rfl, _, _, hq1, rfl⟩) (by decide) (by decide) dL_makerOf_16
set_option maxRecDepth 100000 in
set_option maxHeartbeats 4000000 in
theorem wx_makerOf_1 (l : Launch) (G : Gt) (σ : St) (v1 : Int32) {d : Nat} (hd : d ≤ 8) (h : CtX l G yX3_makerOf cX3_makerOf 2 (some .int) d [.ref (gB G 0), .int v1] σ (NoI G) ioX) : CtL l G yL_makerOf cL_makerOf 4 [(0, 9, 12, 13)] 9 [.ref (gB G 0), .int v1, .ref (gB G 8)] σ (Qi G (fun r σ' => r = 1 ∧ σ' = σ)) := by
  refine ml_intro (by decide +kernel) (Nat.le_of_ble_eq_true rfl) ?_
  intro p e s m below meth c S hr hlk hxt hI ls hl
  have hl : lv_has ls 4 [(0, .ref (gB G 0)), (1, .int v1), (2, .ref (gB G 8))] := hl
  refine lv_aload_n S.1 S.2.1 dL_makerOf_0 rfl (lv_at hl 2 rfl) ?_
  refine lv_iconst (v := 0) S.1 S.2.1 dL_makerOf_1 (by decide) ?_
  refine lv_aload_n S.1 S.2.1 dL_makerOf_2 rfl (lv_at hl 0 rfl) ?_
  refine lv_iload_n S.1 S.2.1 dL_makerOf_3 rfl (lv_at hl 1 rfl) ?_
  refine lw_bad (As := [.int v1]) (rest := [.int 0, .ref (gB G 8)]) S hI h (cw_L_X3_makerOf S.2.2.2.2 ⟨by show d + 1 ≤ 9; omega, by show _ ≤ 36 * 9; omega⟩) rfl hl.1 (Nat.le_of_ble_eq_true rfl) dL_makerOf_4 ⟨Nat.le_of_ble_eq_true rfl, Nat.le_of_ble_eq_true rfl⟩ [] ⟨0, 9, 12, 13⟩ [] hxt (fun _ h9 => nomatch h9) (by decide) (by decide) lw_k13 lw_c13 (fun q9 H locs hI => ?_)
  refine lv_astore_n (lv' := [(3, .ref q9), (0, .ref (gB G 0)), (1, .int v1), (2, .ref (gB G 8))]) S.1 S.2.1 dL_makerOf_12 rfl hl (by decide) rfl (fun ls hl => ?_)
  refine lv_iconst (v := 1) S.1 S.2.1 dL_makerOf_13 (by decide) ?_
  exact xt_i S hI hr hlk (⟨rfl, rfl⟩) (by decide) (by decide) dL_makerOf_14
set_option maxRecDepth 100000 in
set_option maxHeartbeats 4000000 in
theorem w_shelfOf (l : Launch) (G : Gt) (σ : St) {P : Int32 → St → Prop} (v1 : Int32) {d : Nat} (hd : d ≤ 8) (h : Ct l G yX3_shelfOf cX3_shelfOf 3 (some .int) d 0 0 [.ref (gB G 0), .int v1] σ (Qi G P)) : CtL l G yL_shelfOf cL_shelfOf 4 [(0, 9, 12, 13)] 9 [.ref (gB G 0), .int v1, .ref (gB G 8)] σ (Qi G (fun r σ' => r = 0 ∧ ∃ v σ1, P v σ1 ∧ σ' = setO σ1 v.toInt64)) := by
  refine ml_intro (by decide +kernel) (Nat.le_of_ble_eq_true rfl) ?_
  intro p e s m below meth c S hr hlk hxt hI ls hl
  have hl : lv_has ls 4 [(0, .ref (gB G 0)), (1, .int v1), (2, .ref (gB G 8))] := hl
  refine lv_aload_n S.1 S.2.1 dL_shelfOf_0 rfl (lv_at hl 2 rfl) ?_
  refine lv_iconst (v := 0) S.1 S.2.1 dL_shelfOf_1 (by decide) ?_
  refine lv_aload_n S.1 S.2.1 dL_shelfOf_2 rfl (lv_at hl 0 rfl) ?_
  refine lv_iload_n S.1 S.2.1 dL_shelfOf_3 rfl (lv_at hl 1 rfl) ?_
  refine cl_i hI (rnV (As := [.int v1]) (rest := [.int 0, .ref (gB G 8)]) S hI h (cw_L_X3_shelfOf S.2.2.2.2 ⟨by show d + 1 ≤ 9; omega, by show _ ≤ 36 * 9; omega⟩) (rcX hI) rfl hl.1 (Nat.le_of_ble_eq_true rfl) dL_shelfOf_4 ⟨Nat.le_of_ble_eq_true rfl, Nat.le_of_ble_eq_true rfl⟩) (fun r1 σ1 H locs hq1 hI => ?_)
  refine lv_i2l (v := r1.toInt64) S.1 S.2.1 dL_shelfOf_7 rfl ?_
  refine s_out S hI dL_shelfOf_8 (fun H locs hI => ?_)
  refine lv_goto (tgt := 15) S.1 S.2.1 dL_shelfOf_9 (by decide) ?_
  refine lv_iconst (v := 0) S.1 S.2.1 dL_shelfOf_15 (by decide) ?_
  exact xt_i S hI hr hlk (⟨rfl, _, _, hq1, rfl⟩) (by decide) (by decide) dL_shelfOf_16
set_option maxRecDepth 100000 in
set_option maxHeartbeats 4000000 in
theorem wx_shelfOf_1 (l : Launch) (G : Gt) (σ : St) (v1 : Int32) {d : Nat} (hd : d ≤ 8) (h : CtX l G yX3_shelfOf cX3_shelfOf 3 (some .int) d [.ref (gB G 0), .int v1] σ (NoI G) ioX) : CtL l G yL_shelfOf cL_shelfOf 4 [(0, 9, 12, 13)] 9 [.ref (gB G 0), .int v1, .ref (gB G 8)] σ (Qi G (fun r σ' => r = 1 ∧ σ' = σ)) := by
  refine ml_intro (by decide +kernel) (Nat.le_of_ble_eq_true rfl) ?_
  intro p e s m below meth c S hr hlk hxt hI ls hl
  have hl : lv_has ls 4 [(0, .ref (gB G 0)), (1, .int v1), (2, .ref (gB G 8))] := hl
  refine lv_aload_n S.1 S.2.1 dL_shelfOf_0 rfl (lv_at hl 2 rfl) ?_
  refine lv_iconst (v := 0) S.1 S.2.1 dL_shelfOf_1 (by decide) ?_
  refine lv_aload_n S.1 S.2.1 dL_shelfOf_2 rfl (lv_at hl 0 rfl) ?_
  refine lv_iload_n S.1 S.2.1 dL_shelfOf_3 rfl (lv_at hl 1 rfl) ?_
  refine lw_bad (As := [.int v1]) (rest := [.int 0, .ref (gB G 8)]) S hI h (cw_L_X3_shelfOf S.2.2.2.2 ⟨by show d + 1 ≤ 9; omega, by show _ ≤ 36 * 9; omega⟩) rfl hl.1 (Nat.le_of_ble_eq_true rfl) dL_shelfOf_4 ⟨Nat.le_of_ble_eq_true rfl, Nat.le_of_ble_eq_true rfl⟩ [] ⟨0, 9, 12, 13⟩ [] hxt (fun _ h9 => nomatch h9) (by decide) (by decide) lw_k13 lw_c13 (fun q9 H locs hI => ?_)
  refine lv_astore_n (lv' := [(3, .ref q9), (0, .ref (gB G 0)), (1, .int v1), (2, .ref (gB G 8))]) S.1 S.2.1 dL_shelfOf_12 rfl hl (by decide) rfl (fun ls hl => ?_)
  refine lv_iconst (v := 1) S.1 S.2.1 dL_shelfOf_13 (by decide) ?_
  exact xt_i S hI hr hlk (⟨rfl, rfl⟩) (by decide) (by decide) dL_shelfOf_14
set_option maxRecDepth 100000 in
set_option maxHeartbeats 4000000 in
theorem w_heatOf (l : Launch) (G : Gt) (σ : St) {P : Int32 → St → Prop} (v1 : Int32) {d : Nat} (hd : d ≤ 8) (h : Ct l G yX3_heatOf cX3_heatOf 2 (some .int) d 0 0 [.ref (gB G 0), .int v1] σ (Qi G P)) : CtL l G yL_heatOf cL_heatOf 4 [(0, 9, 12, 13)] 9 [.ref (gB G 0), .int v1, .ref (gB G 8)] σ (Qi G (fun r σ' => r = 0 ∧ ∃ v σ1, P v σ1 ∧ σ' = setO σ1 v.toInt64)) := by
  refine ml_intro (by decide +kernel) (Nat.le_of_ble_eq_true rfl) ?_
  intro p e s m below meth c S hr hlk hxt hI ls hl
  have hl : lv_has ls 4 [(0, .ref (gB G 0)), (1, .int v1), (2, .ref (gB G 8))] := hl
  refine lv_aload_n S.1 S.2.1 dL_heatOf_0 rfl (lv_at hl 2 rfl) ?_
  refine lv_iconst (v := 0) S.1 S.2.1 dL_heatOf_1 (by decide) ?_
  refine lv_aload_n S.1 S.2.1 dL_heatOf_2 rfl (lv_at hl 0 rfl) ?_
  refine lv_iload_n S.1 S.2.1 dL_heatOf_3 rfl (lv_at hl 1 rfl) ?_
  refine cl_i hI (rnV (As := [.int v1]) (rest := [.int 0, .ref (gB G 8)]) S hI h (cw_L_X3_heatOf S.2.2.2.2 ⟨by show d + 1 ≤ 9; omega, by show _ ≤ 36 * 9; omega⟩) (rcX hI) rfl hl.1 (Nat.le_of_ble_eq_true rfl) dL_heatOf_4 ⟨Nat.le_of_ble_eq_true rfl, Nat.le_of_ble_eq_true rfl⟩) (fun r1 σ1 H locs hq1 hI => ?_)
  refine lv_i2l (v := r1.toInt64) S.1 S.2.1 dL_heatOf_7 rfl ?_
  refine s_out S hI dL_heatOf_8 (fun H locs hI => ?_)
  refine lv_goto (tgt := 15) S.1 S.2.1 dL_heatOf_9 (by decide) ?_
  refine lv_iconst (v := 0) S.1 S.2.1 dL_heatOf_15 (by decide) ?_
  exact xt_i S hI hr hlk (⟨rfl, _, _, hq1, rfl⟩) (by decide) (by decide) dL_heatOf_16
set_option maxRecDepth 100000 in
set_option maxHeartbeats 4000000 in
theorem wx_heatOf_1 (l : Launch) (G : Gt) (σ : St) (v1 : Int32) {d : Nat} (hd : d ≤ 8) (h : CtX l G yX3_heatOf cX3_heatOf 2 (some .int) d [.ref (gB G 0), .int v1] σ (NoI G) ioX) : CtL l G yL_heatOf cL_heatOf 4 [(0, 9, 12, 13)] 9 [.ref (gB G 0), .int v1, .ref (gB G 8)] σ (Qi G (fun r σ' => r = 1 ∧ σ' = σ)) := by
  refine ml_intro (by decide +kernel) (Nat.le_of_ble_eq_true rfl) ?_
  intro p e s m below meth c S hr hlk hxt hI ls hl
  have hl : lv_has ls 4 [(0, .ref (gB G 0)), (1, .int v1), (2, .ref (gB G 8))] := hl
  refine lv_aload_n S.1 S.2.1 dL_heatOf_0 rfl (lv_at hl 2 rfl) ?_
  refine lv_iconst (v := 0) S.1 S.2.1 dL_heatOf_1 (by decide) ?_
  refine lv_aload_n S.1 S.2.1 dL_heatOf_2 rfl (lv_at hl 0 rfl) ?_
  refine lv_iload_n S.1 S.2.1 dL_heatOf_3 rfl (lv_at hl 1 rfl) ?_
  refine lw_bad (As := [.int v1]) (rest := [.int 0, .ref (gB G 8)]) S hI h (cw_L_X3_heatOf S.2.2.2.2 ⟨by show d + 1 ≤ 9; omega, by show _ ≤ 36 * 9; omega⟩) rfl hl.1 (Nat.le_of_ble_eq_true rfl) dL_heatOf_4 ⟨Nat.le_of_ble_eq_true rfl, Nat.le_of_ble_eq_true rfl⟩ [] ⟨0, 9, 12, 13⟩ [] hxt (fun _ h9 => nomatch h9) (by decide) (by decide) lw_k13 lw_c13 (fun q9 H locs hI => ?_)
  refine lv_astore_n (lv' := [(3, .ref q9), (0, .ref (gB G 0)), (1, .int v1), (2, .ref (gB G 8))]) S.1 S.2.1 dL_heatOf_12 rfl hl (by decide) rfl (fun ls hl => ?_)
  refine lv_iconst (v := 1) S.1 S.2.1 dL_heatOf_13 (by decide) ?_
  exact xt_i S hI hr hlk (⟨rfl, rfl⟩) (by decide) (by decide) dL_heatOf_14
set_option maxRecDepth 100000 in
set_option maxHeartbeats 4000000 in
theorem w_ageOf (l : Launch) (G : Gt) (σ : St) {P : Int32 → St → Prop} (v1 : Int32) {d : Nat} (hd : d ≤ 8) (h : Ct l G yX3_ageOf cX3_ageOf 2 (some .int) d 0 0 [.ref (gB G 0), .int v1] σ (Qi G P)) : CtL l G yL_ageOf cL_ageOf 4 [(0, 9, 12, 13)] 9 [.ref (gB G 0), .int v1, .ref (gB G 8)] σ (Qi G (fun r σ' => r = 0 ∧ ∃ v σ1, P v σ1 ∧ σ' = setO σ1 v.toInt64)) := by
  refine ml_intro (by decide +kernel) (Nat.le_of_ble_eq_true rfl) ?_
  intro p e s m below meth c S hr hlk hxt hI ls hl
  have hl : lv_has ls 4 [(0, .ref (gB G 0)), (1, .int v1), (2, .ref (gB G 8))] := hl
  refine lv_aload_n S.1 S.2.1 dL_ageOf_0 rfl (lv_at hl 2 rfl) ?_
  refine lv_iconst (v := 0) S.1 S.2.1 dL_ageOf_1 (by decide) ?_
  refine lv_aload_n S.1 S.2.1 dL_ageOf_2 rfl (lv_at hl 0 rfl) ?_
  refine lv_iload_n S.1 S.2.1 dL_ageOf_3 rfl (lv_at hl 1 rfl) ?_
  refine cl_i hI (rnV (As := [.int v1]) (rest := [.int 0, .ref (gB G 8)]) S hI h (cw_L_X3_ageOf S.2.2.2.2 ⟨by show d + 1 ≤ 9; omega, by show _ ≤ 36 * 9; omega⟩) (rcX hI) rfl hl.1 (Nat.le_of_ble_eq_true rfl) dL_ageOf_4 ⟨Nat.le_of_ble_eq_true rfl, Nat.le_of_ble_eq_true rfl⟩) (fun r1 σ1 H locs hq1 hI => ?_)
  refine lv_i2l (v := r1.toInt64) S.1 S.2.1 dL_ageOf_7 rfl ?_
  refine s_out S hI dL_ageOf_8 (fun H locs hI => ?_)
  refine lv_goto (tgt := 15) S.1 S.2.1 dL_ageOf_9 (by decide) ?_
  refine lv_iconst (v := 0) S.1 S.2.1 dL_ageOf_15 (by decide) ?_
  exact xt_i S hI hr hlk (⟨rfl, _, _, hq1, rfl⟩) (by decide) (by decide) dL_ageOf_16
set_option maxRecDepth 100000 in
set_option maxHeartbeats 4000000 in
theorem wx_ageOf_1 (l : Launch) (G : Gt) (σ : St) (v1 : Int32) {d : Nat} (hd : d ≤ 8) (h : CtX l G yX3_ageOf cX3_ageOf 2 (some .int) d [.ref (gB G 0), .int v1] σ (NoI G) ioX) : CtL l G yL_ageOf cL_ageOf 4 [(0, 9, 12, 13)] 9 [.ref (gB G 0), .int v1, .ref (gB G 8)] σ (Qi G (fun r σ' => r = 1 ∧ σ' = σ)) := by
  refine ml_intro (by decide +kernel) (Nat.le_of_ble_eq_true rfl) ?_
  intro p e s m below meth c S hr hlk hxt hI ls hl
  have hl : lv_has ls 4 [(0, .ref (gB G 0)), (1, .int v1), (2, .ref (gB G 8))] := hl
  refine lv_aload_n S.1 S.2.1 dL_ageOf_0 rfl (lv_at hl 2 rfl) ?_
  refine lv_iconst (v := 0) S.1 S.2.1 dL_ageOf_1 (by decide) ?_
  refine lv_aload_n S.1 S.2.1 dL_ageOf_2 rfl (lv_at hl 0 rfl) ?_
  refine lv_iload_n S.1 S.2.1 dL_ageOf_3 rfl (lv_at hl 1 rfl) ?_
  refine lw_bad (As := [.int v1]) (rest := [.int 0, .ref (gB G 8)]) S hI h (cw_L_X3_ageOf S.2.2.2.2 ⟨by show d + 1 ≤ 9; omega, by show _ ≤ 36 * 9; omega⟩) rfl hl.1 (Nat.le_of_ble_eq_true rfl) dL_ageOf_4 ⟨Nat.le_of_ble_eq_true rfl, Nat.le_of_ble_eq_true rfl⟩ [] ⟨0, 9, 12, 13⟩ [] hxt (fun _ h9 => nomatch h9) (by decide) (by decide) lw_k13 lw_c13 (fun q9 H locs hI => ?_)
  refine lv_astore_n (lv' := [(3, .ref q9), (0, .ref (gB G 0)), (1, .int v1), (2, .ref (gB G 8))]) S.1 S.2.1 dL_ageOf_12 rfl hl (by decide) rfl (fun ls hl => ?_)
  refine lv_iconst (v := 1) S.1 S.2.1 dL_ageOf_13 (by decide) ?_
  exact xt_i S hI hr hlk (⟨rfl, rfl⟩) (by decide) (by decide) dL_ageOf_14
set_option maxRecDepth 100000 in
set_option maxHeartbeats 4000000 in
theorem w_hoursLeft (l : Launch) (G : Gt) (σ : St) {P : Int32 → St → Prop} (v1 : Int32) {d : Nat} (hd : d ≤ 8) (h : Ct l G yX3_hoursLeft cX3_hoursLeft 3 (some .int) d 0 0 [.ref (gB G 0), .int v1] σ (Qi G P)) : CtL l G yL_hoursLeft cL_hoursLeft 4 [(0, 9, 12, 13)] 9 [.ref (gB G 0), .int v1, .ref (gB G 8)] σ (Qi G (fun r σ' => r = 0 ∧ ∃ v σ1, P v σ1 ∧ σ' = setO σ1 v.toInt64)) := by
  refine ml_intro (by decide +kernel) (Nat.le_of_ble_eq_true rfl) ?_
  intro p e s m below meth c S hr hlk hxt hI ls hl
  have hl : lv_has ls 4 [(0, .ref (gB G 0)), (1, .int v1), (2, .ref (gB G 8))] := hl
  refine lv_aload_n S.1 S.2.1 dL_hoursLeft_0 rfl (lv_at hl 2 rfl) ?_
  refine lv_iconst (v := 0) S.1 S.2.1 dL_hoursLeft_1 (by decide) ?_
  refine lv_aload_n S.1 S.2.1 dL_hoursLeft_2 rfl (lv_at hl 0 rfl) ?_
  refine lv_iload_n S.1 S.2.1 dL_hoursLeft_3 rfl (lv_at hl 1 rfl) ?_
  refine cl_i hI (rnV (As := [.int v1]) (rest := [.int 0, .ref (gB G 8)]) S hI h (cw_L_X3_hoursLeft S.2.2.2.2 ⟨by show d + 1 ≤ 9; omega, by show _ ≤ 36 * 9; omega⟩) (rcX hI) rfl hl.1 (Nat.le_of_ble_eq_true rfl) dL_hoursLeft_4 ⟨Nat.le_of_ble_eq_true rfl, Nat.le_of_ble_eq_true rfl⟩) (fun r1 σ1 H locs hq1 hI => ?_)
  refine lv_i2l (v := r1.toInt64) S.1 S.2.1 dL_hoursLeft_7 rfl ?_
  refine s_out S hI dL_hoursLeft_8 (fun H locs hI => ?_)
  refine lv_goto (tgt := 15) S.1 S.2.1 dL_hoursLeft_9 (by decide) ?_
  refine lv_iconst (v := 0) S.1 S.2.1 dL_hoursLeft_15 (by decide) ?_
  exact xt_i S hI hr hlk (⟨rfl, _, _, hq1, rfl⟩) (by decide) (by decide) dL_hoursLeft_16
set_option maxRecDepth 100000 in
set_option maxHeartbeats 4000000 in
theorem wx_hoursLeft_1 (l : Launch) (G : Gt) (σ : St) (v1 : Int32) {d : Nat} (hd : d ≤ 8) (h : CtX l G yX3_hoursLeft cX3_hoursLeft 3 (some .int) d [.ref (gB G 0), .int v1] σ (NoI G) ioX) : CtL l G yL_hoursLeft cL_hoursLeft 4 [(0, 9, 12, 13)] 9 [.ref (gB G 0), .int v1, .ref (gB G 8)] σ (Qi G (fun r σ' => r = 1 ∧ σ' = σ)) := by
  refine ml_intro (by decide +kernel) (Nat.le_of_ble_eq_true rfl) ?_
  intro p e s m below meth c S hr hlk hxt hI ls hl
  have hl : lv_has ls 4 [(0, .ref (gB G 0)), (1, .int v1), (2, .ref (gB G 8))] := hl
  refine lv_aload_n S.1 S.2.1 dL_hoursLeft_0 rfl (lv_at hl 2 rfl) ?_
  refine lv_iconst (v := 0) S.1 S.2.1 dL_hoursLeft_1 (by decide) ?_
  refine lv_aload_n S.1 S.2.1 dL_hoursLeft_2 rfl (lv_at hl 0 rfl) ?_
  refine lv_iload_n S.1 S.2.1 dL_hoursLeft_3 rfl (lv_at hl 1 rfl) ?_
  refine lw_bad (As := [.int v1]) (rest := [.int 0, .ref (gB G 8)]) S hI h (cw_L_X3_hoursLeft S.2.2.2.2 ⟨by show d + 1 ≤ 9; omega, by show _ ≤ 36 * 9; omega⟩) rfl hl.1 (Nat.le_of_ble_eq_true rfl) dL_hoursLeft_4 ⟨Nat.le_of_ble_eq_true rfl, Nat.le_of_ble_eq_true rfl⟩ [] ⟨0, 9, 12, 13⟩ [] hxt (fun _ h9 => nomatch h9) (by decide) (by decide) lw_k13 lw_c13 (fun q9 H locs hI => ?_)
  refine lv_astore_n (lv' := [(3, .ref q9), (0, .ref (gB G 0)), (1, .int v1), (2, .ref (gB G 8))]) S.1 S.2.1 dL_hoursLeft_12 rfl hl (by decide) rfl (fun ls hl => ?_)
  refine lv_iconst (v := 1) S.1 S.2.1 dL_hoursLeft_13 (by decide) ?_
  exact xt_i S hI hr hlk (⟨rfl, rfl⟩) (by decide) (by decide) dL_hoursLeft_14
set_option maxRecDepth 100000 in
set_option maxHeartbeats 4000000 in
theorem w_isFrozen (l : Launch) (G : Gt) (σ : St) {P : Int32 → St → Prop} (v1 : Int32) {d : Nat} (hd : d ≤ 8) (h : Ct l G yX3_isFrozen cX3_isFrozen 2 (some .boolean) d 0 0 [.ref (gB G 0), .int v1] σ (Qi G P)) (hb : ∀ v σ1, P v σ1 → v = 0 ∨ v = 1) : CtL l G yL_isFrozen cL_isFrozen 4 [(0, 16, 19, 13)] 9 [.ref (gB G 0), .int v1, .ref (gB G 8)] σ (Qi G (fun r σ' => r = 0 ∧ ∃ v σ1, P v σ1 ∧ σ' = setO σ1 v.toInt64)) := by
  refine ml_intro (by decide +kernel) (Nat.le_of_ble_eq_true rfl) ?_
  intro p e s m below meth c S hr hlk hxt hI ls hl
  have hl : lv_has ls 4 [(0, .ref (gB G 0)), (1, .int v1), (2, .ref (gB G 8))] := hl
  refine lv_aload_n S.1 S.2.1 dL_isFrozen_0 rfl (lv_at hl 2 rfl) ?_
  refine lv_iconst (v := 0) S.1 S.2.1 dL_isFrozen_1 (by decide) ?_
  refine lv_aload_n S.1 S.2.1 dL_isFrozen_2 rfl (lv_at hl 0 rfl) ?_
  refine lv_iload_n S.1 S.2.1 dL_isFrozen_3 rfl (lv_at hl 1 rfl) ?_
  refine cl_i hI (rnV (As := [.int v1]) (rest := [.int 0, .ref (gB G 8)]) S hI h (cw_L_X3_isFrozen S.2.2.2.2 ⟨by show d + 1 ≤ 9; omega, by show _ ≤ 36 * 9; omega⟩) (rcX hI) rfl hl.1 (Nat.le_of_ble_eq_true rfl) dL_isFrozen_4 ⟨Nat.le_of_ble_eq_true rfl, Nat.le_of_ble_eq_true rfl⟩) (fun r1 σ1 H locs hq1 hI => ?_)
  refine lv_if_eq (tgt := 14) S.1 S.2.1 dL_isFrozen_7 (by decide) (fun cz_7 => ?_) (fun cz_7 => ?_)
  · refine lv_lconst (v := 0) S.1 S.2.1 dL_isFrozen_14 rfl ?_
    refine s_out S hI dL_isFrozen_15 (fun H locs hI => ?_)
    refine lv_goto (tgt := 22) S.1 S.2.1 dL_isFrozen_16 (by decide) ?_
    refine lv_iconst (v := 0) S.1 S.2.1 dL_isFrozen_22 (by decide) ?_
    exact xt_i S hI hr hlk (⟨rfl, _, _, hq1, by rw [cz_7]; rfl⟩) (by decide) (by decide) dL_isFrozen_23
  · refine lv_lconst (v := 1) S.1 S.2.1 dL_isFrozen_10 rfl ?_
    refine lv_goto (tgt := 15) S.1 S.2.1 dL_isFrozen_11 (by decide) ?_
    refine s_out S hI dL_isFrozen_15 (fun H locs hI => ?_)
    refine lv_goto (tgt := 22) S.1 S.2.1 dL_isFrozen_16 (by decide) ?_
    refine lv_iconst (v := 0) S.1 S.2.1 dL_isFrozen_22 (by decide) ?_
    exact xt_i S hI hr hlk (⟨rfl, _, _, hq1, by rcases hb _ _ hq1 with e9 | e9; exact absurd e9 cz_7; rw [e9]; rfl⟩) (by decide) (by decide) dL_isFrozen_23
set_option maxRecDepth 100000 in
set_option maxHeartbeats 4000000 in
theorem wx_isFrozen_1 (l : Launch) (G : Gt) (σ : St) (v1 : Int32) {d : Nat} (hd : d ≤ 8) (h : CtX l G yX3_isFrozen cX3_isFrozen 2 (some .boolean) d [.ref (gB G 0), .int v1] σ (NoI G) ioX) : CtL l G yL_isFrozen cL_isFrozen 4 [(0, 16, 19, 13)] 9 [.ref (gB G 0), .int v1, .ref (gB G 8)] σ (Qi G (fun r σ' => r = 1 ∧ σ' = σ)) := by
  refine ml_intro (by decide +kernel) (Nat.le_of_ble_eq_true rfl) ?_
  intro p e s m below meth c S hr hlk hxt hI ls hl
  have hl : lv_has ls 4 [(0, .ref (gB G 0)), (1, .int v1), (2, .ref (gB G 8))] := hl
  refine lv_aload_n S.1 S.2.1 dL_isFrozen_0 rfl (lv_at hl 2 rfl) ?_
  refine lv_iconst (v := 0) S.1 S.2.1 dL_isFrozen_1 (by decide) ?_
  refine lv_aload_n S.1 S.2.1 dL_isFrozen_2 rfl (lv_at hl 0 rfl) ?_
  refine lv_iload_n S.1 S.2.1 dL_isFrozen_3 rfl (lv_at hl 1 rfl) ?_
  refine lw_bad (As := [.int v1]) (rest := [.int 0, .ref (gB G 8)]) S hI h (cw_L_X3_isFrozen S.2.2.2.2 ⟨by show d + 1 ≤ 9; omega, by show _ ≤ 36 * 9; omega⟩) rfl hl.1 (Nat.le_of_ble_eq_true rfl) dL_isFrozen_4 ⟨Nat.le_of_ble_eq_true rfl, Nat.le_of_ble_eq_true rfl⟩ [] ⟨0, 16, 19, 13⟩ [] hxt (fun _ h9 => nomatch h9) (by decide) (by decide) lw_k13 lw_c13 (fun q9 H locs hI => ?_)
  refine lv_astore_n (lv' := [(3, .ref q9), (0, .ref (gB G 0)), (1, .int v1), (2, .ref (gB G 8))]) S.1 S.2.1 dL_isFrozen_19 rfl hl (by decide) rfl (fun ls hl => ?_)
  refine lv_iconst (v := 1) S.1 S.2.1 dL_isFrozen_20 (by decide) ?_
  exact xt_i S hI hr hlk (⟨rfl, rfl⟩) (by decide) (by decide) dL_isFrozen_21
set_option maxRecDepth 100000 in
set_option maxHeartbeats 4000000 in
theorem w_isThawed (l : Launch) (G : Gt) (σ : St) {P : Int32 → St → Prop} (v1 : Int32) {d : Nat} (hd : d ≤ 8) (h : Ct l G yX3_isThawed cX3_isThawed 2 (some .boolean) d 0 0 [.ref (gB G 0), .int v1] σ (Qi G P)) (hb : ∀ v σ1, P v σ1 → v = 0 ∨ v = 1) : CtL l G yL_isThawed cL_isThawed 4 [(0, 16, 19, 13)] 9 [.ref (gB G 0), .int v1, .ref (gB G 8)] σ (Qi G (fun r σ' => r = 0 ∧ ∃ v σ1, P v σ1 ∧ σ' = setO σ1 v.toInt64)) := by
  refine ml_intro (by decide +kernel) (Nat.le_of_ble_eq_true rfl) ?_
  intro p e s m below meth c S hr hlk hxt hI ls hl
  have hl : lv_has ls 4 [(0, .ref (gB G 0)), (1, .int v1), (2, .ref (gB G 8))] := hl
  refine lv_aload_n S.1 S.2.1 dL_isThawed_0 rfl (lv_at hl 2 rfl) ?_
  refine lv_iconst (v := 0) S.1 S.2.1 dL_isThawed_1 (by decide) ?_
  refine lv_aload_n S.1 S.2.1 dL_isThawed_2 rfl (lv_at hl 0 rfl) ?_
  refine lv_iload_n S.1 S.2.1 dL_isThawed_3 rfl (lv_at hl 1 rfl) ?_
  refine cl_i hI (rnV (As := [.int v1]) (rest := [.int 0, .ref (gB G 8)]) S hI h (cw_L_X3_isThawed S.2.2.2.2 ⟨by show d + 1 ≤ 9; omega, by show _ ≤ 36 * 9; omega⟩) (rcX hI) rfl hl.1 (Nat.le_of_ble_eq_true rfl) dL_isThawed_4 ⟨Nat.le_of_ble_eq_true rfl, Nat.le_of_ble_eq_true rfl⟩) (fun r1 σ1 H locs hq1 hI => ?_)
  refine lv_if_eq (tgt := 14) S.1 S.2.1 dL_isThawed_7 (by decide) (fun cz_7 => ?_) (fun cz_7 => ?_)
  · refine lv_lconst (v := 0) S.1 S.2.1 dL_isThawed_14 rfl ?_
    refine s_out S hI dL_isThawed_15 (fun H locs hI => ?_)
    refine lv_goto (tgt := 22) S.1 S.2.1 dL_isThawed_16 (by decide) ?_
    refine lv_iconst (v := 0) S.1 S.2.1 dL_isThawed_22 (by decide) ?_
    exact xt_i S hI hr hlk (⟨rfl, _, _, hq1, by rw [cz_7]; rfl⟩) (by decide) (by decide) dL_isThawed_23
  · refine lv_lconst (v := 1) S.1 S.2.1 dL_isThawed_10 rfl ?_
    refine lv_goto (tgt := 15) S.1 S.2.1 dL_isThawed_11 (by decide) ?_
    refine s_out S hI dL_isThawed_15 (fun H locs hI => ?_)
    refine lv_goto (tgt := 22) S.1 S.2.1 dL_isThawed_16 (by decide) ?_
    refine lv_iconst (v := 0) S.1 S.2.1 dL_isThawed_22 (by decide) ?_
    exact xt_i S hI hr hlk (⟨rfl, _, _, hq1, by rcases hb _ _ hq1 with e9 | e9; exact absurd e9 cz_7; rw [e9]; rfl⟩) (by decide) (by decide) dL_isThawed_23
set_option maxRecDepth 100000 in
set_option maxHeartbeats 4000000 in
theorem wx_isThawed_1 (l : Launch) (G : Gt) (σ : St) (v1 : Int32) {d : Nat} (hd : d ≤ 8) (h : CtX l G yX3_isThawed cX3_isThawed 2 (some .boolean) d [.ref (gB G 0), .int v1] σ (NoI G) ioX) : CtL l G yL_isThawed cL_isThawed 4 [(0, 16, 19, 13)] 9 [.ref (gB G 0), .int v1, .ref (gB G 8)] σ (Qi G (fun r σ' => r = 1 ∧ σ' = σ)) := by
  refine ml_intro (by decide +kernel) (Nat.le_of_ble_eq_true rfl) ?_
  intro p e s m below meth c S hr hlk hxt hI ls hl
  have hl : lv_has ls 4 [(0, .ref (gB G 0)), (1, .int v1), (2, .ref (gB G 8))] := hl
  refine lv_aload_n S.1 S.2.1 dL_isThawed_0 rfl (lv_at hl 2 rfl) ?_
  refine lv_iconst (v := 0) S.1 S.2.1 dL_isThawed_1 (by decide) ?_
  refine lv_aload_n S.1 S.2.1 dL_isThawed_2 rfl (lv_at hl 0 rfl) ?_
  refine lv_iload_n S.1 S.2.1 dL_isThawed_3 rfl (lv_at hl 1 rfl) ?_
  refine lw_bad (As := [.int v1]) (rest := [.int 0, .ref (gB G 8)]) S hI h (cw_L_X3_isThawed S.2.2.2.2 ⟨by show d + 1 ≤ 9; omega, by show _ ≤ 36 * 9; omega⟩) rfl hl.1 (Nat.le_of_ble_eq_true rfl) dL_isThawed_4 ⟨Nat.le_of_ble_eq_true rfl, Nat.le_of_ble_eq_true rfl⟩ [] ⟨0, 16, 19, 13⟩ [] hxt (fun _ h9 => nomatch h9) (by decide) (by decide) lw_k13 lw_c13 (fun q9 H locs hI => ?_)
  refine lv_astore_n (lv' := [(3, .ref q9), (0, .ref (gB G 0)), (1, .int v1), (2, .ref (gB G 8))]) S.1 S.2.1 dL_isThawed_19 rfl hl (by decide) rfl (fun ls hl => ?_)
  refine lv_iconst (v := 1) S.1 S.2.1 dL_isThawed_20 (by decide) ?_
  exact xt_i S hI hr hlk (⟨rfl, rfl⟩) (by decide) (by decide) dL_isThawed_21
set_option maxRecDepth 100000 in
set_option maxHeartbeats 4000000 in
theorem w_isKept (l : Launch) (G : Gt) (σ : St) {P : Int32 → St → Prop} (v1 : Int32) {d : Nat} (hd : d ≤ 8) (h : Ct l G yX3_isKept cX3_isKept 2 (some .boolean) d 0 0 [.ref (gB G 0), .int v1] σ (Qi G P)) (hb : ∀ v σ1, P v σ1 → v = 0 ∨ v = 1) : CtL l G yL_isKept cL_isKept 4 [(0, 16, 19, 13)] 9 [.ref (gB G 0), .int v1, .ref (gB G 8)] σ (Qi G (fun r σ' => r = 0 ∧ ∃ v σ1, P v σ1 ∧ σ' = setO σ1 v.toInt64)) := by
  refine ml_intro (by decide +kernel) (Nat.le_of_ble_eq_true rfl) ?_
  intro p e s m below meth c S hr hlk hxt hI ls hl
  have hl : lv_has ls 4 [(0, .ref (gB G 0)), (1, .int v1), (2, .ref (gB G 8))] := hl
  refine lv_aload_n S.1 S.2.1 dL_isKept_0 rfl (lv_at hl 2 rfl) ?_
  refine lv_iconst (v := 0) S.1 S.2.1 dL_isKept_1 (by decide) ?_
  refine lv_aload_n S.1 S.2.1 dL_isKept_2 rfl (lv_at hl 0 rfl) ?_
  refine lv_iload_n S.1 S.2.1 dL_isKept_3 rfl (lv_at hl 1 rfl) ?_
  refine cl_i hI (rnV (As := [.int v1]) (rest := [.int 0, .ref (gB G 8)]) S hI h (cw_L_X3_isKept S.2.2.2.2 ⟨by show d + 1 ≤ 9; omega, by show _ ≤ 36 * 9; omega⟩) (rcX hI) rfl hl.1 (Nat.le_of_ble_eq_true rfl) dL_isKept_4 ⟨Nat.le_of_ble_eq_true rfl, Nat.le_of_ble_eq_true rfl⟩) (fun r1 σ1 H locs hq1 hI => ?_)
  refine lv_if_eq (tgt := 14) S.1 S.2.1 dL_isKept_7 (by decide) (fun cz_7 => ?_) (fun cz_7 => ?_)
  · refine lv_lconst (v := 0) S.1 S.2.1 dL_isKept_14 rfl ?_
    refine s_out S hI dL_isKept_15 (fun H locs hI => ?_)
    refine lv_goto (tgt := 22) S.1 S.2.1 dL_isKept_16 (by decide) ?_
    refine lv_iconst (v := 0) S.1 S.2.1 dL_isKept_22 (by decide) ?_
    exact xt_i S hI hr hlk (⟨rfl, _, _, hq1, by rw [cz_7]; rfl⟩) (by decide) (by decide) dL_isKept_23
  · refine lv_lconst (v := 1) S.1 S.2.1 dL_isKept_10 rfl ?_
    refine lv_goto (tgt := 15) S.1 S.2.1 dL_isKept_11 (by decide) ?_
    refine s_out S hI dL_isKept_15 (fun H locs hI => ?_)
    refine lv_goto (tgt := 22) S.1 S.2.1 dL_isKept_16 (by decide) ?_
    refine lv_iconst (v := 0) S.1 S.2.1 dL_isKept_22 (by decide) ?_
    exact xt_i S hI hr hlk (⟨rfl, _, _, hq1, by rcases hb _ _ hq1 with e9 | e9; exact absurd e9 cz_7; rw [e9]; rfl⟩) (by decide) (by decide) dL_isKept_23
set_option maxRecDepth 100000 in
set_option maxHeartbeats 4000000 in
theorem wx_isKept_1 (l : Launch) (G : Gt) (σ : St) (v1 : Int32) {d : Nat} (hd : d ≤ 8) (h : CtX l G yX3_isKept cX3_isKept 2 (some .boolean) d [.ref (gB G 0), .int v1] σ (NoI G) ioX) : CtL l G yL_isKept cL_isKept 4 [(0, 16, 19, 13)] 9 [.ref (gB G 0), .int v1, .ref (gB G 8)] σ (Qi G (fun r σ' => r = 1 ∧ σ' = σ)) := by
  refine ml_intro (by decide +kernel) (Nat.le_of_ble_eq_true rfl) ?_
  intro p e s m below meth c S hr hlk hxt hI ls hl
  have hl : lv_has ls 4 [(0, .ref (gB G 0)), (1, .int v1), (2, .ref (gB G 8))] := hl
  refine lv_aload_n S.1 S.2.1 dL_isKept_0 rfl (lv_at hl 2 rfl) ?_
  refine lv_iconst (v := 0) S.1 S.2.1 dL_isKept_1 (by decide) ?_
  refine lv_aload_n S.1 S.2.1 dL_isKept_2 rfl (lv_at hl 0 rfl) ?_
  refine lv_iload_n S.1 S.2.1 dL_isKept_3 rfl (lv_at hl 1 rfl) ?_
  refine lw_bad (As := [.int v1]) (rest := [.int 0, .ref (gB G 8)]) S hI h (cw_L_X3_isKept S.2.2.2.2 ⟨by show d + 1 ≤ 9; omega, by show _ ≤ 36 * 9; omega⟩) rfl hl.1 (Nat.le_of_ble_eq_true rfl) dL_isKept_4 ⟨Nat.le_of_ble_eq_true rfl, Nat.le_of_ble_eq_true rfl⟩ [] ⟨0, 16, 19, 13⟩ [] hxt (fun _ h9 => nomatch h9) (by decide) (by decide) lw_k13 lw_c13 (fun q9 H locs hI => ?_)
  refine lv_astore_n (lv' := [(3, .ref q9), (0, .ref (gB G 0)), (1, .int v1), (2, .ref (gB G 8))]) S.1 S.2.1 dL_isKept_19 rfl hl (by decide) rfl (fun ls hl => ?_)
  refine lv_iconst (v := 1) S.1 S.2.1 dL_isKept_20 (by decide) ?_
  exact xt_i S hI hr hlk (⟨rfl, rfl⟩) (by decide) (by decide) dL_isKept_21
set_option maxRecDepth 100000 in
set_option maxHeartbeats 4000000 in
theorem w_isExpired (l : Launch) (G : Gt) (σ : St) {P : Int32 → St → Prop} (v1 : Int32) {d : Nat} (hd : d ≤ 8) (h : Ct l G yX3_isExpired cX3_isExpired 2 (some .boolean) d 0 0 [.ref (gB G 0), .int v1] σ (Qi G P)) (hb : ∀ v σ1, P v σ1 → v = 0 ∨ v = 1) : CtL l G yL_isExpired cL_isExpired 4 [(0, 16, 19, 13)] 9 [.ref (gB G 0), .int v1, .ref (gB G 8)] σ (Qi G (fun r σ' => r = 0 ∧ ∃ v σ1, P v σ1 ∧ σ' = setO σ1 v.toInt64)) := by
  refine ml_intro (by decide +kernel) (Nat.le_of_ble_eq_true rfl) ?_
  intro p e s m below meth c S hr hlk hxt hI ls hl
  have hl : lv_has ls 4 [(0, .ref (gB G 0)), (1, .int v1), (2, .ref (gB G 8))] := hl
  refine lv_aload_n S.1 S.2.1 dL_isExpired_0 rfl (lv_at hl 2 rfl) ?_
  refine lv_iconst (v := 0) S.1 S.2.1 dL_isExpired_1 (by decide) ?_
  refine lv_aload_n S.1 S.2.1 dL_isExpired_2 rfl (lv_at hl 0 rfl) ?_
  refine lv_iload_n S.1 S.2.1 dL_isExpired_3 rfl (lv_at hl 1 rfl) ?_
  refine cl_i hI (rnV (As := [.int v1]) (rest := [.int 0, .ref (gB G 8)]) S hI h (cw_L_X3_isExpired S.2.2.2.2 ⟨by show d + 1 ≤ 9; omega, by show _ ≤ 36 * 9; omega⟩) (rcX hI) rfl hl.1 (Nat.le_of_ble_eq_true rfl) dL_isExpired_4 ⟨Nat.le_of_ble_eq_true rfl, Nat.le_of_ble_eq_true rfl⟩) (fun r1 σ1 H locs hq1 hI => ?_)
  refine lv_if_eq (tgt := 14) S.1 S.2.1 dL_isExpired_7 (by decide) (fun cz_7 => ?_) (fun cz_7 => ?_)
  · refine lv_lconst (v := 0) S.1 S.2.1 dL_isExpired_14 rfl ?_
    refine s_out S hI dL_isExpired_15 (fun H locs hI => ?_)
    refine lv_goto (tgt := 22) S.1 S.2.1 dL_isExpired_16 (by decide) ?_
    refine lv_iconst (v := 0) S.1 S.2.1 dL_isExpired_22 (by decide) ?_
    exact xt_i S hI hr hlk (⟨rfl, _, _, hq1, by rw [cz_7]; rfl⟩) (by decide) (by decide) dL_isExpired_23
  · refine lv_lconst (v := 1) S.1 S.2.1 dL_isExpired_10 rfl ?_
    refine lv_goto (tgt := 15) S.1 S.2.1 dL_isExpired_11 (by decide) ?_
    refine s_out S hI dL_isExpired_15 (fun H locs hI => ?_)
    refine lv_goto (tgt := 22) S.1 S.2.1 dL_isExpired_16 (by decide) ?_
    refine lv_iconst (v := 0) S.1 S.2.1 dL_isExpired_22 (by decide) ?_
    exact xt_i S hI hr hlk (⟨rfl, _, _, hq1, by rcases hb _ _ hq1 with e9 | e9; exact absurd e9 cz_7; rw [e9]; rfl⟩) (by decide) (by decide) dL_isExpired_23
set_option maxRecDepth 100000 in
set_option maxHeartbeats 4000000 in
theorem wx_isExpired_1 (l : Launch) (G : Gt) (σ : St) (v1 : Int32) {d : Nat} (hd : d ≤ 8) (h : CtX l G yX3_isExpired cX3_isExpired 2 (some .boolean) d [.ref (gB G 0), .int v1] σ (NoI G) ioX) : CtL l G yL_isExpired cL_isExpired 4 [(0, 16, 19, 13)] 9 [.ref (gB G 0), .int v1, .ref (gB G 8)] σ (Qi G (fun r σ' => r = 1 ∧ σ' = σ)) := by
  refine ml_intro (by decide +kernel) (Nat.le_of_ble_eq_true rfl) ?_
  intro p e s m below meth c S hr hlk hxt hI ls hl
  have hl : lv_has ls 4 [(0, .ref (gB G 0)), (1, .int v1), (2, .ref (gB G 8))] := hl
  refine lv_aload_n S.1 S.2.1 dL_isExpired_0 rfl (lv_at hl 2 rfl) ?_
  refine lv_iconst (v := 0) S.1 S.2.1 dL_isExpired_1 (by decide) ?_
  refine lv_aload_n S.1 S.2.1 dL_isExpired_2 rfl (lv_at hl 0 rfl) ?_
  refine lv_iload_n S.1 S.2.1 dL_isExpired_3 rfl (lv_at hl 1 rfl) ?_
  refine lw_bad (As := [.int v1]) (rest := [.int 0, .ref (gB G 8)]) S hI h (cw_L_X3_isExpired S.2.2.2.2 ⟨by show d + 1 ≤ 9; omega, by show _ ≤ 36 * 9; omega⟩) rfl hl.1 (Nat.le_of_ble_eq_true rfl) dL_isExpired_4 ⟨Nat.le_of_ble_eq_true rfl, Nat.le_of_ble_eq_true rfl⟩ [] ⟨0, 16, 19, 13⟩ [] hxt (fun _ h9 => nomatch h9) (by decide) (by decide) lw_k13 lw_c13 (fun q9 H locs hI => ?_)
  refine lv_astore_n (lv' := [(3, .ref q9), (0, .ref (gB G 0)), (1, .int v1), (2, .ref (gB G 8))]) S.1 S.2.1 dL_isExpired_19 rfl hl (by decide) rfl (fun ls hl => ?_)
  refine lv_iconst (v := 1) S.1 S.2.1 dL_isExpired_20 (by decide) ?_
  exact xt_i S hI hr hlk (⟨rfl, rfl⟩) (by decide) (by decide) dL_isExpired_21
set_option maxRecDepth 100000 in
set_option maxHeartbeats 4000000 in
theorem w_owedBy (l : Launch) (G : Gt) (σ : St) {P : Int32 → St → Prop} (v1 : Int32) {d : Nat} (hd : d ≤ 8) (h : Ct l G yX3_owedBy cX3_owedBy 7 (some .int) d 0 0 [.ref (gB G 0), .int v1] σ (Qi G P)) : CtL l G yL_owedBy cL_owedBy 4 [(0, 9, 12, 13)] 9 [.ref (gB G 0), .int v1, .ref (gB G 8)] σ (Qi G (fun r σ' => r = 0 ∧ ∃ v σ1, P v σ1 ∧ σ' = setO σ1 v.toInt64)) := by
  refine ml_intro (by decide +kernel) (Nat.le_of_ble_eq_true rfl) ?_
  intro p e s m below meth c S hr hlk hxt hI ls hl
  have hl : lv_has ls 4 [(0, .ref (gB G 0)), (1, .int v1), (2, .ref (gB G 8))] := hl
  refine lv_aload_n S.1 S.2.1 dL_owedBy_0 rfl (lv_at hl 2 rfl) ?_
  refine lv_iconst (v := 0) S.1 S.2.1 dL_owedBy_1 (by decide) ?_
  refine lv_aload_n S.1 S.2.1 dL_owedBy_2 rfl (lv_at hl 0 rfl) ?_
  refine lv_iload_n S.1 S.2.1 dL_owedBy_3 rfl (lv_at hl 1 rfl) ?_
  refine cl_i hI (rnV (As := [.int v1]) (rest := [.int 0, .ref (gB G 8)]) S hI h (cw_L_X3_owedBy S.2.2.2.2 ⟨by show d + 1 ≤ 9; omega, by show _ ≤ 36 * 9; omega⟩) (rcX hI) rfl hl.1 (Nat.le_of_ble_eq_true rfl) dL_owedBy_4 ⟨Nat.le_of_ble_eq_true rfl, Nat.le_of_ble_eq_true rfl⟩) (fun r1 σ1 H locs hq1 hI => ?_)
  refine lv_i2l (v := r1.toInt64) S.1 S.2.1 dL_owedBy_7 rfl ?_
  refine s_out S hI dL_owedBy_8 (fun H locs hI => ?_)
  refine lv_goto (tgt := 15) S.1 S.2.1 dL_owedBy_9 (by decide) ?_
  refine lv_iconst (v := 0) S.1 S.2.1 dL_owedBy_15 (by decide) ?_
  exact xt_i S hI hr hlk (⟨rfl, _, _, hq1, rfl⟩) (by decide) (by decide) dL_owedBy_16
set_option maxRecDepth 100000 in
set_option maxHeartbeats 4000000 in
theorem wx_owedBy_1 (l : Launch) (G : Gt) (σ : St) (v1 : Int32) {d : Nat} (hd : d ≤ 8) (h : CtX l G yX3_owedBy cX3_owedBy 7 (some .int) d [.ref (gB G 0), .int v1] σ (NoI G) ioX) : CtL l G yL_owedBy cL_owedBy 4 [(0, 9, 12, 13)] 9 [.ref (gB G 0), .int v1, .ref (gB G 8)] σ (Qi G (fun r σ' => r = 1 ∧ σ' = σ)) := by
  refine ml_intro (by decide +kernel) (Nat.le_of_ble_eq_true rfl) ?_
  intro p e s m below meth c S hr hlk hxt hI ls hl
  have hl : lv_has ls 4 [(0, .ref (gB G 0)), (1, .int v1), (2, .ref (gB G 8))] := hl
  refine lv_aload_n S.1 S.2.1 dL_owedBy_0 rfl (lv_at hl 2 rfl) ?_
  refine lv_iconst (v := 0) S.1 S.2.1 dL_owedBy_1 (by decide) ?_
  refine lv_aload_n S.1 S.2.1 dL_owedBy_2 rfl (lv_at hl 0 rfl) ?_
  refine lv_iload_n S.1 S.2.1 dL_owedBy_3 rfl (lv_at hl 1 rfl) ?_
  refine lw_bad (As := [.int v1]) (rest := [.int 0, .ref (gB G 8)]) S hI h (cw_L_X3_owedBy S.2.2.2.2 ⟨by show d + 1 ≤ 9; omega, by show _ ≤ 36 * 9; omega⟩) rfl hl.1 (Nat.le_of_ble_eq_true rfl) dL_owedBy_4 ⟨Nat.le_of_ble_eq_true rfl, Nat.le_of_ble_eq_true rfl⟩ [] ⟨0, 9, 12, 13⟩ [] hxt (fun _ h9 => nomatch h9) (by decide) (by decide) lw_k13 lw_c13 (fun q9 H locs hI => ?_)
  refine lv_astore_n (lv' := [(3, .ref q9), (0, .ref (gB G 0)), (1, .int v1), (2, .ref (gB G 8))]) S.1 S.2.1 dL_owedBy_12 rfl hl (by decide) rfl (fun ls hl => ?_)
  refine lv_iconst (v := 1) S.1 S.2.1 dL_owedBy_13 (by decide) ?_
  exact xt_i S hI hr hlk (⟨rfl, rfl⟩) (by decide) (by decide) dL_owedBy_14
set_option maxRecDepth 100000 in
set_option maxHeartbeats 4000000 in
theorem w_honourOf (l : Launch) (G : Gt) (σ : St) {P : Int32 → St → Prop} (v1 : Int32) {d : Nat} (hd : d ≤ 8) (h : Ct l G yX3_honourOf cX3_honourOf 2 (some .int) d 0 0 [.ref (gB G 0), .int v1] σ (Qi G P)) : CtL l G yL_honourOf cL_honourOf 4 [(0, 9, 12, 13)] 9 [.ref (gB G 0), .int v1, .ref (gB G 8)] σ (Qi G (fun r σ' => r = 0 ∧ ∃ v σ1, P v σ1 ∧ σ' = setO σ1 v.toInt64)) := by
  refine ml_intro (by decide +kernel) (Nat.le_of_ble_eq_true rfl) ?_
  intro p e s m below meth c S hr hlk hxt hI ls hl
  have hl : lv_has ls 4 [(0, .ref (gB G 0)), (1, .int v1), (2, .ref (gB G 8))] := hl
  refine lv_aload_n S.1 S.2.1 dL_honourOf_0 rfl (lv_at hl 2 rfl) ?_
  refine lv_iconst (v := 0) S.1 S.2.1 dL_honourOf_1 (by decide) ?_
  refine lv_aload_n S.1 S.2.1 dL_honourOf_2 rfl (lv_at hl 0 rfl) ?_
  refine lv_iload_n S.1 S.2.1 dL_honourOf_3 rfl (lv_at hl 1 rfl) ?_
  refine cl_i hI (rnV (As := [.int v1]) (rest := [.int 0, .ref (gB G 8)]) S hI h (cw_L_X3_honourOf S.2.2.2.2 ⟨by show d + 1 ≤ 9; omega, by show _ ≤ 36 * 9; omega⟩) (rcX hI) rfl hl.1 (Nat.le_of_ble_eq_true rfl) dL_honourOf_4 ⟨Nat.le_of_ble_eq_true rfl, Nat.le_of_ble_eq_true rfl⟩) (fun r1 σ1 H locs hq1 hI => ?_)
  refine lv_i2l (v := r1.toInt64) S.1 S.2.1 dL_honourOf_7 rfl ?_
  refine s_out S hI dL_honourOf_8 (fun H locs hI => ?_)
  refine lv_goto (tgt := 15) S.1 S.2.1 dL_honourOf_9 (by decide) ?_
  refine lv_iconst (v := 0) S.1 S.2.1 dL_honourOf_15 (by decide) ?_
  exact xt_i S hI hr hlk (⟨rfl, _, _, hq1, rfl⟩) (by decide) (by decide) dL_honourOf_16
set_option maxRecDepth 100000 in
set_option maxHeartbeats 4000000 in
theorem wx_honourOf_1 (l : Launch) (G : Gt) (σ : St) (v1 : Int32) {d : Nat} (hd : d ≤ 8) (h : CtX l G yX3_honourOf cX3_honourOf 2 (some .int) d [.ref (gB G 0), .int v1] σ (NoI G) ioX) : CtL l G yL_honourOf cL_honourOf 4 [(0, 9, 12, 13)] 9 [.ref (gB G 0), .int v1, .ref (gB G 8)] σ (Qi G (fun r σ' => r = 1 ∧ σ' = σ)) := by
  refine ml_intro (by decide +kernel) (Nat.le_of_ble_eq_true rfl) ?_
  intro p e s m below meth c S hr hlk hxt hI ls hl
  have hl : lv_has ls 4 [(0, .ref (gB G 0)), (1, .int v1), (2, .ref (gB G 8))] := hl
  refine lv_aload_n S.1 S.2.1 dL_honourOf_0 rfl (lv_at hl 2 rfl) ?_
  refine lv_iconst (v := 0) S.1 S.2.1 dL_honourOf_1 (by decide) ?_
  refine lv_aload_n S.1 S.2.1 dL_honourOf_2 rfl (lv_at hl 0 rfl) ?_
  refine lv_iload_n S.1 S.2.1 dL_honourOf_3 rfl (lv_at hl 1 rfl) ?_
  refine lw_bad (As := [.int v1]) (rest := [.int 0, .ref (gB G 8)]) S hI h (cw_L_X3_honourOf S.2.2.2.2 ⟨by show d + 1 ≤ 9; omega, by show _ ≤ 36 * 9; omega⟩) rfl hl.1 (Nat.le_of_ble_eq_true rfl) dL_honourOf_4 ⟨Nat.le_of_ble_eq_true rfl, Nat.le_of_ble_eq_true rfl⟩ [] ⟨0, 9, 12, 13⟩ [] hxt (fun _ h9 => nomatch h9) (by decide) (by decide) lw_k13 lw_c13 (fun q9 H locs hI => ?_)
  refine lv_astore_n (lv' := [(3, .ref q9), (0, .ref (gB G 0)), (1, .int v1), (2, .ref (gB G 8))]) S.1 S.2.1 dL_honourOf_12 rfl hl (by decide) rfl (fun ls hl => ?_)
  refine lv_iconst (v := 1) S.1 S.2.1 dL_honourOf_13 (by decide) ?_
  exact xt_i S hI hr hlk (⟨rfl, rfl⟩) (by decide) (by decide) dL_honourOf_14
set_option maxRecDepth 100000 in
set_option maxHeartbeats 4000000 in
theorem w_hoursUntilFrozen (l : Launch) (G : Gt) (σ : St) {P : Int32 → St → Prop} (v1 : Int32) {d : Nat} (hd : d ≤ 8) (h : Ct l G yX3_hoursUntilFrozen cX3_hoursUntilFrozen 2 (some .int) d 0 0 [.ref (gB G 0), .int v1] σ (Qi G P)) : CtL l G yL_hoursUntilFrozen cL_hoursUntilFrozen 4 [(0, 9, 12, 13)] 9 [.ref (gB G 0), .int v1, .ref (gB G 8)] σ (Qi G (fun r σ' => r = 0 ∧ ∃ v σ1, P v σ1 ∧ σ' = setO σ1 v.toInt64)) := by
  refine ml_intro (by decide +kernel) (Nat.le_of_ble_eq_true rfl) ?_
  intro p e s m below meth c S hr hlk hxt hI ls hl
  have hl : lv_has ls 4 [(0, .ref (gB G 0)), (1, .int v1), (2, .ref (gB G 8))] := hl
  refine lv_aload_n S.1 S.2.1 dL_hoursUntilFrozen_0 rfl (lv_at hl 2 rfl) ?_
  refine lv_iconst (v := 0) S.1 S.2.1 dL_hoursUntilFrozen_1 (by decide) ?_
  refine lv_aload_n S.1 S.2.1 dL_hoursUntilFrozen_2 rfl (lv_at hl 0 rfl) ?_
  refine lv_iload_n S.1 S.2.1 dL_hoursUntilFrozen_3 rfl (lv_at hl 1 rfl) ?_
  refine cl_i hI (rnV (As := [.int v1]) (rest := [.int 0, .ref (gB G 8)]) S hI h (cw_L_X3_hoursUntilFrozen S.2.2.2.2 ⟨by show d + 1 ≤ 9; omega, by show _ ≤ 36 * 9; omega⟩) (rcX hI) rfl hl.1 (Nat.le_of_ble_eq_true rfl) dL_hoursUntilFrozen_4 ⟨Nat.le_of_ble_eq_true rfl, Nat.le_of_ble_eq_true rfl⟩) (fun r1 σ1 H locs hq1 hI => ?_)
  refine lv_i2l (v := r1.toInt64) S.1 S.2.1 dL_hoursUntilFrozen_7 rfl ?_
  refine s_out S hI dL_hoursUntilFrozen_8 (fun H locs hI => ?_)
  refine lv_goto (tgt := 15) S.1 S.2.1 dL_hoursUntilFrozen_9 (by decide) ?_
  refine lv_iconst (v := 0) S.1 S.2.1 dL_hoursUntilFrozen_15 (by decide) ?_
  exact xt_i S hI hr hlk (⟨rfl, _, _, hq1, rfl⟩) (by decide) (by decide) dL_hoursUntilFrozen_16
set_option maxRecDepth 100000 in
set_option maxHeartbeats 4000000 in
theorem wx_hoursUntilFrozen_1 (l : Launch) (G : Gt) (σ : St) (v1 : Int32) {d : Nat} (hd : d ≤ 8) (h : CtX l G yX3_hoursUntilFrozen cX3_hoursUntilFrozen 2 (some .int) d [.ref (gB G 0), .int v1] σ (NoI G) ioX) : CtL l G yL_hoursUntilFrozen cL_hoursUntilFrozen 4 [(0, 9, 12, 13)] 9 [.ref (gB G 0), .int v1, .ref (gB G 8)] σ (Qi G (fun r σ' => r = 1 ∧ σ' = σ)) := by
  refine ml_intro (by decide +kernel) (Nat.le_of_ble_eq_true rfl) ?_
  intro p e s m below meth c S hr hlk hxt hI ls hl
  have hl : lv_has ls 4 [(0, .ref (gB G 0)), (1, .int v1), (2, .ref (gB G 8))] := hl
  refine lv_aload_n S.1 S.2.1 dL_hoursUntilFrozen_0 rfl (lv_at hl 2 rfl) ?_
  refine lv_iconst (v := 0) S.1 S.2.1 dL_hoursUntilFrozen_1 (by decide) ?_
  refine lv_aload_n S.1 S.2.1 dL_hoursUntilFrozen_2 rfl (lv_at hl 0 rfl) ?_
  refine lv_iload_n S.1 S.2.1 dL_hoursUntilFrozen_3 rfl (lv_at hl 1 rfl) ?_
  refine lw_bad (As := [.int v1]) (rest := [.int 0, .ref (gB G 8)]) S hI h (cw_L_X3_hoursUntilFrozen S.2.2.2.2 ⟨by show d + 1 ≤ 9; omega, by show _ ≤ 36 * 9; omega⟩) rfl hl.1 (Nat.le_of_ble_eq_true rfl) dL_hoursUntilFrozen_4 ⟨Nat.le_of_ble_eq_true rfl, Nat.le_of_ble_eq_true rfl⟩ [] ⟨0, 9, 12, 13⟩ [] hxt (fun _ h9 => nomatch h9) (by decide) (by decide) lw_k13 lw_c13 (fun q9 H locs hI => ?_)
  refine lv_astore_n (lv' := [(3, .ref q9), (0, .ref (gB G 0)), (1, .int v1), (2, .ref (gB G 8))]) S.1 S.2.1 dL_hoursUntilFrozen_12 rfl hl (by decide) rfl (fun ls hl => ?_)
  refine lv_iconst (v := 1) S.1 S.2.1 dL_hoursUntilFrozen_13 (by decide) ?_
  exact xt_i S hI hr hlk (⟨rfl, rfl⟩) (by decide) (by decide) dL_hoursUntilFrozen_14
set_option maxRecDepth 100000 in
set_option maxHeartbeats 4000000 in
theorem w_hoursUntilThawed (l : Launch) (G : Gt) (σ : St) {P : Int32 → St → Prop} (v1 : Int32) {d : Nat} (hd : d ≤ 8) (h : Ct l G yX3_hoursUntilThawed cX3_hoursUntilThawed 2 (some .int) d 0 0 [.ref (gB G 0), .int v1] σ (Qi G P)) : CtL l G yL_hoursUntilThawed cL_hoursUntilThawed 4 [(0, 9, 12, 13)] 9 [.ref (gB G 0), .int v1, .ref (gB G 8)] σ (Qi G (fun r σ' => r = 0 ∧ ∃ v σ1, P v σ1 ∧ σ' = setO σ1 v.toInt64)) := by
  refine ml_intro (by decide +kernel) (Nat.le_of_ble_eq_true rfl) ?_
  intro p e s m below meth c S hr hlk hxt hI ls hl
  have hl : lv_has ls 4 [(0, .ref (gB G 0)), (1, .int v1), (2, .ref (gB G 8))] := hl
  refine lv_aload_n S.1 S.2.1 dL_hoursUntilThawed_0 rfl (lv_at hl 2 rfl) ?_
  refine lv_iconst (v := 0) S.1 S.2.1 dL_hoursUntilThawed_1 (by decide) ?_
  refine lv_aload_n S.1 S.2.1 dL_hoursUntilThawed_2 rfl (lv_at hl 0 rfl) ?_
  refine lv_iload_n S.1 S.2.1 dL_hoursUntilThawed_3 rfl (lv_at hl 1 rfl) ?_
  refine cl_i hI (rnV (As := [.int v1]) (rest := [.int 0, .ref (gB G 8)]) S hI h (cw_L_X3_hoursUntilThawed S.2.2.2.2 ⟨by show d + 1 ≤ 9; omega, by show _ ≤ 36 * 9; omega⟩) (rcX hI) rfl hl.1 (Nat.le_of_ble_eq_true rfl) dL_hoursUntilThawed_4 ⟨Nat.le_of_ble_eq_true rfl, Nat.le_of_ble_eq_true rfl⟩) (fun r1 σ1 H locs hq1 hI => ?_)
  refine lv_i2l (v := r1.toInt64) S.1 S.2.1 dL_hoursUntilThawed_7 rfl ?_
  refine s_out S hI dL_hoursUntilThawed_8 (fun H locs hI => ?_)
  refine lv_goto (tgt := 15) S.1 S.2.1 dL_hoursUntilThawed_9 (by decide) ?_
  refine lv_iconst (v := 0) S.1 S.2.1 dL_hoursUntilThawed_15 (by decide) ?_
  exact xt_i S hI hr hlk (⟨rfl, _, _, hq1, rfl⟩) (by decide) (by decide) dL_hoursUntilThawed_16
set_option maxRecDepth 100000 in
set_option maxHeartbeats 4000000 in
theorem wx_hoursUntilThawed_1 (l : Launch) (G : Gt) (σ : St) (v1 : Int32) {d : Nat} (hd : d ≤ 8) (h : CtX l G yX3_hoursUntilThawed cX3_hoursUntilThawed 2 (some .int) d [.ref (gB G 0), .int v1] σ (NoI G) ioX) : CtL l G yL_hoursUntilThawed cL_hoursUntilThawed 4 [(0, 9, 12, 13)] 9 [.ref (gB G 0), .int v1, .ref (gB G 8)] σ (Qi G (fun r σ' => r = 1 ∧ σ' = σ)) := by
  refine ml_intro (by decide +kernel) (Nat.le_of_ble_eq_true rfl) ?_
  intro p e s m below meth c S hr hlk hxt hI ls hl
  have hl : lv_has ls 4 [(0, .ref (gB G 0)), (1, .int v1), (2, .ref (gB G 8))] := hl
  refine lv_aload_n S.1 S.2.1 dL_hoursUntilThawed_0 rfl (lv_at hl 2 rfl) ?_
  refine lv_iconst (v := 0) S.1 S.2.1 dL_hoursUntilThawed_1 (by decide) ?_
  refine lv_aload_n S.1 S.2.1 dL_hoursUntilThawed_2 rfl (lv_at hl 0 rfl) ?_
  refine lv_iload_n S.1 S.2.1 dL_hoursUntilThawed_3 rfl (lv_at hl 1 rfl) ?_
  refine lw_bad (As := [.int v1]) (rest := [.int 0, .ref (gB G 8)]) S hI h (cw_L_X3_hoursUntilThawed S.2.2.2.2 ⟨by show d + 1 ≤ 9; omega, by show _ ≤ 36 * 9; omega⟩) rfl hl.1 (Nat.le_of_ble_eq_true rfl) dL_hoursUntilThawed_4 ⟨Nat.le_of_ble_eq_true rfl, Nat.le_of_ble_eq_true rfl⟩ [] ⟨0, 9, 12, 13⟩ [] hxt (fun _ h9 => nomatch h9) (by decide) (by decide) lw_k13 lw_c13 (fun q9 H locs hI => ?_)
  refine lv_astore_n (lv' := [(3, .ref q9), (0, .ref (gB G 0)), (1, .int v1), (2, .ref (gB G 8))]) S.1 S.2.1 dL_hoursUntilThawed_12 rfl hl (by decide) rfl (fun ls hl => ?_)
  refine lv_iconst (v := 1) S.1 S.2.1 dL_hoursUntilThawed_13 (by decide) ?_
  exact xt_i S hI hr hlk (⟨rfl, rfl⟩) (by decide) (by decide) dL_hoursUntilThawed_14
set_option maxRecDepth 100000 in
set_option maxHeartbeats 4000000 in
theorem w_hoursUntilExpired (l : Launch) (G : Gt) (σ : St) {P : Int32 → St → Prop} (v1 : Int32) {d : Nat} (hd : d ≤ 8) (h : Ct l G yX3_hoursUntilExpired cX3_hoursUntilExpired 2 (some .int) d 0 0 [.ref (gB G 0), .int v1] σ (Qi G P)) : CtL l G yL_hoursUntilExpired cL_hoursUntilExpired 4 [(0, 9, 12, 13)] 9 [.ref (gB G 0), .int v1, .ref (gB G 8)] σ (Qi G (fun r σ' => r = 0 ∧ ∃ v σ1, P v σ1 ∧ σ' = setO σ1 v.toInt64)) := by
  refine ml_intro (by decide +kernel) (Nat.le_of_ble_eq_true rfl) ?_
  intro p e s m below meth c S hr hlk hxt hI ls hl
  have hl : lv_has ls 4 [(0, .ref (gB G 0)), (1, .int v1), (2, .ref (gB G 8))] := hl
  refine lv_aload_n S.1 S.2.1 dL_hoursUntilExpired_0 rfl (lv_at hl 2 rfl) ?_
  refine lv_iconst (v := 0) S.1 S.2.1 dL_hoursUntilExpired_1 (by decide) ?_
  refine lv_aload_n S.1 S.2.1 dL_hoursUntilExpired_2 rfl (lv_at hl 0 rfl) ?_
  refine lv_iload_n S.1 S.2.1 dL_hoursUntilExpired_3 rfl (lv_at hl 1 rfl) ?_
  refine cl_i hI (rnV (As := [.int v1]) (rest := [.int 0, .ref (gB G 8)]) S hI h (cw_L_X3_hoursUntilExpired S.2.2.2.2 ⟨by show d + 1 ≤ 9; omega, by show _ ≤ 36 * 9; omega⟩) (rcX hI) rfl hl.1 (Nat.le_of_ble_eq_true rfl) dL_hoursUntilExpired_4 ⟨Nat.le_of_ble_eq_true rfl, Nat.le_of_ble_eq_true rfl⟩) (fun r1 σ1 H locs hq1 hI => ?_)
  refine lv_i2l (v := r1.toInt64) S.1 S.2.1 dL_hoursUntilExpired_7 rfl ?_
  refine s_out S hI dL_hoursUntilExpired_8 (fun H locs hI => ?_)
  refine lv_goto (tgt := 15) S.1 S.2.1 dL_hoursUntilExpired_9 (by decide) ?_
  refine lv_iconst (v := 0) S.1 S.2.1 dL_hoursUntilExpired_15 (by decide) ?_
  exact xt_i S hI hr hlk (⟨rfl, _, _, hq1, rfl⟩) (by decide) (by decide) dL_hoursUntilExpired_16
set_option maxRecDepth 100000 in
set_option maxHeartbeats 4000000 in
theorem wx_hoursUntilExpired_1 (l : Launch) (G : Gt) (σ : St) (v1 : Int32) {d : Nat} (hd : d ≤ 8) (h : CtX l G yX3_hoursUntilExpired cX3_hoursUntilExpired 2 (some .int) d [.ref (gB G 0), .int v1] σ (NoI G) ioX) : CtL l G yL_hoursUntilExpired cL_hoursUntilExpired 4 [(0, 9, 12, 13)] 9 [.ref (gB G 0), .int v1, .ref (gB G 8)] σ (Qi G (fun r σ' => r = 1 ∧ σ' = σ)) := by
  refine ml_intro (by decide +kernel) (Nat.le_of_ble_eq_true rfl) ?_
  intro p e s m below meth c S hr hlk hxt hI ls hl
  have hl : lv_has ls 4 [(0, .ref (gB G 0)), (1, .int v1), (2, .ref (gB G 8))] := hl
  refine lv_aload_n S.1 S.2.1 dL_hoursUntilExpired_0 rfl (lv_at hl 2 rfl) ?_
  refine lv_iconst (v := 0) S.1 S.2.1 dL_hoursUntilExpired_1 (by decide) ?_
  refine lv_aload_n S.1 S.2.1 dL_hoursUntilExpired_2 rfl (lv_at hl 0 rfl) ?_
  refine lv_iload_n S.1 S.2.1 dL_hoursUntilExpired_3 rfl (lv_at hl 1 rfl) ?_
  refine lw_bad (As := [.int v1]) (rest := [.int 0, .ref (gB G 8)]) S hI h (cw_L_X3_hoursUntilExpired S.2.2.2.2 ⟨by show d + 1 ≤ 9; omega, by show _ ≤ 36 * 9; omega⟩) rfl hl.1 (Nat.le_of_ble_eq_true rfl) dL_hoursUntilExpired_4 ⟨Nat.le_of_ble_eq_true rfl, Nat.le_of_ble_eq_true rfl⟩ [] ⟨0, 9, 12, 13⟩ [] hxt (fun _ h9 => nomatch h9) (by decide) (by decide) lw_k13 lw_c13 (fun q9 H locs hI => ?_)
  refine lv_astore_n (lv' := [(3, .ref q9), (0, .ref (gB G 0)), (1, .int v1), (2, .ref (gB G 8))]) S.1 S.2.1 dL_hoursUntilExpired_12 rfl hl (by decide) rfl (fun ls hl => ?_)
  refine lv_iconst (v := 1) S.1 S.2.1 dL_hoursUntilExpired_13 (by decide) ?_
  exact xt_i S hI hr hlk (⟨rfl, rfl⟩) (by decide) (by decide) dL_hoursUntilExpired_14
set_option maxRecDepth 100000 in
set_option maxHeartbeats 4000000 in
theorem w_leftIn (l : Launch) (G : Gt) (σ : St) {P : Int32 → St → Prop} (v1 : Int32) {d : Nat} (hd : d ≤ 8) (h : Ct l G yX3_leftIn cX3_leftIn 7 (some .int) d 0 0 [.ref (gB G 0), .int v1] σ (Qi G P)) : CtL l G yL_leftIn cL_leftIn 4 [(0, 9, 12, 15)] 9 [.ref (gB G 0), .int v1, .ref (gB G 8)] σ (Qi G (fun r σ' => r = 0 ∧ ∃ v σ1, P v σ1 ∧ σ' = setO σ1 v.toInt64)) := by
  refine ml_intro (by decide +kernel) (Nat.le_of_ble_eq_true rfl) ?_
  intro p e s m below meth c S hr hlk hxt hI ls hl
  have hl : lv_has ls 4 [(0, .ref (gB G 0)), (1, .int v1), (2, .ref (gB G 8))] := hl
  refine lv_aload_n S.1 S.2.1 dL_leftIn_0 rfl (lv_at hl 2 rfl) ?_
  refine lv_iconst (v := 0) S.1 S.2.1 dL_leftIn_1 (by decide) ?_
  refine lv_aload_n S.1 S.2.1 dL_leftIn_2 rfl (lv_at hl 0 rfl) ?_
  refine lv_iload_n S.1 S.2.1 dL_leftIn_3 rfl (lv_at hl 1 rfl) ?_
  refine cl_i hI (rnV (As := [.int v1]) (rest := [.int 0, .ref (gB G 8)]) S hI h (cw_L_X3_leftIn S.2.2.2.2 ⟨by show d + 1 ≤ 9; omega, by show _ ≤ 36 * 9; omega⟩) (rcX hI) rfl hl.1 (Nat.le_of_ble_eq_true rfl) dL_leftIn_4 ⟨Nat.le_of_ble_eq_true rfl, Nat.le_of_ble_eq_true rfl⟩) (fun r1 σ1 H locs hq1 hI => ?_)
  refine lv_i2l (v := r1.toInt64) S.1 S.2.1 dL_leftIn_7 rfl ?_
  refine s_out S hI dL_leftIn_8 (fun H locs hI => ?_)
  refine lv_goto (tgt := 15) S.1 S.2.1 dL_leftIn_9 (by decide) ?_
  refine lv_iconst (v := 0) S.1 S.2.1 dL_leftIn_15 (by decide) ?_
  exact xt_i S hI hr hlk (⟨rfl, _, _, hq1, rfl⟩) (by decide) (by decide) dL_leftIn_16
set_option maxRecDepth 100000 in
set_option maxHeartbeats 4000000 in
theorem wx_leftIn_1 (l : Launch) (G : Gt) (σ : St) (v1 : Int32) {d : Nat} (hd : d ≤ 8) (h : CtX l G yX3_leftIn cX3_leftIn 7 (some .int) d [.ref (gB G 0), .int v1] σ (NoI G) iaX) : CtL l G yL_leftIn cL_leftIn 4 [(0, 9, 12, 15)] 9 [.ref (gB G 0), .int v1, .ref (gB G 8)] σ (Qi G (fun r σ' => r = 1 ∧ σ' = σ)) := by
  refine ml_intro (by decide +kernel) (Nat.le_of_ble_eq_true rfl) ?_
  intro p e s m below meth c S hr hlk hxt hI ls hl
  have hl : lv_has ls 4 [(0, .ref (gB G 0)), (1, .int v1), (2, .ref (gB G 8))] := hl
  refine lv_aload_n S.1 S.2.1 dL_leftIn_0 rfl (lv_at hl 2 rfl) ?_
  refine lv_iconst (v := 0) S.1 S.2.1 dL_leftIn_1 (by decide) ?_
  refine lv_aload_n S.1 S.2.1 dL_leftIn_2 rfl (lv_at hl 0 rfl) ?_
  refine lv_iload_n S.1 S.2.1 dL_leftIn_3 rfl (lv_at hl 1 rfl) ?_
  refine lw_bad (As := [.int v1]) (rest := [.int 0, .ref (gB G 8)]) S hI h (cw_L_X3_leftIn S.2.2.2.2 ⟨by show d + 1 ≤ 9; omega, by show _ ≤ 36 * 9; omega⟩) rfl hl.1 (Nat.le_of_ble_eq_true rfl) dL_leftIn_4 ⟨Nat.le_of_ble_eq_true rfl, Nat.le_of_ble_eq_true rfl⟩ [] ⟨0, 9, 12, 15⟩ [] hxt (fun _ h9 => nomatch h9) (by decide) (by decide) lw_k15 lw_c15 (fun q9 H locs hI => ?_)
  refine lv_astore_n (lv' := [(3, .ref q9), (0, .ref (gB G 0)), (1, .int v1), (2, .ref (gB G 8))]) S.1 S.2.1 dL_leftIn_12 rfl hl (by decide) rfl (fun ls hl => ?_)
  refine lv_iconst (v := 1) S.1 S.2.1 dL_leftIn_13 (by decide) ?_
  exact xt_i S hI hr hlk (⟨rfl, rfl⟩) (by decide) (by decide) dL_leftIn_14
