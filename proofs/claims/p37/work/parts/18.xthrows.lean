set_option maxRecDepth 100000 in
set_option maxHeartbeats 4000000 in
theorem x_make_f (l : Launch) (hst9 : l.stackTraces = false) (G : Gt) (σ : St) {a b k : Nat} (ha : a < 6) (hb1 : 1 ≤ b) (hb : b ≤ 100) (hk : k < 5) {ar hh pw : Int32} (hX : gX σ = (nI 20, ar, hh, pw)) : CtX l G yX3_make cX3_make 6 (some .int) 7 [.ref (gB G 0), .int (nI a), .int (nI b), .int (nI k)] σ (NoI G) isX := by
  refine mx_intro (by decide +kernel) (Nat.le_of_ble_eq_true rfl) ?_
  intro p e s m below meth c S hr hlk hxt hI ls hl
  have hl : lv_has ls 6 [(0, .ref (gB G 0)), (1, .int (nI a)), (2, .int (nI b)), (3, .int (nI k))] := hl
  refine lv_iload_n S.1 S.2.1 dX3_make_0 rfl (lv_at hl 1 rfl) ?_
  refine cl_v hI (rnS (As := [.int (nI a)]) (rest := []) S hI (c_checkMaker l G _ ha) (cw_X3_X3_checkMaker S.2.2.2.2 ⟨Nat.le_of_ble_eq_true rfl, Nat.le_of_ble_eq_true rfl⟩) rfl hl.1 (Nat.le_of_ble_eq_true rfl) dX3_make_1 ⟨Nat.le_of_ble_eq_true rfl, Nat.le_of_ble_eq_true rfl⟩) (fun σ1 H locs hq1 hI => ?_)
  rw [hq1] at hI
  refine lv_aload_n S.1 S.2.1 dX3_make_4 rfl (lv_at hl 0 rfl) ?_
  refine lv_iload_n S.1 S.2.1 dX3_make_5 rfl (lv_at hl 3 rfl) ?_
  refine cl_q hI (rnV (As := [.int (nI k)]) (rest := []) S hI (c_findShelf l G _ hk) (cw_X3_X3_findShelf S.2.2.2.2 ⟨Nat.le_of_ble_eq_true rfl, Nat.le_of_ble_eq_true rfl⟩) (rcX hI) rfl hl.1 (Nat.le_of_ble_eq_true rfl) dX3_make_6 ⟨Nat.le_of_ble_eq_true rfl, Nat.le_of_ble_eq_true rfl⟩) (fun r2 σ2 H locs hq2 hI => ?_)
  obtain ⟨hr2, hs2⟩ := hq2
  rw [hs2] at hI
  rw [hr2]
  show W _ _ _ _ _ _ _ _ _ _ _ _ _ _ _ (F0 _ _ _ (.ref (gB G (3 + k)) :: _))
  refine lv_astore (lv' := [(4, .ref (gB G (3 + k))), (0, .ref (gB G 0)), (1, .int (nI a)), (2, .int (nI b)), (3, .int (nI k))]) S.1 S.2.1 dX3_make_9 hl (by decide) rfl (fun ls hl => ?_)
  refine lv_iload_n S.1 S.2.1 dX3_make_11 rfl (lv_at hl 3 rfl) ?_
  refine lv_iconst (v := 1) S.1 S.2.1 dX3_make_12 (by decide) ?_
  refine lv_icmp_lt (tgt := 22) S.1 S.2.1 dX3_make_13 (by decide) (fun c9 => absurd c9 (nI_nlt (b := 1) hb1 (by omega))) (fun cz_13 => ?_)
  refine lv_iload_n S.1 S.2.1 dX3_make_16 rfl (lv_at hl 3 rfl) ?_
  refine lv_bipush (v := 100) S.1 S.2.1 dX3_make_17 (by decide) ?_
  refine lv_icmp_le (tgt := 32) S.1 S.2.1 dX3_make_19 (by decide) (fun cz_19 => ?_) (fun c9 => absurd (nI_le (b := 100) hb (by omega)) c9)
  refine lv_aload_n S.1 S.2.1 dX3_make_32 rfl (lv_at hl 1 rfl) ?_
  refine g_X3_X_made S hI hX dX3_make_33 ?_
  refine lv_bipush (v := 20) S.1 S.2.1 dX3_make_36 (by decide) ?_
  refine lv_icmp_lt (tgt := 51) S.1 S.2.1 dX3_make_38 (by decide) (fun c9 => absurd c9 (by decide)) (fun cz_38 => ?_)
  exact thr_new S hI hst9 (q := (63, "there are 20 promises")) (by decide) (by decide +kernel) thr_k3 thr_i3 thr_in3 thr_g3 thr_o3 hl.1 hxt hlk (by decide) dX3_make_41 dX3_make_44 dX3_make_45 dX3_make_47 dX3_make_50
set_option maxRecDepth 100000 in
set_option maxHeartbeats 4000000 in
theorem x_move_n (l : Launch) (hst9 : l.stackTraces = false) (G : Gt) (σ : St) {i n : Nat} (hi : i < n) (hn : n ≤ 20) {ar hh pw : Int32} (hX : gX σ = (nI n, ar, hh, pw)) {k : Nat} (hk : k < 5) (hs : ¬ (gP σ i).2.1 < 6) : CtX l G yX3_move cX3_move 6 (some .int) 7 [.ref (gB G 0), .int (nI i), .int (nI k)] σ (NoI G) isX := by
  refine mx_intro (by decide +kernel) (Nat.le_of_ble_eq_true rfl) ?_
  intro p e s m below meth c S hr hlk hxt hI ls hl
  have hl : lv_has ls 6 [(0, .ref (gB G 0)), (1, .int (nI i)), (2, .int (nI k))] := hl
  refine lv_aload_n S.1 S.2.1 dX3_move_0 rfl (lv_at hl 0 rfl) ?_
  refine lv_iload_n S.1 S.2.1 dX3_move_1 rfl (lv_at hl 1 rfl) ?_
  refine cl_q hI (rnV (As := [.int (nI i)]) (rest := []) S hI (c_findPromise l G _ hi hn hX) (cw_X3_X3_findPromise S.2.2.2.2 ⟨Nat.le_of_ble_eq_true rfl, Nat.le_of_ble_eq_true rfl⟩) (rcX hI) rfl hl.1 (Nat.le_of_ble_eq_true rfl) dX3_move_2 ⟨Nat.le_of_ble_eq_true rfl, Nat.le_of_ble_eq_true rfl⟩) (fun r1 σ1 H locs hq1 hI => ?_)
  obtain ⟨hr1, hs1⟩ := hq1
  rw [hs1] at hI
  rw [hr1]
  show W _ _ _ _ _ _ _ _ _ _ _ _ _ _ _ (F0 _ _ _ (.ref (gB G (9 + i)) :: _))
  refine lv_astore_n (lv' := [(3, .ref (gB G (9 + i))), (0, .ref (gB G 0)), (1, .int (nI i)), (2, .int (nI k))]) S.1 S.2.1 dX3_move_5 rfl hl (by decide) rfl (fun ls hl => ?_)
  refine lv_aload_n S.1 S.2.1 dX3_move_6 rfl (lv_at hl 1 rfl) ?_
  refine lv_iload_n S.1 S.2.1 dX3_move_7 rfl (lv_at hl 3 rfl) ?_
  refine cl_q hI (rnV (As := [.int (nI k)]) (rest := []) S hI (c_findShelf l G _ hk) (cw_X3_X3_findShelf S.2.2.2.2 ⟨Nat.le_of_ble_eq_true rfl, Nat.le_of_ble_eq_true rfl⟩) (rcX hI) rfl hl.1 (Nat.le_of_ble_eq_true rfl) dX3_move_8 ⟨Nat.le_of_ble_eq_true rfl, Nat.le_of_ble_eq_true rfl⟩) (fun r2 σ2 H locs hq2 hI => ?_)
  obtain ⟨hr2, hs2⟩ := hq2
  rw [hs2] at hI
  rw [hr2]
  show W _ _ _ _ _ _ _ _ _ _ _ _ _ _ _ (F0 _ _ _ (.ref (gB G (3 + k)) :: _))
  refine lv_astore (lv' := [(4, .ref (gB G (3 + k))), (3, .ref (gB G (9 + i))), (0, .ref (gB G 0)), (1, .int (nI i)), (2, .int (nI k))]) S.1 S.2.1 dX3_move_11 hl (by decide) rfl (fun ls hl => ?_)
  refine lv_aload_n S.1 S.2.1 dX3_move_13 rfl (lv_at hl 1 rfl) ?_
  refine g_X3_P_shelf_n S hI (by omega) (pEta (gP σ i)) hs dX3_move_14 ?_
  refine lv_astoreN (lv' := [(5, .null), (4, .ref (gB G (3 + k))), (3, .ref (gB G (9 + i))), (0, .ref (gB G 0)), (1, .int (nI i)), (2, .int (nI k))]) S.1 S.2.1 dX3_move_17 hl (by decide) rfl (fun ls hl => ?_)
  refine lv_aloadN S.1 S.2.1 dX3_move_19 (lv_at hl 0 rfl) ?_
  refine lv_ifnonnullN S.1 S.2.1 dX3_move_21 ?_
  exact thr_new S hI hst9 (q := (80, "the promise lies on no shelf")) (by decide) (by decide +kernel) thr_k3 thr_i3 thr_in3 thr_g3 thr_o3 hl.1 hxt hlk (by decide) dX3_move_24 dX3_move_27 dX3_move_28 dX3_move_30 dX3_move_33
set_option maxRecDepth 100000 in
set_option maxHeartbeats 4000000 in
theorem x_move_e (l : Launch) (hst9 : l.stackTraces = false) (G : Gt) (σ : St) {i n : Nat} (hi : i < n) (hn : n ≤ 20) {ar hh pw : Int32} (hX : gX σ = (nI n, ar, hh, pw)) {k : Nat} (hk : k < 5) (hs : (gP σ i).2.1 < 5) (hne : (gP σ i).2.1 = k) : CtX l G yX3_move cX3_move 6 (some .int) 7 [.ref (gB G 0), .int (nI i), .int (nI k)] σ (NoI G) isX := by
  refine mx_intro (by decide +kernel) (Nat.le_of_ble_eq_true rfl) ?_
  intro p e s m below meth c S hr hlk hxt hI ls hl
  have hl : lv_has ls 6 [(0, .ref (gB G 0)), (1, .int (nI i)), (2, .int (nI k))] := hl
  refine lv_aload_n S.1 S.2.1 dX3_move_0 rfl (lv_at hl 0 rfl) ?_
  refine lv_iload_n S.1 S.2.1 dX3_move_1 rfl (lv_at hl 1 rfl) ?_
  refine cl_q hI (rnV (As := [.int (nI i)]) (rest := []) S hI (c_findPromise l G _ hi hn hX) (cw_X3_X3_findPromise S.2.2.2.2 ⟨Nat.le_of_ble_eq_true rfl, Nat.le_of_ble_eq_true rfl⟩) (rcX hI) rfl hl.1 (Nat.le_of_ble_eq_true rfl) dX3_move_2 ⟨Nat.le_of_ble_eq_true rfl, Nat.le_of_ble_eq_true rfl⟩) (fun r1 σ1 H locs hq1 hI => ?_)
  obtain ⟨hr1, hs1⟩ := hq1
  rw [hs1] at hI
  rw [hr1]
  show W _ _ _ _ _ _ _ _ _ _ _ _ _ _ _ (F0 _ _ _ (.ref (gB G (9 + i)) :: _))
  refine lv_astore_n (lv' := [(3, .ref (gB G (9 + i))), (0, .ref (gB G 0)), (1, .int (nI i)), (2, .int (nI k))]) S.1 S.2.1 dX3_move_5 rfl hl (by decide) rfl (fun ls hl => ?_)
  refine lv_aload_n S.1 S.2.1 dX3_move_6 rfl (lv_at hl 1 rfl) ?_
  refine lv_iload_n S.1 S.2.1 dX3_move_7 rfl (lv_at hl 3 rfl) ?_
  refine cl_q hI (rnV (As := [.int (nI k)]) (rest := []) S hI (c_findShelf l G _ hk) (cw_X3_X3_findShelf S.2.2.2.2 ⟨Nat.le_of_ble_eq_true rfl, Nat.le_of_ble_eq_true rfl⟩) (rcX hI) rfl hl.1 (Nat.le_of_ble_eq_true rfl) dX3_move_8 ⟨Nat.le_of_ble_eq_true rfl, Nat.le_of_ble_eq_true rfl⟩) (fun r2 σ2 H locs hq2 hI => ?_)
  obtain ⟨hr2, hs2⟩ := hq2
  rw [hs2] at hI
  rw [hr2]
  show W _ _ _ _ _ _ _ _ _ _ _ _ _ _ _ (F0 _ _ _ (.ref (gB G (3 + k)) :: _))
  refine lv_astore (lv' := [(4, .ref (gB G (3 + k))), (3, .ref (gB G (9 + i))), (0, .ref (gB G 0)), (1, .int (nI i)), (2, .int (nI k))]) S.1 S.2.1 dX3_move_11 hl (by decide) rfl (fun ls hl => ?_)
  refine lv_aload_n S.1 S.2.1 dX3_move_13 rfl (lv_at hl 1 rfl) ?_
  refine g_X3_P_shelf_s S hI (by omega) (pEta (gP σ i)) (show (gP σ i).2.1 < 6 by omega) dX3_move_14 ?_
  refine lv_astore (lv' := [(5, .ref (gB G (3 + (gP σ i).2.1))), (4, .ref (gB G (3 + k))), (3, .ref (gB G (9 + i))), (0, .ref (gB G 0)), (1, .int (nI i)), (2, .int (nI k))]) S.1 S.2.1 dX3_move_17 hl (by decide) rfl (fun ls hl => ?_)
  refine lv_aload S.1 S.2.1 dX3_move_19 (lv_at hl 0 rfl) ?_
  refine lv_ifnonnull (tgt := 34) S.1 S.2.1 dX3_move_21 (by decide) ?_
  refine lv_aload S.1 S.2.1 dX3_move_34 (lv_at hl 0 rfl) ?_
  refine lv_aload S.1 S.2.1 dX3_move_36 (lv_at hl 1 rfl) ?_
  refine ass_ne S hI (by omega) (by omega) (tgt := 51) dX3_move_38 (by decide) (fun c9 => absurd hne c9) (fun cz_38 => ?_)
  exact thr_new S hI hst9 (q := (82, "the promise lies on this shelf")) (by decide) (by decide +kernel) thr_k3 thr_i3 thr_in3 thr_g3 thr_o3 hl.1 hxt hlk (by decide) dX3_move_41 dX3_move_44 dX3_move_45 dX3_move_47 dX3_move_50
set_option maxRecDepth 100000 in
set_option maxHeartbeats 4000000 in
theorem x_move_t (l : Launch) (hst9 : l.stackTraces = false) (G : Gt) (σ : St) (hok : okP σ) {i n : Nat} (hi : i < n) (hn : n ≤ 20) {ar hh pw : Int32} (hX : gX σ = (nI n, ar, hh, pw)) {k : Nat} (hk : k < 5) (hs : (gP σ i).2.1 < 5) (hne : ¬ (gP σ i).2.1 = k) (hg3 : (gP σ i).1 = 3) : CtX l G yX3_move cX3_move 6 (some .int) 7 [.ref (gB G 0), .int (nI i), .int (nI k)] σ (NoI G) isX := by
  refine mx_intro (by decide +kernel) (Nat.le_of_ble_eq_true rfl) ?_
  intro p e s m below meth c S hr hlk hxt hI ls hl
  have hl : lv_has ls 6 [(0, .ref (gB G 0)), (1, .int (nI i)), (2, .int (nI k))] := hl
  refine lv_aload_n S.1 S.2.1 dX3_move_0 rfl (lv_at hl 0 rfl) ?_
  refine lv_iload_n S.1 S.2.1 dX3_move_1 rfl (lv_at hl 1 rfl) ?_
  refine cl_q hI (rnV (As := [.int (nI i)]) (rest := []) S hI (c_findPromise l G _ hi hn hX) (cw_X3_X3_findPromise S.2.2.2.2 ⟨Nat.le_of_ble_eq_true rfl, Nat.le_of_ble_eq_true rfl⟩) (rcX hI) rfl hl.1 (Nat.le_of_ble_eq_true rfl) dX3_move_2 ⟨Nat.le_of_ble_eq_true rfl, Nat.le_of_ble_eq_true rfl⟩) (fun r1 σ1 H locs hq1 hI => ?_)
  obtain ⟨hr1, hs1⟩ := hq1
  rw [hs1] at hI
  rw [hr1]
  show W _ _ _ _ _ _ _ _ _ _ _ _ _ _ _ (F0 _ _ _ (.ref (gB G (9 + i)) :: _))
  refine lv_astore_n (lv' := [(3, .ref (gB G (9 + i))), (0, .ref (gB G 0)), (1, .int (nI i)), (2, .int (nI k))]) S.1 S.2.1 dX3_move_5 rfl hl (by decide) rfl (fun ls hl => ?_)
  refine lv_aload_n S.1 S.2.1 dX3_move_6 rfl (lv_at hl 1 rfl) ?_
  refine lv_iload_n S.1 S.2.1 dX3_move_7 rfl (lv_at hl 3 rfl) ?_
  refine cl_q hI (rnV (As := [.int (nI k)]) (rest := []) S hI (c_findShelf l G _ hk) (cw_X3_X3_findShelf S.2.2.2.2 ⟨Nat.le_of_ble_eq_true rfl, Nat.le_of_ble_eq_true rfl⟩) (rcX hI) rfl hl.1 (Nat.le_of_ble_eq_true rfl) dX3_move_8 ⟨Nat.le_of_ble_eq_true rfl, Nat.le_of_ble_eq_true rfl⟩) (fun r2 σ2 H locs hq2 hI => ?_)
  obtain ⟨hr2, hs2⟩ := hq2
  rw [hs2] at hI
  rw [hr2]
  show W _ _ _ _ _ _ _ _ _ _ _ _ _ _ _ (F0 _ _ _ (.ref (gB G (3 + k)) :: _))
  refine lv_astore (lv' := [(4, .ref (gB G (3 + k))), (3, .ref (gB G (9 + i))), (0, .ref (gB G 0)), (1, .int (nI i)), (2, .int (nI k))]) S.1 S.2.1 dX3_move_11 hl (by decide) rfl (fun ls hl => ?_)
  refine lv_aload_n S.1 S.2.1 dX3_move_13 rfl (lv_at hl 1 rfl) ?_
  refine g_X3_P_shelf_s S hI (by omega) (pEta (gP σ i)) (show (gP σ i).2.1 < 6 by omega) dX3_move_14 ?_
  refine lv_astore (lv' := [(5, .ref (gB G (3 + (gP σ i).2.1))), (4, .ref (gB G (3 + k))), (3, .ref (gB G (9 + i))), (0, .ref (gB G 0)), (1, .int (nI i)), (2, .int (nI k))]) S.1 S.2.1 dX3_move_17 hl (by decide) rfl (fun ls hl => ?_)
  refine lv_aload S.1 S.2.1 dX3_move_19 (lv_at hl 0 rfl) ?_
  refine lv_ifnonnull (tgt := 34) S.1 S.2.1 dX3_move_21 (by decide) ?_
  refine lv_aload S.1 S.2.1 dX3_move_34 (lv_at hl 0 rfl) ?_
  refine lv_aload S.1 S.2.1 dX3_move_36 (lv_at hl 1 rfl) ?_
  refine ass_ne S hI (by omega) (by omega) (tgt := 51) dX3_move_38 (by decide) (fun cz_38 => ?_) (fun c9 => absurd c9 hne)
  refine lv_aload_n S.1 S.2.1 dX3_move_51 rfl (lv_at hl 2 rfl) ?_
  refine g_X3_P_stage S hI (by omega) (pEta (gP σ i)) dX3_move_52 ?_
  refine gs_X3_THAWED S hI dX3_move_55 ?_
  refine ag_ne S hI (hok i (by omega)).1 (by decide) (tgt := 71) dX3_move_58 (by decide) (fun c9 => absurd hg3 c9) (fun cz_58 => ?_)
  exact thr_new S hI hst9 (q := (93, "the promise is thawed")) (by decide) (by decide +kernel) thr_k3 thr_i3 thr_in3 thr_g3 thr_o3 hl.1 hxt hlk (by decide) dX3_move_61 dX3_move_64 dX3_move_65 dX3_move_67 dX3_move_70
set_option maxRecDepth 100000 in
set_option maxHeartbeats 4000000 in
theorem x_keep_n (l : Launch) (hst9 : l.stackTraces = false) (G : Gt) (σ : St) {i n : Nat} (hi : i < n) (hn : n ≤ 20) {ar hh pw : Int32} (hX : gX σ = (nI n, ar, hh, pw)) (hs : ¬ (gP σ i).2.1 < 6) : CtX l G yX3_keep cX3_keep 4 (some .int) 7 [.ref (gB G 0), .int (nI i)] σ (NoI G) isX := by
  refine mx_intro (by decide +kernel) (Nat.le_of_ble_eq_true rfl) ?_
  intro p e s m below meth c S hr hlk hxt hI ls hl
  have hl : lv_has ls 4 [(0, .ref (gB G 0)), (1, .int (nI i))] := hl
  refine lv_aload_n S.1 S.2.1 dX3_keep_0 rfl (lv_at hl 0 rfl) ?_
  refine lv_iload_n S.1 S.2.1 dX3_keep_1 rfl (lv_at hl 1 rfl) ?_
  refine cl_q hI (rnV (As := [.int (nI i)]) (rest := []) S hI (c_findPromise l G _ hi hn hX) (cw_X3_X3_findPromise S.2.2.2.2 ⟨Nat.le_of_ble_eq_true rfl, Nat.le_of_ble_eq_true rfl⟩) (rcX hI) rfl hl.1 (Nat.le_of_ble_eq_true rfl) dX3_keep_2 ⟨Nat.le_of_ble_eq_true rfl, Nat.le_of_ble_eq_true rfl⟩) (fun r1 σ1 H locs hq1 hI => ?_)
  obtain ⟨hr1, hs1⟩ := hq1
  rw [hs1] at hI
  rw [hr1]
  show W _ _ _ _ _ _ _ _ _ _ _ _ _ _ _ (F0 _ _ _ (.ref (gB G (9 + i)) :: _))
  refine lv_astore_n (lv' := [(2, .ref (gB G (9 + i))), (0, .ref (gB G 0)), (1, .int (nI i))]) S.1 S.2.1 dX3_keep_5 rfl hl (by decide) rfl (fun ls hl => ?_)
  refine lv_aload_n S.1 S.2.1 dX3_keep_6 rfl (lv_at hl 0 rfl) ?_
  refine g_X3_P_shelf_n S hI (by omega) (pEta (gP σ i)) hs dX3_keep_7 ?_
  refine lv_astore_nN (lv' := [(3, .null), (2, .ref (gB G (9 + i))), (0, .ref (gB G 0)), (1, .int (nI i))]) S.1 S.2.1 dX3_keep_10 rfl hl (by decide) rfl (fun ls hl => ?_)
  refine lv_aload_nN S.1 S.2.1 dX3_keep_11 rfl (lv_at hl 0 rfl) ?_
  refine lv_ifnonnullN S.1 S.2.1 dX3_keep_12 ?_
  exact thr_new S hI hst9 (q := (80, "the promise lies on no shelf")) (by decide) (by decide +kernel) thr_k3 thr_i3 thr_in3 thr_g3 thr_o3 hl.1 hxt hlk (by decide) dX3_keep_15 dX3_keep_18 dX3_keep_19 dX3_keep_21 dX3_keep_24
