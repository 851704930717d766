set_option maxRecDepth 100000 in
set_option maxHeartbeats 4000000 in
theorem x_checkMaker (l : Launch) (hst9 : l.stackTraces = false) (G : Gt) (σ : St) {v : Int32} (hb : v < 0 ∨ nI 6 ≤ v) : CtX l G yX3_checkMaker cX3_checkMaker 1 none 6 [.int v] σ (NoV G) ioX := by
  refine mx_intro (by decide +kernel) (Nat.le_of_ble_eq_true rfl) ?_
  intro p e s m below meth c S hr hlk hxt hI ls hl
  have hl : lv_has ls 1 [(0, .int v)] := hl
  refine lv_iload_n S.1 S.2.1 dX3_checkMaker_0 rfl (lv_at hl 0 rfl) ?_
  refine lv_if_lt (tgt := 10) S.1 S.2.1 dX3_checkMaker_1 (by decide) (fun cz_1 => ?_) (fun cz_1 => ?_)
  · exact thr_new S hI hst9 (q := (208, "a maker is 0 to 5")) (by decide) (by decide +kernel) thr_k1 thr_i1 thr_in1 thr_g1 thr_o1 hl.1 hxt hlk (by decide) dX3_checkMaker_10 dX3_checkMaker_13 dX3_checkMaker_14 dX3_checkMaker_16 dX3_checkMaker_19
  · refine lv_iload_n S.1 S.2.1 dX3_checkMaker_4 rfl (lv_at hl 0 rfl) ?_
    refine lv_bipush (v := (nI 6)) S.1 S.2.1 dX3_checkMaker_5 (by rfl) ?_
    refine lv_icmp_lt (tgt := 20) S.1 S.2.1 dX3_checkMaker_7 (by decide) (fun c9 => absurd c9 (by rcases hb with q9 | q9 <;> first | exact absurd q9 cz_1 | exact Int32.not_lt.mpr q9)) (fun cz_7 => ?_)
    exact thr_new S hI hst9 (q := (208, "a maker is 0 to 5")) (by decide) (by decide +kernel) thr_k1 thr_i1 thr_in1 thr_g1 thr_o1 hl.1 hxt hlk (by decide) dX3_checkMaker_10 dX3_checkMaker_13 dX3_checkMaker_14 dX3_checkMaker_16 dX3_checkMaker_19
set_option maxRecDepth 100000 in
set_option maxHeartbeats 4000000 in
theorem x_checkHours (l : Launch) (hst9 : l.stackTraces = false) (G : Gt) (σ : St) {v : Int32} (hb : v < 1 ∨ 100 < v) : CtX l G yX3_checkHours cX3_checkHours 1 none 6 [.int v] σ (NoV G) iaX := by
  refine mx_intro (by decide +kernel) (Nat.le_of_ble_eq_true rfl) ?_
  intro p e s m below meth c S hr hlk hxt hI ls hl
  have hl : lv_has ls 1 [(0, .int v)] := hl
  refine lv_iload_n S.1 S.2.1 dX3_checkHours_0 rfl (lv_at hl 0 rfl) ?_
  refine lv_iconst (v := 1) S.1 S.2.1 dX3_checkHours_1 (by decide) ?_
  refine lv_icmp_lt (tgt := 11) S.1 S.2.1 dX3_checkHours_2 (by decide) (fun cz_2 => ?_) (fun cz_2 => ?_)
  · exact thr_new S hI hst9 (q := (211, "hours are 1 to 100")) (by decide) (by decide +kernel) thr_k2 thr_i2 thr_in2 thr_g2 thr_o2 hl.1 hxt hlk (by decide) dX3_checkHours_11 dX3_checkHours_14 dX3_checkHours_15 dX3_checkHours_17 dX3_checkHours_20
  · refine lv_iload_n S.1 S.2.1 dX3_checkHours_5 rfl (lv_at hl 0 rfl) ?_
    refine lv_bipush (v := 100) S.1 S.2.1 dX3_checkHours_6 (by decide) ?_
    refine lv_icmp_le (tgt := 21) S.1 S.2.1 dX3_checkHours_8 (by decide) (fun c9 => absurd c9 (by rcases hb with q9 | q9 <;> first | exact absurd q9 cz_2 | exact Int32.not_le.mpr q9)) (fun cz_8 => ?_)
    exact thr_new S hI hst9 (q := (211, "hours are 1 to 100")) (by decide) (by decide +kernel) thr_k2 thr_i2 thr_in2 thr_g2 thr_o2 hl.1 hxt hlk (by decide) dX3_checkHours_11 dX3_checkHours_14 dX3_checkHours_15 dX3_checkHours_17 dX3_checkHours_20
set_option maxRecDepth 100000 in
set_option maxHeartbeats 4000000 in
theorem x_findShelf (l : Launch) (hst9 : l.stackTraces = false) (G : Gt) (σ : St) {v : Int32} (hb : v < 0 ∨ nI 5 ≤ v) : CtX l G yX3_findShelf cX3_findShelf 2 (some (.object "PromiseShelves$Shelf")) 6 [.ref (gB G 0), .int v] σ (NoQ G) ioX := by
  refine mx_intro (by decide +kernel) (Nat.le_of_ble_eq_true rfl) ?_
  intro p e s m below meth c S hr hlk hxt hI ls hl
  have hl : lv_has ls 2 [(0, .ref (gB G 0)), (1, .int v)] := hl
  refine lv_iload_n S.1 S.2.1 dX3_findShelf_0 rfl (lv_at hl 1 rfl) ?_
  refine lv_if_lt (tgt := 9) S.1 S.2.1 dX3_findShelf_1 (by decide) (fun cz_1 => ?_) (fun cz_1 => ?_)
  · exact thr_new S hI hst9 (q := (213, "a shelf is 0 to 4")) (by decide) (by decide +kernel) thr_k1 thr_i1 thr_in1 thr_g1 thr_o1 hl.1 hxt hlk (by decide) dX3_findShelf_9 dX3_findShelf_12 dX3_findShelf_13 dX3_findShelf_15 dX3_findShelf_18
  · refine lv_iload_n S.1 S.2.1 dX3_findShelf_4 rfl (lv_at hl 1 rfl) ?_
    refine lv_iconst (v := (nI 5)) S.1 S.2.1 dX3_findShelf_5 (by rfl) ?_
    refine lv_icmp_lt (tgt := 19) S.1 S.2.1 dX3_findShelf_6 (by decide) (fun c9 => absurd c9 (by rcases hb with q9 | q9 <;> first | exact absurd q9 cz_1 | exact Int32.not_lt.mpr q9)) (fun cz_6 => ?_)
    exact thr_new S hI hst9 (q := (213, "a shelf is 0 to 4")) (by decide) (by decide +kernel) thr_k1 thr_i1 thr_in1 thr_g1 thr_o1 hl.1 hxt hlk (by decide) dX3_findShelf_9 dX3_findShelf_12 dX3_findShelf_13 dX3_findShelf_15 dX3_findShelf_18
set_option maxRecDepth 100000 in
set_option maxHeartbeats 4000000 in
theorem x_findPromise (l : Launch) (hst9 : l.stackTraces = false) (G : Gt) (σ : St) {n : Nat} {ar hh pw : Int32} (hX : gX σ = (nI n, ar, hh, pw)) {v : Int32} (hb : v < 0 ∨ nI n ≤ v) : CtX l G yX3_findPromise cX3_findPromise 2 (some (.object "PromiseShelves$Promise")) 6 [.ref (gB G 0), .int v] σ (NoQ G) ioX := by
  refine mx_intro (by decide +kernel) (Nat.le_of_ble_eq_true rfl) ?_
  intro p e s m below meth c S hr hlk hxt hI ls hl
  have hl : lv_has ls 2 [(0, .ref (gB G 0)), (1, .int v)] := hl
  refine lv_iload_n S.1 S.2.1 dX3_findPromise_0 rfl (lv_at hl 1 rfl) ?_
  refine lv_if_lt (tgt := 12) S.1 S.2.1 dX3_findPromise_1 (by decide) (fun cz_1 => ?_) (fun cz_1 => ?_)
  · exact thr_new S hI hst9 (q := (215, "there is no such promise")) (by decide) (by decide +kernel) thr_k1 thr_i1 thr_in1 thr_g1 thr_o1 hl.1 hxt hlk (by decide) dX3_findPromise_12 dX3_findPromise_15 dX3_findPromise_16 dX3_findPromise_18 dX3_findPromise_21
  · refine lv_iload_n S.1 S.2.1 dX3_findPromise_4 rfl (lv_at hl 1 rfl) ?_
    refine lv_aload_n S.1 S.2.1 dX3_findPromise_5 rfl (lv_at hl 0 rfl) ?_
    refine g_X3_X_made S hI hX dX3_findPromise_6 ?_
    refine lv_icmp_lt (tgt := 22) S.1 S.2.1 dX3_findPromise_9 (by decide) (fun c9 => absurd c9 (by rcases hb with q9 | q9 <;> first | exact absurd q9 cz_1 | exact Int32.not_lt.mpr q9)) (fun cz_9 => ?_)
    exact thr_new S hI hst9 (q := (215, "there is no such promise")) (by decide) (by decide +kernel) thr_k1 thr_i1 thr_in1 thr_g1 thr_o1 hl.1 hxt hlk (by decide) dX3_findPromise_12 dX3_findPromise_15 dX3_findPromise_16 dX3_findPromise_18 dX3_findPromise_21
set_option maxRecDepth 100000 in
set_option maxHeartbeats 4000000 in
theorem x_settingOf (l : Launch) (hst9 : l.stackTraces = false) (G : Gt) (σ : St) {v : Int32} (hb : v < 0 ∨ nI 5 ≤ v) : CtX l G yX3_settingOf cX3_settingOf 2 (some .int) 7 [.ref (gB G 0), .int v] σ (NoI G) ioX := by
  refine mx_intro (by decide +kernel) (Nat.le_of_ble_eq_true rfl) ?_
  intro p e s m below meth c S hr hlk hxt hI ls hl
  have hl : lv_has ls 2 [(0, .ref (gB G 0)), (1, .int v)] := hl
  refine lv_aload_n S.1 S.2.1 dX3_settingOf_0 rfl (lv_at hl 0 rfl) ?_
  refine lv_iload_n S.1 S.2.1 dX3_settingOf_1 rfl (lv_at hl 1 rfl) ?_
  exact thr_vq (As := [.int v]) (rest := []) S hI hxt hlk (x_findShelf l hst9 G _ hb) (cw_X3_X3_findShelf S.2.2.2.2 ⟨Nat.le_of_ble_eq_true rfl, Nat.le_of_ble_eq_true rfl⟩) rfl hl.1 (Nat.le_of_ble_eq_true rfl) dX3_settingOf_2
set_option maxRecDepth 100000 in
set_option maxHeartbeats 4000000 in
theorem x_heatOn (l : Launch) (hst9 : l.stackTraces = false) (G : Gt) (σ : St) {v : Int32} (hb : v < 0 ∨ nI 5 ≤ v) : CtX l G yX3_heatOn cX3_heatOn 2 (some .int) 7 [.ref (gB G 0), .int v] σ (NoI G) ioX := by
  refine mx_intro (by decide +kernel) (Nat.le_of_ble_eq_true rfl) ?_
  intro p e s m below meth c S hr hlk hxt hI ls hl
  have hl : lv_has ls 2 [(0, .ref (gB G 0)), (1, .int v)] := hl
  refine lv_aload_n S.1 S.2.1 dX3_heatOn_0 rfl (lv_at hl 0 rfl) ?_
  refine lv_iload_n S.1 S.2.1 dX3_heatOn_1 rfl (lv_at hl 1 rfl) ?_
  exact thr_vq (As := [.int v]) (rest := []) S hI hxt hlk (x_findShelf l hst9 G _ hb) (cw_X3_X3_findShelf S.2.2.2.2 ⟨Nat.le_of_ble_eq_true rfl, Nat.le_of_ble_eq_true rfl⟩) rfl hl.1 (Nat.le_of_ble_eq_true rfl) dX3_heatOn_2
set_option maxRecDepth 100000 in
set_option maxHeartbeats 4000000 in
theorem x_promisesOn (l : Launch) (hst9 : l.stackTraces = false) (G : Gt) (σ : St) {v : Int32} (hb : v < 0 ∨ nI 5 ≤ v) : CtX l G yX3_promisesOn cX3_promisesOn 8 (some .int) 7 [.ref (gB G 0), .int v] σ (NoI G) ioX := by
  refine mx_intro (by decide +kernel) (Nat.le_of_ble_eq_true rfl) ?_
  intro p e s m below meth c S hr hlk hxt hI ls hl
  have hl : lv_has ls 8 [(0, .ref (gB G 0)), (1, .int v)] := hl
  refine lv_aload_n S.1 S.2.1 dX3_promisesOn_0 rfl (lv_at hl 0 rfl) ?_
  refine lv_iload_n S.1 S.2.1 dX3_promisesOn_1 rfl (lv_at hl 1 rfl) ?_
  exact thr_vq (As := [.int v]) (rest := []) S hI hxt hlk (x_findShelf l hst9 G _ hb) (cw_X3_X3_findShelf S.2.2.2.2 ⟨Nat.le_of_ble_eq_true rfl, Nat.le_of_ble_eq_true rfl⟩) rfl hl.1 (Nat.le_of_ble_eq_true rfl) dX3_promisesOn_2
set_option maxRecDepth 100000 in
set_option maxHeartbeats 4000000 in
theorem x_makerOf (l : Launch) (hst9 : l.stackTraces = false) (G : Gt) (σ : St) {n : Nat} {ar hh pw : Int32} (hX : gX σ = (nI n, ar, hh, pw)) {v : Int32} (hb : v < 0 ∨ nI n ≤ v) : CtX l G yX3_makerOf cX3_makerOf 2 (some .int) 7 [.ref (gB G 0), .int v] σ (NoI G) ioX := by
  refine mx_intro (by decide +kernel) (Nat.le_of_ble_eq_true rfl) ?_
  intro p e s m below meth c S hr hlk hxt hI ls hl
  have hl : lv_has ls 2 [(0, .ref (gB G 0)), (1, .int v)] := hl
  refine lv_aload_n S.1 S.2.1 dX3_makerOf_0 rfl (lv_at hl 0 rfl) ?_
  refine lv_iload_n S.1 S.2.1 dX3_makerOf_1 rfl (lv_at hl 1 rfl) ?_
  exact thr_vq (As := [.int v]) (rest := []) S hI hxt hlk (x_findPromise l hst9 G _ hX hb) (cw_X3_X3_findPromise S.2.2.2.2 ⟨Nat.le_of_ble_eq_true rfl, Nat.le_of_ble_eq_true rfl⟩) rfl hl.1 (Nat.le_of_ble_eq_true rfl) dX3_makerOf_2
set_option maxRecDepth 100000 in
set_option maxHeartbeats 4000000 in
theorem x_shelfOf (l : Launch) (hst9 : l.stackTraces = false) (G : Gt) (σ : St) {n : Nat} {ar hh pw : Int32} (hX : gX σ = (nI n, ar, hh, pw)) {v : Int32} (hb : v < 0 ∨ nI n ≤ v) : CtX l G yX3_shelfOf cX3_shelfOf 3 (some .int) 7 [.ref (gB G 0), .int v] σ (NoI G) ioX := by
  refine mx_intro (by decide +kernel) (Nat.le_of_ble_eq_true rfl) ?_
  intro p e s m below meth c S hr hlk hxt hI ls hl
  have hl : lv_has ls 3 [(0, .ref (gB G 0)), (1, .int v)] := hl
  refine lv_aload_n S.1 S.2.1 dX3_shelfOf_0 rfl (lv_at hl 0 rfl) ?_
  refine lv_iload_n S.1 S.2.1 dX3_shelfOf_1 rfl (lv_at hl 1 rfl) ?_
  exact thr_vq (As := [.int v]) (rest := []) S hI hxt hlk (x_findPromise l hst9 G _ hX hb) (cw_X3_X3_findPromise S.2.2.2.2 ⟨Nat.le_of_ble_eq_true rfl, Nat.le_of_ble_eq_true rfl⟩) rfl hl.1 (Nat.le_of_ble_eq_true rfl) dX3_shelfOf_2
set_option maxRecDepth 100000 in
set_option maxHeartbeats 4000000 in
theorem x_heatOf (l : Launch) (hst9 : l.stackTraces = false) (G : Gt) (σ : St) {n : Nat} {ar hh pw : Int32} (hX : gX σ = (nI n, ar, hh, pw)) {v : Int32} (hb : v < 0 ∨ nI n ≤ v) : CtX l G yX3_heatOf cX3_heatOf 2 (some .int) 7 [.ref (gB G 0), .int v] σ (NoI G) ioX := by
  refine mx_intro (by decide +kernel) (Nat.le_of_ble_eq_true rfl) ?_
  intro p e s m below meth c S hr hlk hxt hI ls hl
  have hl : lv_has ls 2 [(0, .ref (gB G 0)), (1, .int v)] := hl
  refine lv_aload_n S.1 S.2.1 dX3_heatOf_0 rfl (lv_at hl 0 rfl) ?_
  refine lv_iload_n S.1 S.2.1 dX3_heatOf_1 rfl (lv_at hl 1 rfl) ?_
  exact thr_vq (As := [.int v]) (rest := []) S hI hxt hlk (x_findPromise l hst9 G _ hX hb) (cw_X3_X3_findPromise S.2.2.2.2 ⟨Nat.le_of_ble_eq_true rfl, Nat.le_of_ble_eq_true rfl⟩) rfl hl.1 (Nat.le_of_ble_eq_true rfl) dX3_heatOf_2
set_option maxRecDepth 100000 in
set_option maxHeartbeats 4000000 in
theorem x_ageOf (l : Launch) (hst9 : l.stackTraces = false) (G : Gt) (σ : St) {n : Nat} {ar hh pw : Int32} (hX : gX σ = (nI n, ar, hh, pw)) {v : Int32} (hb : v < 0 ∨ nI n ≤ v) : CtX l G yX3_ageOf cX3_ageOf 2 (some .int) 7 [.ref (gB G 0), .int v] σ (NoI G) ioX := by
  refine mx_intro (by decide +kernel) (Nat.le_of_ble_eq_true rfl) ?_
  intro p e s m below meth c S hr hlk hxt hI ls hl
  have hl : lv_has ls 2 [(0, .ref (gB G 0)), (1, .int v)] := hl
  refine lv_aload_n S.1 S.2.1 dX3_ageOf_0 rfl (lv_at hl 0 rfl) ?_
  refine lv_iload_n S.1 S.2.1 dX3_ageOf_1 rfl (lv_at hl 1 rfl) ?_
  exact thr_vq (As := [.int v]) (rest := []) S hI hxt hlk (x_findPromise l hst9 G _ hX hb) (cw_X3_X3_findPromise S.2.2.2.2 ⟨Nat.le_of_ble_eq_true rfl, Nat.le_of_ble_eq_true rfl⟩) rfl hl.1 (Nat.le_of_ble_eq_true rfl) dX3_ageOf_2
set_option maxRecDepth 100000 in
set_option maxHeartbeats 4000000 in
theorem x_hoursLeft (l : Launch) (hst9 : l.stackTraces = false) (G : Gt) (σ : St) {n : Nat} {ar hh pw : Int32} (hX : gX σ = (nI n, ar, hh, pw)) {v : Int32} (hb : v < 0 ∨ nI n ≤ v) : CtX l G yX3_hoursLeft cX3_hoursLeft 3 (some .int) 7 [.ref (gB G 0), .int v] σ (NoI G) ioX := by
  refine mx_intro (by decide +kernel) (Nat.le_of_ble_eq_true rfl) ?_
  intro p e s m below meth c S hr hlk hxt hI ls hl
  have hl : lv_has ls 3 [(0, .ref (gB G 0)), (1, .int v)] := hl
  refine lv_aload_n S.1 S.2.1 dX3_hoursLeft_0 rfl (lv_at hl 0 rfl) ?_
  refine lv_iload_n S.1 S.2.1 dX3_hoursLeft_1 rfl (lv_at hl 1 rfl) ?_
  exact thr_vq (As := [.int v]) (rest := []) S hI hxt hlk (x_findPromise l hst9 G _ hX hb) (cw_X3_X3_findPromise S.2.2.2.2 ⟨Nat.le_of_ble_eq_true rfl, Nat.le_of_ble_eq_true rfl⟩) rfl hl.1 (Nat.le_of_ble_eq_true rfl) dX3_hoursLeft_2
set_option maxRecDepth 100000 in
set_option maxHeartbeats 4000000 in
theorem x_isFrozen (l : Launch) (hst9 : l.stackTraces = false) (G : Gt) (σ : St) {n : Nat} {ar hh pw : Int32} (hX : gX σ = (nI n, ar, hh, pw)) {v : Int32} (hb : v < 0 ∨ nI n ≤ v) : CtX l G yX3_isFrozen cX3_isFrozen 2 (some .boolean) 7 [.ref (gB G 0), .int v] σ (NoI G) ioX := by
  refine mx_intro (by decide +kernel) (Nat.le_of_ble_eq_true rfl) ?_
  intro p e s m below meth c S hr hlk hxt hI ls hl
  have hl : lv_has ls 2 [(0, .ref (gB G 0)), (1, .int v)] := hl
  refine lv_aload_n S.1 S.2.1 dX3_isFrozen_0 rfl (lv_at hl 0 rfl) ?_
  refine lv_iload_n S.1 S.2.1 dX3_isFrozen_1 rfl (lv_at hl 1 rfl) ?_
  exact thr_vq (As := [.int v]) (rest := []) S hI hxt hlk (x_findPromise l hst9 G _ hX hb) (cw_X3_X3_findPromise S.2.2.2.2 ⟨Nat.le_of_ble_eq_true rfl, Nat.le_of_ble_eq_true rfl⟩) rfl hl.1 (Nat.le_of_ble_eq_true rfl) dX3_isFrozen_2
set_option maxRecDepth 100000 in
set_option maxHeartbeats 4000000 in
theorem x_isThawed (l : Launch) (hst9 : l.stackTraces = false) (G : Gt) (σ : St) {n : Nat} {ar hh pw : Int32} (hX : gX σ = (nI n, ar, hh, pw)) {v : Int32} (hb : v < 0 ∨ nI n ≤ v) : CtX l G yX3_isThawed cX3_isThawed 2 (some .boolean) 7 [.ref (gB G 0), .int v] σ (NoI G) ioX := by
  refine mx_intro (by decide +kernel) (Nat.le_of_ble_eq_true rfl) ?_
  intro p e s m below meth c S hr hlk hxt hI ls hl
  have hl : lv_has ls 2 [(0, .ref (gB G 0)), (1, .int v)] := hl
  refine lv_aload_n S.1 S.2.1 dX3_isThawed_0 rfl (lv_at hl 0 rfl) ?_
  refine lv_iload_n S.1 S.2.1 dX3_isThawed_1 rfl (lv_at hl 1 rfl) ?_
  exact thr_vq (As := [.int v]) (rest := []) S hI hxt hlk (x_findPromise l hst9 G _ hX hb) (cw_X3_X3_findPromise S.2.2.2.2 ⟨Nat.le_of_ble_eq_true rfl, Nat.le_of_ble_eq_true rfl⟩) rfl hl.1 (Nat.le_of_ble_eq_true rfl) dX3_isThawed_2
set_option maxRecDepth 100000 in
set_option maxHeartbeats 4000000 in
theorem x_isKept (l : Launch) (hst9 : l.stackTraces = false) (G : Gt) (σ : St) {n : Nat} {ar hh pw : Int32} (hX : gX σ = (nI n, ar, hh, pw)) {v : Int32} (hb : v < 0 ∨ nI n ≤ v) : CtX l G yX3_isKept cX3_isKept 2 (some .boolean) 7 [.ref (gB G 0), .int v] σ (NoI G) ioX := by
  refine mx_intro (by decide +kernel) (Nat.le_of_ble_eq_true rfl) ?_
  intro p e s m below meth c S hr hlk hxt hI ls hl
  have hl : lv_has ls 2 [(0, .ref (gB G 0)), (1, .int v)] := hl
  refine lv_aload_n S.1 S.2.1 dX3_isKept_0 rfl (lv_at hl 0 rfl) ?_
  refine lv_iload_n S.1 S.2.1 dX3_isKept_1 rfl (lv_at hl 1 rfl) ?_
  exact thr_vq (As := [.int v]) (rest := []) S hI hxt hlk (x_findPromise l hst9 G _ hX hb) (cw_X3_X3_findPromise S.2.2.2.2 ⟨Nat.le_of_ble_eq_true rfl, Nat.le_of_ble_eq_true rfl⟩) rfl hl.1 (Nat.le_of_ble_eq_true rfl) dX3_isKept_2
set_option maxRecDepth 100000 in
set_option maxHeartbeats 4000000 in
theorem x_isExpired (l : Launch) (hst9 : l.stackTraces = false) (G : Gt) (σ : St) {n : Nat} {ar hh pw : Int32} (hX : gX σ = (nI n, ar, hh, pw)) {v : Int32} (hb : v < 0 ∨ nI n ≤ v) : CtX l G yX3_isExpired cX3_isExpired 2 (some .boolean) 7 [.ref (gB G 0), .int v] σ (NoI G) ioX := by
  refine mx_intro (by decide +kernel) (Nat.le_of_ble_eq_true rfl) ?_
  intro p e s m below meth c S hr hlk hxt hI ls hl
  have hl : lv_has ls 2 [(0, .ref (gB G 0)), (1, .int v)] := hl
  refine lv_aload_n S.1 S.2.1 dX3_isExpired_0 rfl (lv_at hl 0 rfl) ?_
  refine lv_iload_n S.1 S.2.1 dX3_isExpired_1 rfl (lv_at hl 1 rfl) ?_
  exact thr_vq (As := [.int v]) (rest := []) S hI hxt hlk (x_findPromise l hst9 G _ hX hb) (cw_X3_X3_findPromise S.2.2.2.2 ⟨Nat.le_of_ble_eq_true rfl, Nat.le_of_ble_eq_true rfl⟩) rfl hl.1 (Nat.le_of_ble_eq_true rfl) dX3_isExpired_2
set_option maxRecDepth 100000 in
set_option maxHeartbeats 4000000 in
theorem x_hoursUntilFrozen (l : Launch) (hst9 : l.stackTraces = false) (G : Gt) (σ : St) {n : Nat} {ar hh pw : Int32} (hX : gX σ = (nI n, ar, hh, pw)) {v : Int32} (hb : v < 0 ∨ nI n ≤ v) : CtX l G yX3_hoursUntilFrozen cX3_hoursUntilFrozen 2 (some .int) 7 [.ref (gB G 0), .int v] σ (NoI G) ioX := by
  refine mx_intro (by decide +kernel) (Nat.le_of_ble_eq_true rfl) ?_
  intro p e s m below meth c S hr hlk hxt hI ls hl
  have hl : lv_has ls 2 [(0, .ref (gB G 0)), (1, .int v)] := hl
  refine lv_aload_n S.1 S.2.1 dX3_hoursUntilFrozen_0 rfl (lv_at hl 0 rfl) ?_
  refine lv_aload_n S.1 S.2.1 dX3_hoursUntilFrozen_1 rfl (lv_at hl 0 rfl) ?_
  refine lv_iload_n S.1 S.2.1 dX3_hoursUntilFrozen_2 rfl (lv_at hl 1 rfl) ?_
  exact thr_vq (As := [.int v]) (rest := [.ref (gB G 0)]) S hI hxt hlk (x_findPromise l hst9 G _ hX hb) (cw_X3_X3_findPromise S.2.2.2.2 ⟨Nat.le_of_ble_eq_true rfl, Nat.le_of_ble_eq_true rfl⟩) rfl hl.1 (Nat.le_of_ble_eq_true rfl) dX3_hoursUntilFrozen_3
set_option maxRecDepth 100000 in
set_option maxHeartbeats 4000000 in
theorem x_hoursUntilThawed (l : Launch) (hst9 : l.stackTraces = false) (G : Gt) (σ : St) {n : Nat} {ar hh pw : Int32} (hX : gX σ = (nI n, ar, hh, pw)) {v : Int32} (hb : v < 0 ∨ nI n ≤ v) : CtX l G yX3_hoursUntilThawed cX3_hoursUntilThawed 2 (some .int) 7 [.ref (gB G 0), .int v] σ (NoI G) ioX := by
  refine mx_intro (by decide +kernel) (Nat.le_of_ble_eq_true rfl) ?_
  intro p e s m below meth c S hr hlk hxt hI ls hl
  have hl : lv_has ls 2 [(0, .ref (gB G 0)), (1, .int v)] := hl
  refine lv_aload_n S.1 S.2.1 dX3_hoursUntilThawed_0 rfl (lv_at hl 0 rfl) ?_
  refine lv_aload_n S.1 S.2.1 dX3_hoursUntilThawed_1 rfl (lv_at hl 0 rfl) ?_
  refine lv_iload_n S.1 S.2.1 dX3_hoursUntilThawed_2 rfl (lv_at hl 1 rfl) ?_
  exact thr_vq (As := [.int v]) (rest := [.ref (gB G 0)]) S hI hxt hlk (x_findPromise l hst9 G _ hX hb) (cw_X3_X3_findPromise S.2.2.2.2 ⟨Nat.le_of_ble_eq_true rfl, Nat.le_of_ble_eq_true rfl⟩) rfl hl.1 (Nat.le_of_ble_eq_true rfl) dX3_hoursUntilThawed_3
set_option maxRecDepth 100000 in
set_option maxHeartbeats 4000000 in
theorem x_hoursUntilExpired (l : Launch) (hst9 : l.stackTraces = false) (G : Gt) (σ : St) {n : Nat} {ar hh pw : Int32} (hX : gX σ = (nI n, ar, hh, pw)) {v : Int32} (hb : v < 0 ∨ nI n ≤ v) : CtX l G yX3_hoursUntilExpired cX3_hoursUntilExpired 2 (some .int) 7 [.ref (gB G 0), .int v] σ (NoI G) ioX := by
  refine mx_intro (by decide +kernel) (Nat.le_of_ble_eq_true rfl) ?_
  intro p e s m below meth c S hr hlk hxt hI ls hl
  have hl : lv_has ls 2 [(0, .ref (gB G 0)), (1, .int v)] := hl
  refine lv_aload_n S.1 S.2.1 dX3_hoursUntilExpired_0 rfl (lv_at hl 0 rfl) ?_
  refine lv_aload_n S.1 S.2.1 dX3_hoursUntilExpired_1 rfl (lv_at hl 0 rfl) ?_
  refine lv_iload_n S.1 S.2.1 dX3_hoursUntilExpired_2 rfl (lv_at hl 1 rfl) ?_
  exact thr_vq (As := [.int v]) (rest := [.ref (gB G 0)]) S hI hxt hlk (x_findPromise l hst9 G _ hX hb) (cw_X3_X3_findPromise S.2.2.2.2 ⟨Nat.le_of_ble_eq_true rfl, Nat.le_of_ble_eq_true rfl⟩) rfl hl.1 (Nat.le_of_ble_eq_true rfl) dX3_hoursUntilExpired_3
set_option maxRecDepth 100000 in
set_option maxHeartbeats 4000000 in
theorem x_owedBy (l : Launch) (hst9 : l.stackTraces = false) (G : Gt) (σ : St) {v : Int32} (hb : v < 0 ∨ nI 6 ≤ v) : CtX l G yX3_owedBy cX3_owedBy 7 (some .int) 7 [.ref (gB G 0), .int v] σ (NoI G) ioX := by
  refine mx_intro (by decide +kernel) (Nat.le_of_ble_eq_true rfl) ?_
  intro p e s m below meth c S hr hlk hxt hI ls hl
  have hl : lv_has ls 7 [(0, .ref (gB G 0)), (1, .int v)] := hl
  refine lv_iload_n S.1 S.2.1 dX3_owedBy_0 rfl (lv_at hl 1 rfl) ?_
  exact thr_sv (As := [.int v]) (rest := []) S hI hxt hlk (x_checkMaker l hst9 G _ hb) (cw_X3_X3_checkMaker S.2.2.2.2 ⟨Nat.le_of_ble_eq_true rfl, Nat.le_of_ble_eq_true rfl⟩) rfl hl.1 (Nat.le_of_ble_eq_true rfl) dX3_owedBy_1
set_option maxRecDepth 100000 in
set_option maxHeartbeats 4000000 in
theorem x_honourOf (l : Launch) (hst9 : l.stackTraces = false) (G : Gt) (σ : St) {v : Int32} (hb : v < 0 ∨ nI 6 ≤ v) : CtX l G yX3_honourOf cX3_honourOf 2 (some .int) 7 [.ref (gB G 0), .int v] σ (NoI G) ioX := by
  refine mx_intro (by decide +kernel) (Nat.le_of_ble_eq_true rfl) ?_
  intro p e s m below meth c S hr hlk hxt hI ls hl
  have hl : lv_has ls 2 [(0, .ref (gB G 0)), (1, .int v)] := hl
  refine lv_iload_n S.1 S.2.1 dX3_honourOf_0 rfl (lv_at hl 1 rfl) ?_
  exact thr_sv (As := [.int v]) (rest := []) S hI hxt hlk (x_checkMaker l hst9 G _ hb) (cw_X3_X3_checkMaker S.2.2.2.2 ⟨Nat.le_of_ble_eq_true rfl, Nat.le_of_ble_eq_true rfl⟩) rfl hl.1 (Nat.le_of_ble_eq_true rfl) dX3_honourOf_1
set_option maxRecDepth 100000 in
set_option maxHeartbeats 4000000 in
theorem x_pass (l : Launch) (hst9 : l.stackTraces = false) (G : Gt) (σ : St) {v : Int32} (hb : v < 1 ∨ 100 < v) : CtX l G yX3_pass cX3_pass 4 (some .int) 7 [.ref (gB G 0), .int v] σ (NoI G) iaX := by
  refine mx_intro (by decide +kernel) (Nat.le_of_ble_eq_true rfl) ?_
  intro p e s m below meth c S hr hlk hxt hI ls hl
  have hl : lv_has ls 4 [(0, .ref (gB G 0)), (1, .int v)] := hl
  refine lv_iload_n S.1 S.2.1 dX3_pass_0 rfl (lv_at hl 1 rfl) ?_
  exact thr_sv (As := [.int v]) (rest := []) S hI hxt hlk (x_checkHours l hst9 G _ hb) (cw_X3_X3_checkHours S.2.2.2.2 ⟨Nat.le_of_ble_eq_true rfl, Nat.le_of_ble_eq_true rfl⟩) rfl hl.1 (Nat.le_of_ble_eq_true rfl) dX3_pass_1
set_option maxRecDepth 100000 in
set_option maxHeartbeats 4000000 in
theorem x_leftIn (l : Launch) (hst9 : l.stackTraces = false) (G : Gt) (σ : St) {v : Int32} (hb : v < 1 ∨ 100 < v) : CtX l G yX3_leftIn cX3_leftIn 7 (some .int) 7 [.ref (gB G 0), .int v] σ (NoI G) iaX := by
  refine mx_intro (by decide +kernel) (Nat.le_of_ble_eq_true rfl) ?_
  intro p e s m below meth c S hr hlk hxt hI ls hl
  have hl : lv_has ls 7 [(0, .ref (gB G 0)), (1, .int v)] := hl
  refine lv_iload_n S.1 S.2.1 dX3_leftIn_0 rfl (lv_at hl 1 rfl) ?_
  exact thr_sv (As := [.int v]) (rest := []) S hI hxt hlk (x_checkHours l hst9 G _ hb) (cw_X3_X3_checkHours S.2.2.2.2 ⟨Nat.le_of_ble_eq_true rfl, Nat.le_of_ble_eq_true rfl⟩) rfl hl.1 (Nat.le_of_ble_eq_true rfl) dX3_leftIn_1
set_option maxRecDepth 100000 in
set_option maxHeartbeats 4000000 in
theorem x_make_m (l : Launch) (hst9 : l.stackTraces = false) (G : Gt) (σ : St) {v : Int32} (v2 v3 : Int32) (hb : v < 0 ∨ nI 6 ≤ v) : CtX l G yX3_make cX3_make 6 (some .int) 7 [.ref (gB G 0), .int v, .int v2, .int v3] σ (NoI G) ioX := by
  refine mx_intro (by decide +kernel) (Nat.le_of_ble_eq_true rfl) ?_
  intro p e s m below meth c S hr hlk hxt hI ls hl
  have hl : lv_has ls 6 [(0, .ref (gB G 0)), (1, .int v), (2, .int v2), (3, .int v3)] := hl
  refine lv_iload_n S.1 S.2.1 dX3_make_0 rfl (lv_at hl 1 rfl) ?_
  exact thr_sv (As := [.int v]) (rest := []) S hI hxt hlk (x_checkMaker l hst9 G _ hb) (cw_X3_X3_checkMaker S.2.2.2.2 ⟨Nat.le_of_ble_eq_true rfl, Nat.le_of_ble_eq_true rfl⟩) rfl hl.1 (Nat.le_of_ble_eq_true rfl) dX3_make_1
set_option maxRecDepth 100000 in
set_option maxHeartbeats 4000000 in
theorem x_make_s (l : Launch) (hst9 : l.stackTraces = false) (G : Gt) (σ : St) {a : Nat} (ha : a < 6) (v2 : Int32) {v : Int32} (hb : v < 0 ∨ nI 5 ≤ v) : CtX l G yX3_make cX3_make 6 (some .int) 7 [.ref (gB G 0), .int (nI a), .int v2, .int v] σ (NoI G) ioX := by
  refine mx_intro (by decide +kernel) (Nat.le_of_ble_eq_true rfl) ?_
  intro p e s m below meth c S hr hlk hxt hI ls hl
  have hl : lv_has ls 6 [(0, .ref (gB G 0)), (1, .int (nI a)), (2, .int v2), (3, .int v)] := hl
  refine lv_iload_n S.1 S.2.1 dX3_make_0 rfl (lv_at hl 1 rfl) ?_
  refine cl_v hI (rnS (As := [.int (nI a)]) (rest := []) S hI (c_checkMaker l G _ ha) (cw_X3_X3_checkMaker S.2.2.2.2 ⟨Nat.le_of_ble_eq_true rfl, Nat.le_of_ble_eq_true rfl⟩) rfl hl.1 (Nat.le_of_ble_eq_true rfl) dX3_make_1 ⟨Nat.le_of_ble_eq_true rfl, Nat.le_of_ble_eq_true rfl⟩) (fun σ1 H locs hq1 hI => ?_)
  rw [hq1] at hI
  refine lv_aload_n S.1 S.2.1 dX3_make_4 rfl (lv_at hl 0 rfl) ?_
  refine lv_iload_n S.1 S.2.1 dX3_make_5 rfl (lv_at hl 3 rfl) ?_
  exact thr_vq (As := [.int v]) (rest := []) S hI hxt hlk (x_findShelf l hst9 G _ hb) (cw_X3_X3_findShelf S.2.2.2.2 ⟨Nat.le_of_ble_eq_true rfl, Nat.le_of_ble_eq_true rfl⟩) rfl hl.1 (Nat.le_of_ble_eq_true rfl) dX3_make_6
set_option maxRecDepth 100000 in
set_option maxHeartbeats 4000000 in
theorem x_make_l (l : Launch) (hst9 : l.stackTraces = false) (G : Gt) (σ : St) {a k : Nat} (ha : a < 6) (hk : k < 5) {v : Int32} (hb : v < 1 ∨ 100 < v) : CtX l G yX3_make cX3_make 6 (some .int) 7 [.ref (gB G 0), .int (nI a), .int v, .int (nI k)] σ (NoI G) iaX := by
  refine mx_intro (by decide +kernel) (Nat.le_of_ble_eq_true rfl) ?_
  intro p e s m below meth c S hr hlk hxt hI ls hl
  have hl : lv_has ls 6 [(0, .ref (gB G 0)), (1, .int (nI a)), (2, .int v), (3, .int (nI k))] := hl
  refine lv_iload_n S.1 S.2.1 dX3_make_0 rfl (lv_at hl 1 rfl) ?_
  refine cl_v hI (rnS (As := [.int (nI a)]) (rest := []) S hI (c_checkMaker l G _ ha) (cw_X3_X3_checkMaker S.2.2.2.2 ⟨Nat.le_of_ble_eq_true rfl, Nat.le_of_ble_eq_true rfl⟩) rfl hl.1 (Nat.le_of_ble_eq_true rfl) dX3_make_1 ⟨Nat.le_of_ble_eq_true rfl, Nat.le_of_ble_eq_true rfl⟩) (fun σ1 H locs hq1 hI => ?_)
  rw [hq1] at hI
  refine lv_aload_n S.1 S.2.1 dX3_make_4 rfl (lv_at hl 0 rfl) ?_
  refine lv_iload_n S.1 S.2.1 dX3_make_5 rfl (lv_at hl 3 rfl) ?_
  refine cl_q hI (rnV (As := [.int (nI k)]) (rest := []) S hI (c_findShelf l G _ hk) (cw_X3_X3_findShelf S.2.2.2.2 ⟨Nat.le_of_ble_eq_true rfl, Nat.le_of_ble_eq_true rfl⟩) (rcX hI) rfl hl.1 (Nat.le_of_ble_eq_true rfl) dX3_make_6 ⟨Nat.le_of_ble_eq_true rfl, Nat.le_of_ble_eq_true rfl⟩) (fun r2 σ2 H locs hq2 hI => ?_)
  obtain ⟨hr2, hs2⟩ := hq2
  rw [hs2] at hI
  rw [hr2]
  show W _ _ _ _ _ _ _ _ _ _ _ _ _ _ _ (F0 _ _ _ (.ref (gB G (9 + k)) :: _))
  refine lv_astore (lv' := [(4, .ref (gB G (9 + k))), (0, .ref (gB G 0)), (1, .int (nI a)), (2, .int v), (3, .int (nI k))]) S.1 S.2.1 dX3_make_9 hl (by decide) rfl (fun ls hl => ?_)
  refine lv_iload_n S.1 S.2.1 dX3_make_11 rfl (lv_at hl 3 rfl) ?_
  refine lv_iconst (v := 1) S.1 S.2.1 dX3_make_12 (by decide) ?_
  refine lv_icmp_lt (tgt := 22) S.1 S.2.1 dX3_make_13 (by decide) (fun cz_13 => ?_) (fun cz_13 => ?_)
  · exact thr_new S hI hst9 (q := (56, "a life is 1 to 100 hours")) (by decide) (by decide +kernel) thr_k2 thr_i2 thr_in2 thr_g2 thr_o2 hl.1 hxt hlk (by decide) dX3_make_22 dX3_make_25 dX3_make_26 dX3_make_28 dX3_make_31
  · refine lv_iload_n S.1 S.2.1 dX3_make_16 rfl (lv_at hl 3 rfl) ?_
    refine lv_bipush (v := 100) S.1 S.2.1 dX3_make_17 (by decide) ?_
    refine lv_icmp_le (tgt := 32) S.1 S.2.1 dX3_make_19 (by decide) (fun c9 => absurd c9 (by rcases hb with q9 | q9 <;> first | exact absurd q9 cz_13 | exact Int32.not_le.mpr q9)) (fun cz_19 => ?_)
    exact thr_new S hI hst9 (q := (56, "a life is 1 to 100 hours")) (by decide) (by decide +kernel) thr_k2 thr_i2 thr_in2 thr_g2 thr_o2 hl.1 hxt hlk (by decide) dX3_make_22 dX3_make_25 dX3_make_26 dX3_make_28 dX3_make_31
set_option maxRecDepth 100000 in
set_option maxHeartbeats 4000000 in
theorem x_make_f (l : Launch) (hst9 : l.stackTraces = false) (G : Gt) (σ : St) {a b k : Nat} (ha : a < 6) (hb1 : 1 ≤ b) (hb : b ≤ 100) (hk : k < 5) {ar hh pw : Int32} (hX : gX σ = (nI 20, ar, hh, pw)) : CtX l G yX3_make cX3_make 6 (some .int) 7 [.ref (gB G 0), .int (nI a), .int (nI b), .int (nI k)] σ (NoI G) isX := by
  refine mx_intro (by decide +kernel) (Nat.le_of_ble_eq_true rfl) ?_
  intro p e s m below meth c S hr hlk hxt hI ls hl
  have hl : lv_has ls 6 [(0, .ref (gB G 0)), (1, .int (nI a)), (2, .int (nI b)), (3, .int (nI k))] := hl
  refine lv_iload_n S.1 S.2.1 dX3_make_0 rfl (lv_at hl 1 rfl) ?_
  refine cl_v hI (rnS (As := [.int (nI a)]) (rest := []) S hI (c_checkMaker l G _ ha) (cw_X3_X3_checkMaker S.2.2.2.2 ⟨Nat.le_of_ble_eq_true rfl, Nat.le_of_ble_eq_true rfl⟩) rfl hl.1 (Nat.le_of_ble_eq_true rfl) dX3_make_1 ⟨Nat.le_of_ble_eq_true rfl, Nat.le_of_ble_eq_true rfl⟩) (fun σ1 H locs hq1 hI => ?_)
  rw [hq1] at hI
  refine lv_aload_n S.1 S.2.1 dX3_make_4 rfl (lv_at hl 0 rfl) ?_
  refine lv_iload_n S.1 S.2.1 dX3_make_5 rfl (lv_at hl 3 rfl) ?_
  refine cl_q hI (rnV (As := [.int (nI k)]) (rest := []) S hI (c_findShelf l G _ hk) (cw_X3_X3_findShelf S.2.2.2.2 ⟨Nat.le_of_ble_eq_true rfl, Nat.le_of_ble_eq_true rfl⟩) (rcX hI) rfl hl.1 (Nat.le_of_ble_eq_true rfl) dX3_make_6 ⟨Nat.le_of_ble_eq_true rfl, Nat.le_of_ble_eq_true rfl⟩) (fun r2 σ2 H locs hq2 hI => ?_)
  obtain ⟨hr2, hs2⟩ := hq2
  rw [hs2] at hI
  rw [hr2]
  show W _ _ _ _ _ _ _ _ _ _ _ _ _ _ _ (F0 _ _ _ (.ref (gB G (9 + k)) :: _))
  refine lv_astore (lv' := [(4, .ref (gB G (9 + k))), (0, .ref (gB G 0)), (1, .int (nI a)), (2, .int (nI b)), (3, .int (nI k))]) S.1 S.2.1 dX3_make_9 hl (by decide) rfl (fun ls hl => ?_)
  refine lv_iload_n S.1 S.2.1 dX3_make_11 rfl (lv_at hl 3 rfl) ?_
  refine lv_iconst (v := 1) S.1 S.2.1 dX3_make_12 (by decide) ?_
  refine lv_icmp_lt (tgt := 22) S.1 S.2.1 dX3_make_13 (by decide) (fun c9 => absurd c9 (nI_nlt (b := 1) hb1 (by omega))) (fun cz_13 => ?_)
  refine lv_iload_n S.1 S.2.1 dX3_make_16 rfl (lv_at hl 3 rfl) ?_
  refine lv_bipush (v := 100) S.1 S.2.1 dX3_make_17 (by decide) ?_
  refine lv_icmp_le (tgt := 32) S.1 S.2.1 dX3_make_19 (by decide) (fun cz_19 => ?_) (fun c9 => absurd (nI_le (b := 100) hb (by omega)) c9)
  refine lv_aload_n S.1 S.2.1 dX3_make_32 rfl (lv_at hl 1 rfl) ?_
  refine g_X3_X_made S hI hX dX3_make_33 ?_
  refine lv_bipush (v := 20) S.1 S.2.1 dX3_make_36 (by decide) ?_
  refine lv_icmp_lt (tgt := 51) S.1 S.2.1 dX3_make_38 (by decide) (fun c9 => absurd c9 (by decide)) (fun cz_38 => ?_)
  exact thr_new S hI hst9 (q := (63, "there are 20 promises")) (by decide) (by decide +kernel) thr_k3 thr_i3 thr_in3 thr_g3 thr_o3 hl.1 hxt hlk (by decide) dX3_make_41 dX3_make_44 dX3_make_45 dX3_make_47 dX3_make_50
set_option maxRecDepth 100000 in
set_option maxHeartbeats 4000000 in
theorem x_move_p (l : Launch) (hst9 : l.stackTraces = false) (G : Gt) (σ : St) {n : Nat} {ar hh pw : Int32} (hX : gX σ = (nI n, ar, hh, pw)) {v : Int32} (v2 : Int32) (hb : v < 0 ∨ nI n ≤ v) : CtX l G yX3_move cX3_move 6 (some .int) 7 [.ref (gB G 0), .int v, .int v2] σ (NoI G) ioX := by
  refine mx_intro (by decide +kernel) (Nat.le_of_ble_eq_true rfl) ?_
  intro p e s m below meth c S hr hlk hxt hI ls hl
  have hl : lv_has ls 6 [(0, .ref (gB G 0)), (1, .int v), (2, .int v2)] := hl
  refine lv_aload_n S.1 S.2.1 dX3_move_0 rfl (lv_at hl 0 rfl) ?_
  refine lv_iload_n S.1 S.2.1 dX3_move_1 rfl (lv_at hl 1 rfl) ?_
  exact thr_vq (As := [.int v]) (rest := []) S hI hxt hlk (x_findPromise l hst9 G _ hX hb) (cw_X3_X3_findPromise S.2.2.2.2 ⟨Nat.le_of_ble_eq_true rfl, Nat.le_of_ble_eq_true rfl⟩) rfl hl.1 (Nat.le_of_ble_eq_true rfl) dX3_move_2
set_option maxRecDepth 100000 in
set_option maxHeartbeats 4000000 in
theorem x_move_s (l : Launch) (hst9 : l.stackTraces = false) (G : Gt) (σ : St) {i n : Nat} (hi : i < n) (hn : n ≤ 20) {ar hh pw : Int32} (hX : gX σ = (nI n, ar, hh, pw)) {v : Int32} (hb : v < 0 ∨ nI 5 ≤ v) : CtX l G yX3_move cX3_move 6 (some .int) 7 [.ref (gB G 0), .int (nI i), .int v] σ (NoI G) ioX := by
  refine mx_intro (by decide +kernel) (Nat.le_of_ble_eq_true rfl) ?_
  intro p e s m below meth c S hr hlk hxt hI ls hl
  have hl : lv_has ls 6 [(0, .ref (gB G 0)), (1, .int (nI i)), (2, .int v)] := hl
  refine lv_aload_n S.1 S.2.1 dX3_move_0 rfl (lv_at hl 0 rfl) ?_
  refine lv_iload_n S.1 S.2.1 dX3_move_1 rfl (lv_at hl 1 rfl) ?_
  refine cl_q hI (rnV (As := [.int (nI i)]) (rest := []) S hI (c_findPromise l G _ hi hn hX) (cw_X3_X3_findPromise S.2.2.2.2 ⟨Nat.le_of_ble_eq_true rfl, Nat.le_of_ble_eq_true rfl⟩) (rcX hI) rfl hl.1 (Nat.le_of_ble_eq_true rfl) dX3_move_2 ⟨Nat.le_of_ble_eq_true rfl, Nat.le_of_ble_eq_true rfl⟩) (fun r1 σ1 H locs hq1 hI => ?_)
  obtain ⟨hr1, hs1⟩ := hq1
  rw [hs1] at hI
  rw [hr1]
  show W _ _ _ _ _ _ _ _ _ _ _ _ _ _ _ (F0 _ _ _ (.ref (gB G (15 + i)) :: _))
  refine lv_astore_n (lv' := [(3, .ref (gB G (15 + i))), (0, .ref (gB G 0)), (1, .int (nI i)), (2, .int v)]) S.1 S.2.1 dX3_move_5 rfl hl (by decide) rfl (fun ls hl => ?_)
  refine lv_aload_n S.1 S.2.1 dX3_move_6 rfl (lv_at hl 1 rfl) ?_
  refine lv_iload_n S.1 S.2.1 dX3_move_7 rfl (lv_at hl 3 rfl) ?_
  exact thr_vq (As := [.int v]) (rest := []) S hI hxt hlk (x_findShelf l hst9 G _ hb) (cw_X3_X3_findShelf S.2.2.2.2 ⟨Nat.le_of_ble_eq_true rfl, Nat.le_of_ble_eq_true rfl⟩) rfl hl.1 (Nat.le_of_ble_eq_true rfl) dX3_move_8
set_option maxRecDepth 100000 in
set_option maxHeartbeats 4000000 in
theorem x_move_n (l : Launch) (hst9 : l.stackTraces = false) (G : Gt) (σ : St) {i n : Nat} (hi : i < n) (hn : n ≤ 20) {ar hh pw : Int32} (hX : gX σ = (nI n, ar, hh, pw)) {k : Nat} (hk : k < 5) (hs : ¬ (gP σ i).2.1 < 6) : CtX l G yX3_move cX3_move 6 (some .int) 7 [.ref (gB G 0), .int (nI i), .int (nI k)] σ (NoI G) isX := by
  refine mx_intro (by decide +kernel) (Nat.le_of_ble_eq_true rfl) ?_
  intro p e s m below meth c S hr hlk hxt hI ls hl
  have hl : lv_has ls 6 [(0, .ref (gB G 0)), (1, .int (nI i)), (2, .int (nI k))] := hl
  refine lv_aload_n S.1 S.2.1 dX3_move_0 rfl (lv_at hl 0 rfl) ?_
  refine lv_iload_n S.1 S.2.1 dX3_move_1 rfl (lv_at hl 1 rfl) ?_
  refine cl_q hI (rnV (As := [.int (nI i)]) (rest := []) S hI (c_findPromise l G _ hi hn hX) (cw_X3_X3_findPromise S.2.2.2.2 ⟨Nat.le_of_ble_eq_true rfl, Nat.le_of_ble_eq_true rfl⟩) (rcX hI) rfl hl.1 (Nat.le_of_ble_eq_true rfl) dX3_move_2 ⟨Nat.le_of_ble_eq_true rfl, Nat.le_of_ble_eq_true rfl⟩) (fun r1 σ1 H locs hq1 hI => ?_)
  obtain ⟨hr1, hs1⟩ := hq1
  rw [hs1] at hI
  rw [hr1]
  show W _ _ _ _ _ _ _ _ _ _ _ _ _ _ _ (F0 _ _ _ (.ref (gB G (15 + i)) :: _))
  refine lv_astore_n (lv' := [(3, .ref (gB G (15 + i))), (0, .ref (gB G 0)), (1, .int (nI i)), (2, .int (nI k))]) S.1 S.2.1 dX3_move_5 rfl hl (by decide) rfl (fun ls hl => ?_)
  refine lv_aload_n S.1 S.2.1 dX3_move_6 rfl (lv_at hl 1 rfl) ?_
  refine lv_iload_n S.1 S.2.1 dX3_move_7 rfl (lv_at hl 3 rfl) ?_
  refine cl_q hI (rnV (As := [.int (nI k)]) (rest := []) S hI (c_findShelf l G _ hk) (cw_X3_X3_findShelf S.2.2.2.2 ⟨Nat.le_of_ble_eq_true rfl, Nat.le_of_ble_eq_true rfl⟩) (rcX hI) rfl hl.1 (Nat.le_of_ble_eq_true rfl) dX3_move_8 ⟨Nat.le_of_ble_eq_true rfl, Nat.le_of_ble_eq_true rfl⟩) (fun r2 σ2 H locs hq2 hI => ?_)
  obtain ⟨hr2, hs2⟩ := hq2
  rw [hs2] at hI
  rw [hr2]
  show W _ _ _ _ _ _ _ _ _ _ _ _ _ _ _ (F0 _ _ _ (.ref (gB G (9 + k)) :: _))
  refine lv_astore (lv' := [(4, .ref (gB G (9 + k))), (3, .ref (gB G (15 + i))), (0, .ref (gB G 0)), (1, .int (nI i)), (2, .int (nI k))]) S.1 S.2.1 dX3_move_11 hl (by decide) rfl (fun ls hl => ?_)
  refine lv_aload_n S.1 S.2.1 dX3_move_13 rfl (lv_at hl 1 rfl) ?_
  refine g_X3_P_shelf_n S hI (by omega) (pEta (gP σ i)) hs dX3_move_14 ?_
  refine lv_astoreN (lv' := [(5, .null), (4, .ref (gB G (9 + k))), (3, .ref (gB G (15 + i))), (0, .ref (gB G 0)), (1, .int (nI i)), (2, .int (nI k))]) S.1 S.2.1 dX3_move_17 hl (by decide) rfl (fun ls hl => ?_)
  refine lv_aloadN S.1 S.2.1 dX3_move_19 (lv_at hl 0 rfl) ?_
  refine lv_ifnonnullN S.1 S.2.1 dX3_move_21 ?_
  exact thr_new S hI hst9 (q := (80, "the promise lies on no shelf")) (by decide) (by decide +kernel) thr_k3 thr_i3 thr_in3 thr_g3 thr_o3 hl.1 hxt hlk (by decide) dX3_move_24 dX3_move_27 dX3_move_28 dX3_move_30 dX3_move_33
set_option maxRecDepth 100000 in
set_option maxHeartbeats 4000000 in
theorem x_move_e (l : Launch) (hst9 : l.stackTraces = false) (G : Gt) (σ : St) {i n : Nat} (hi : i < n) (hn : n ≤ 20) {ar hh pw : Int32} (hX : gX σ = (nI n, ar, hh, pw)) {k : Nat} (hk : k < 5) (hs : (gP σ i).2.1 < 5) (hne : (gP σ i).2.1 = k) : CtX l G yX3_move cX3_move 6 (some .int) 7 [.ref (gB G 0), .int (nI i), .int (nI k)] σ (NoI G) isX := by
  refine mx_intro (by decide +kernel) (Nat.le_of_ble_eq_true rfl) ?_
  intro p e s m below meth c S hr hlk hxt hI ls hl
  have hl : lv_has ls 6 [(0, .ref (gB G 0)), (1, .int (nI i)), (2, .int (nI k))] := hl
  refine lv_aload_n S.1 S.2.1 dX3_move_0 rfl (lv_at hl 0 rfl) ?_
  refine lv_iload_n S.1 S.2.1 dX3_move_1 rfl (lv_at hl 1 rfl) ?_
  refine cl_q hI (rnV (As := [.int (nI i)]) (rest := []) S hI (c_findPromise l G _ hi hn hX) (cw_X3_X3_findPromise S.2.2.2.2 ⟨Nat.le_of_ble_eq_true rfl, Nat.le_of_ble_eq_true rfl⟩) (rcX hI) rfl hl.1 (Nat.le_of_ble_eq_true rfl) dX3_move_2 ⟨Nat.le_of_ble_eq_true rfl, Nat.le_of_ble_eq_true rfl⟩) (fun r1 σ1 H locs hq1 hI => ?_)
  obtain ⟨hr1, hs1⟩ := hq1
  rw [hs1] at hI
  rw [hr1]
  show W _ _ _ _ _ _ _ _ _ _ _ _ _ _ _ (F0 _ _ _ (.ref (gB G (15 + i)) :: _))
  refine lv_astore_n (lv' := [(3, .ref (gB G (15 + i))), (0, .ref (gB G 0)), (1, .int (nI i)), (2, .int (nI k))]) S.1 S.2.1 dX3_move_5 rfl hl (by decide) rfl (fun ls hl => ?_)
  refine lv_aload_n S.1 S.2.1 dX3_move_6 rfl (lv_at hl 1 rfl) ?_
  refine lv_iload_n S.1 S.2.1 dX3_move_7 rfl (lv_at hl 3 rfl) ?_
  refine cl_q hI (rnV (As := [.int (nI k)]) (rest := []) S hI (c_findShelf l G _ hk) (cw_X3_X3_findShelf S.2.2.2.2 ⟨Nat.le_of_ble_eq_true rfl, Nat.le_of_ble_eq_true rfl⟩) (rcX hI) rfl hl.1 (Nat.le_of_ble_eq_true rfl) dX3_move_8 ⟨Nat.le_of_ble_eq_true rfl, Nat.le_of_ble_eq_true rfl⟩) (fun r2 σ2 H locs hq2 hI => ?_)
  obtain ⟨hr2, hs2⟩ := hq2
  rw [hs2] at hI
  rw [hr2]
  show W _ _ _ _ _ _ _ _ _ _ _ _ _ _ _ (F0 _ _ _ (.ref (gB G (9 + k)) :: _))
  refine lv_astore (lv' := [(4, .ref (gB G (9 + k))), (3, .ref (gB G (15 + i))), (0, .ref (gB G 0)), (1, .int (nI i)), (2, .int (nI k))]) S.1 S.2.1 dX3_move_11 hl (by decide) rfl (fun ls hl => ?_)
  refine lv_aload_n S.1 S.2.1 dX3_move_13 rfl (lv_at hl 1 rfl) ?_
  refine g_X3_P_shelf_s S hI (by omega) (pEta (gP σ i)) (show (gP σ i).2.1 < 6 by omega) dX3_move_14 ?_
  refine lv_astore (lv' := [(5, .ref (gB G (9 + (gP σ i).2.1))), (4, .ref (gB G (9 + k))), (3, .ref (gB G (15 + i))), (0, .ref (gB G 0)), (1, .int (nI i)), (2, .int (nI k))]) S.1 S.2.1 dX3_move_17 hl (by decide) rfl (fun ls hl => ?_)
  refine lv_aload S.1 S.2.1 dX3_move_19 (lv_at hl 0 rfl) ?_
  refine lv_ifnonnull (tgt := 34) S.1 S.2.1 dX3_move_21 (by decide) ?_
  refine lv_aload S.1 S.2.1 dX3_move_34 (lv_at hl 0 rfl) ?_
  refine lv_aload S.1 S.2.1 dX3_move_36 (lv_at hl 1 rfl) ?_
  refine ass_ne S hI (by omega) (by omega) (tgt := 51) dX3_move_38 (by decide) (fun c9 => absurd hne c9) (fun cz_38 => ?_)
  exact thr_new S hI hst9 (q := (82, "the promise lies on this shelf")) (by decide) (by decide +kernel) thr_k3 thr_i3 thr_in3 thr_g3 thr_o3 hl.1 hxt hlk (by decide) dX3_move_41 dX3_move_44 dX3_move_45 dX3_move_47 dX3_move_50
set_option maxRecDepth 100000 in
set_option maxHeartbeats 4000000 in
theorem x_move_t (l : Launch) (hst9 : l.stackTraces = false) (G : Gt) (σ : St) (hok : okP σ) {i n : Nat} (hi : i < n) (hn : n ≤ 20) {ar hh pw : Int32} (hX : gX σ = (nI n, ar, hh, pw)) {k : Nat} (hk : k < 5) (hs : (gP σ i).2.1 < 5) (hne : ¬ (gP σ i).2.1 = k) (hg3 : (gP σ i).1 = 3) : CtX l G yX3_move cX3_move 6 (some .int) 7 [.ref (gB G 0), .int (nI i), .int (nI k)] σ (NoI G) isX := by
  refine mx_intro (by decide +kernel) (Nat.le_of_ble_eq_true rfl) ?_
  intro p e s m below meth c S hr hlk hxt hI ls hl
  have hl : lv_has ls 6 [(0, .ref (gB G 0)), (1, .int (nI i)), (2, .int (nI k))] := hl
  refine lv_aload_n S.1 S.2.1 dX3_move_0 rfl (lv_at hl 0 rfl) ?_
  refine lv_iload_n S.1 S.2.1 dX3_move_1 rfl (lv_at hl 1 rfl) ?_
  refine cl_q hI (rnV (As := [.int (nI i)]) (rest := []) S hI (c_findPromise l G _ hi hn hX) (cw_X3_X3_findPromise S.2.2.2.2 ⟨Nat.le_of_ble_eq_true rfl, Nat.le_of_ble_eq_true rfl⟩) (rcX hI) rfl hl.1 (Nat.le_of_ble_eq_true rfl) dX3_move_2 ⟨Nat.le_of_ble_eq_true rfl, Nat.le_of_ble_eq_true rfl⟩) (fun r1 σ1 H locs hq1 hI => ?_)
  obtain ⟨hr1, hs1⟩ := hq1
  rw [hs1] at hI
  rw [hr1]
  show W _ _ _ _ _ _ _ _ _ _ _ _ _ _ _ (F0 _ _ _ (.ref (gB G (15 + i)) :: _))
  refine lv_astore_n (lv' := [(3, .ref (gB G (15 + i))), (0, .ref (gB G 0)), (1, .int (nI i)), (2, .int (nI k))]) S.1 S.2.1 dX3_move_5 rfl hl (by decide) rfl (fun ls hl => ?_)
  refine lv_aload_n S.1 S.2.1 dX3_move_6 rfl (lv_at hl 1 rfl) ?_
  refine lv_iload_n S.1 S.2.1 dX3_move_7 rfl (lv_at hl 3 rfl) ?_
  refine cl_q hI (rnV (As := [.int (nI k)]) (rest := []) S hI (c_findShelf l G _ hk) (cw_X3_X3_findShelf S.2.2.2.2 ⟨Nat.le_of_ble_eq_true rfl, Nat.le_of_ble_eq_true rfl⟩) (rcX hI) rfl hl.1 (Nat.le_of_ble_eq_true rfl) dX3_move_8 ⟨Nat.le_of_ble_eq_true rfl, Nat.le_of_ble_eq_true rfl⟩) (fun r2 σ2 H locs hq2 hI => ?_)
  obtain ⟨hr2, hs2⟩ := hq2
  rw [hs2] at hI
  rw [hr2]
  show W _ _ _ _ _ _ _ _ _ _ _ _ _ _ _ (F0 _ _ _ (.ref (gB G (9 + k)) :: _))
  refine lv_astore (lv' := [(4, .ref (gB G (9 + k))), (3, .ref (gB G (15 + i))), (0, .ref (gB G 0)), (1, .int (nI i)), (2, .int (nI k))]) S.1 S.2.1 dX3_move_11 hl (by decide) rfl (fun ls hl => ?_)
  refine lv_aload_n S.1 S.2.1 dX3_move_13 rfl (lv_at hl 1 rfl) ?_
  refine g_X3_P_shelf_s S hI (by omega) (pEta (gP σ i)) (show (gP σ i).2.1 < 6 by omega) dX3_move_14 ?_
  refine lv_astore (lv' := [(5, .ref (gB G (9 + (gP σ i).2.1))), (4, .ref (gB G (9 + k))), (3, .ref (gB G (15 + i))), (0, .ref (gB G 0)), (1, .int (nI i)), (2, .int (nI k))]) S.1 S.2.1 dX3_move_17 hl (by decide) rfl (fun ls hl => ?_)
  refine lv_aload S.1 S.2.1 dX3_move_19 (lv_at hl 0 rfl) ?_
  refine lv_ifnonnull (tgt := 34) S.1 S.2.1 dX3_move_21 (by decide) ?_
  refine lv_aload S.1 S.2.1 dX3_move_34 (lv_at hl 0 rfl) ?_
  refine lv_aload S.1 S.2.1 dX3_move_36 (lv_at hl 1 rfl) ?_
  refine ass_ne S hI (by omega) (by omega) (tgt := 51) dX3_move_38 (by decide) (fun cz_38 => ?_) (fun c9 => absurd c9 hne)
  refine lv_aload_n S.1 S.2.1 dX3_move_51 rfl (lv_at hl 2 rfl) ?_
  refine g_X3_P_stage S hI (by omega) (pEta (gP σ i)) dX3_move_52 ?_
  refine gs_X3_THAWED S hI dX3_move_55 ?_
  refine ag_ne S hI (hok i (by omega)).1 (by decide) (tgt := 71) dX3_move_58 (by decide) (fun c9 => absurd hg3 c9) (fun cz_58 => ?_)
  exact thr_new S hI hst9 (q := (93, "the promise is thawed")) (by decide) (by decide +kernel) thr_k3 thr_i3 thr_in3 thr_g3 thr_o3 hl.1 hxt hlk (by decide) dX3_move_61 dX3_move_64 dX3_move_65 dX3_move_67 dX3_move_70
set_option maxRecDepth 100000 in
set_option maxHeartbeats 4000000 in
theorem x_keep_p (l : Launch) (hst9 : l.stackTraces = false) (G : Gt) (σ : St) {n : Nat} {ar hh pw : Int32} (hX : gX σ = (nI n, ar, hh, pw)) {v : Int32} (hb : v < 0 ∨ nI n ≤ v) : CtX l G yX3_keep cX3_keep 4 (some .int) 7 [.ref (gB G 0), .int v] σ (NoI G) ioX := by
  refine mx_intro (by decide +kernel) (Nat.le_of_ble_eq_true rfl) ?_
  intro p e s m below meth c S hr hlk hxt hI ls hl
  have hl : lv_has ls 4 [(0, .ref (gB G 0)), (1, .int v)] := hl
  refine lv_aload_n S.1 S.2.1 dX3_keep_0 rfl (lv_at hl 0 rfl) ?_
  refine lv_iload_n S.1 S.2.1 dX3_keep_1 rfl (lv_at hl 1 rfl) ?_
  exact thr_vq (As := [.int v]) (rest := []) S hI hxt hlk (x_findPromise l hst9 G _ hX hb) (cw_X3_X3_findPromise S.2.2.2.2 ⟨Nat.le_of_ble_eq_true rfl, Nat.le_of_ble_eq_true rfl⟩) rfl hl.1 (Nat.le_of_ble_eq_true rfl) dX3_keep_2
set_option maxRecDepth 100000 in
set_option maxHeartbeats 4000000 in
theorem x_keep_n (l : Launch) (hst9 : l.stackTraces = false) (G : Gt) (σ : St) {i n : Nat} (hi : i < n) (hn : n ≤ 20) {ar hh pw : Int32} (hX : gX σ = (nI n, ar, hh, pw)) (hs : ¬ (gP σ i).2.1 < 6) : CtX l G yX3_keep cX3_keep 4 (some .int) 7 [.ref (gB G 0), .int (nI i)] σ (NoI G) isX := by
  refine mx_intro (by decide +kernel) (Nat.le_of_ble_eq_true rfl) ?_
  intro p e s m below meth c S hr hlk hxt hI ls hl
  have hl : lv_has ls 4 [(0, .ref (gB G 0)), (1, .int (nI i))] := hl
  refine lv_aload_n S.1 S.2.1 dX3_keep_0 rfl (lv_at hl 0 rfl) ?_
  refine lv_iload_n S.1 S.2.1 dX3_keep_1 rfl (lv_at hl 1 rfl) ?_
  refine cl_q hI (rnV (As := [.int (nI i)]) (rest := []) S hI (c_findPromise l G _ hi hn hX) (cw_X3_X3_findPromise S.2.2.2.2 ⟨Nat.le_of_ble_eq_true rfl, Nat.le_of_ble_eq_true rfl⟩) (rcX hI) rfl hl.1 (Nat.le_of_ble_eq_true rfl) dX3_keep_2 ⟨Nat.le_of_ble_eq_true rfl, Nat.le_of_ble_eq_true rfl⟩) (fun r1 σ1 H locs hq1 hI => ?_)
  obtain ⟨hr1, hs1⟩ := hq1
  rw [hs1] at hI
  rw [hr1]
  show W _ _ _ _ _ _ _ _ _ _ _ _ _ _ _ (F0 _ _ _ (.ref (gB G (15 + i)) :: _))
  refine lv_astore_n (lv' := [(2, .ref (gB G (15 + i))), (0, .ref (gB G 0)), (1, .int (nI i))]) S.1 S.2.1 dX3_keep_5 rfl hl (by decide) rfl (fun ls hl => ?_)
  refine lv_aload_n S.1 S.2.1 dX3_keep_6 rfl (lv_at hl 0 rfl) ?_
  refine g_X3_P_shelf_n S hI (by omega) (pEta (gP σ i)) hs dX3_keep_7 ?_
  refine lv_astore_nN (lv' := [(3, .null), (2, .ref (gB G (15 + i))), (0, .ref (gB G 0)), (1, .int (nI i))]) S.1 S.2.1 dX3_keep_10 rfl hl (by decide) rfl (fun ls hl => ?_)
  refine lv_aload_nN S.1 S.2.1 dX3_keep_11 rfl (lv_at hl 0 rfl) ?_
  refine lv_ifnonnullN S.1 S.2.1 dX3_keep_12 ?_
  exact thr_new S hI hst9 (q := (80, "the promise lies on no shelf")) (by decide) (by decide +kernel) thr_k3 thr_i3 thr_in3 thr_g3 thr_o3 hl.1 hxt hlk (by decide) dX3_keep_15 dX3_keep_18 dX3_keep_19 dX3_keep_21 dX3_keep_24
set_option maxRecDepth 100000 in
set_option maxHeartbeats 4000000 in
theorem x_set_s (l : Launch) (hst9 : l.stackTraces = false) (G : Gt) (σ : St) {v : Int32} (v2 : Int32) (hb : v < 0 ∨ nI 5 ≤ v) : CtX l G yX3_set cX3_set 5 (some .int) 7 [.ref (gB G 0), .int v, .int v2] σ (NoI G) ioX := by
  refine mx_intro (by decide +kernel) (Nat.le_of_ble_eq_true rfl) ?_
  intro p e s m below meth c S hr hlk hxt hI ls hl
  have hl : lv_has ls 5 [(0, .ref (gB G 0)), (1, .int v), (2, .int v2)] := hl
  refine lv_aload_n S.1 S.2.1 dX3_set_0 rfl (lv_at hl 0 rfl) ?_
  refine lv_iload_n S.1 S.2.1 dX3_set_1 rfl (lv_at hl 1 rfl) ?_
  exact thr_vq (As := [.int v]) (rest := []) S hI hxt hlk (x_findShelf l hst9 G _ hb) (cw_X3_X3_findShelf S.2.2.2.2 ⟨Nat.le_of_ble_eq_true rfl, Nat.le_of_ble_eq_true rfl⟩) rfl hl.1 (Nat.le_of_ble_eq_true rfl) dX3_set_2
set_option maxRecDepth 100000 in
set_option maxHeartbeats 4000000 in
theorem x_set_h (l : Launch) (hst9 : l.stackTraces = false) (G : Gt) (σ : St) {k : Nat} (hk : k < 5) {v : Int32} (hb : v < -30 ∨ -5 < v) : CtX l G yX3_set cX3_set 5 (some .int) 7 [.ref (gB G 0), .int (nI k), .int v] σ (NoI G) iaX := by
  refine mx_intro (by decide +kernel) (Nat.le_of_ble_eq_true rfl) ?_
  intro p e s m below meth c S hr hlk hxt hI ls hl
  have hl : lv_has ls 5 [(0, .ref (gB G 0)), (1, .int (nI k)), (2, .int v)] := hl
  refine lv_aload_n S.1 S.2.1 dX3_set_0 rfl (lv_at hl 0 rfl) ?_
  refine lv_iload_n S.1 S.2.1 dX3_set_1 rfl (lv_at hl 1 rfl) ?_
  refine cl_q hI (rnV (As := [.int (nI k)]) (rest := []) S hI (c_findShelf l G _ hk) (cw_X3_X3_findShelf S.2.2.2.2 ⟨Nat.le_of_ble_eq_true rfl, Nat.le_of_ble_eq_true rfl⟩) (rcX hI) rfl hl.1 (Nat.le_of_ble_eq_true rfl) dX3_set_2 ⟨Nat.le_of_ble_eq_true rfl, Nat.le_of_ble_eq_true rfl⟩) (fun r1 σ1 H locs hq1 hI => ?_)
  obtain ⟨hr1, hs1⟩ := hq1
  rw [hs1] at hI
  rw [hr1]
  show W _ _ _ _ _ _ _ _ _ _ _ _ _ _ _ (F0 _ _ _ (.ref (gB G (9 + k)) :: _))
  refine lv_astore_n (lv' := [(3, .ref (gB G (9 + k))), (0, .ref (gB G 0)), (1, .int (nI k)), (2, .int v)]) S.1 S.2.1 dX3_set_5 rfl hl (by decide) rfl (fun ls hl => ?_)
  refine lv_iload_n S.1 S.2.1 dX3_set_6 rfl (lv_at hl 3 rfl) ?_
  refine lv_bipush (v := (-30)) S.1 S.2.1 dX3_set_7 (by decide) ?_
  refine lv_icmp_lt (tgt := 18) S.1 S.2.1 dX3_set_9 (by decide) (fun cz_9 => ?_) (fun cz_9 => ?_)
  · exact thr_new S hI hst9 (q := (111, "a setting is -30 to -5")) (by decide) (by decide +kernel) thr_k2 thr_i2 thr_in2 thr_g2 thr_o2 hl.1 hxt hlk (by decide) dX3_set_18 dX3_set_21 dX3_set_22 dX3_set_24 dX3_set_27
  · refine lv_iload_n S.1 S.2.1 dX3_set_12 rfl (lv_at hl 3 rfl) ?_
    refine lv_bipush (v := (-5)) S.1 S.2.1 dX3_set_13 (by decide) ?_
    refine lv_icmp_le (tgt := 28) S.1 S.2.1 dX3_set_15 (by decide) (fun c9 => absurd c9 (by rcases hb with q9 | q9 <;> first | exact absurd q9 cz_9 | exact Int32.not_le.mpr q9)) (fun cz_15 => ?_)
    exact thr_new S hI hst9 (q := (111, "a setting is -30 to -5")) (by decide) (by decide +kernel) thr_k2 thr_i2 thr_in2 thr_g2 thr_o2 hl.1 hxt hlk (by decide) dX3_set_18 dX3_set_21 dX3_set_22 dX3_set_24 dX3_set_27
