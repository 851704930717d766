section LCN
variable {p : Program} {l : Launch} {e : Env} {R : Room} {s : State} {m : MethodId} {args : Array Value} {below : List Frame} {meth : Method} {c : Code} {H : Heap} {locs : List Loc} {cells slots : Nat} {Q : State → Prop}
variable {ls : Array Slot} {G : Gt} {σ : St} {b L j : Nat} {xs : Nat → Int32}
set_option maxRecDepth 100000 in
set_option maxHeartbeats 4000000 in
theorem lc_switchPower (hst9 : l.stackTraces = false) (S : CallFix p m c cL_law 9 s args AL RL) (hI : Iv G σ s H locs) (hl : lv_has ls 9 [(0, .ref b), (1, .ref (gB G 0)), (2, .ref (gB G 3)), (3, .ref (gB G 8)), (4, .int (nI j))]) (hR9 : Rel σ) (hF9 : 12 ≤ R.frames ∧ 440 ≤ R.locals) (hC9 : cells ≤ R.cells) (hS9 : slots ≤ R.slots) (kont : Kont p l e R s m args below meth c cells slots Q G b j) : W p l e R s m args below meth c H locs cells slots Q (F0 m 460 ls []) := by
  obtain ⟨n, th, mk, lf, nw, kp, hX, hM, hpic⟩ := hR9
  have hX4 : gX σ = (nI n, (gX σ).2.1, (gX σ).2.2.1, (gX σ).2.2.2) := by rw [← hX]
  have hn20 := hpic.1
  refine lv_aload_n S.1 S.2.1 dL_law_460 rfl (lv_at hl 1 rfl) ?_
  refine cl_i hI (rnV (As := []) (rest := []) S hI (c_switchPower l G σ hpic.2.2.1) (cw_L_X3_switchPower S.2.2.2.2 ⟨by omega, by omega⟩) (rcX hI) rfl hl.1 (Nat.le_of_ble_eq_true rfl) dL_law_461 ⟨by omega, by omega⟩) (fun r1 σ1 H locs hq1 hI => ?_)
  obtain ⟨hr1, ht1⟩ := hq1
  refine lv_aload_n S.1 S.2.1 dL_law_464 rfl (lv_at hl 2 rfl) ?_
  refine cl_i hI (rnV (As := []) (rest := [.int r1]) S hI (m_switchPower l G σ1 (show gM σ1 = _ from (congrArg (fun z => z.2.1) ht1).trans hM) hpic) (cw_L_X4_switchPower S.2.2.2.2 ⟨by omega, by omega⟩) (rcM hI) rfl hl.1 (Nat.le_of_ble_eq_true rfl) dL_law_465 ⟨by omega, by omega⟩) (fun r2 σ2 H locs hq2 hI => ?_)
  obtain ⟨hr2, mk2, lf2, nw2, kp2, rfl, hp2⟩ := hq2
  exact lv_icmp_eq (tgt := 1724) S.1 S.2.1 dL_law_468 (by decide) (fun _ => kont (setM σ1 (0, nI n, mk2, lf2, nw2, kp2)) _ _ _ ⟨n, 0, mk2, lf2, nw2, kp2, (congrArg (fun z => (gX z).1) ht1).trans hX, rfl, hp2.cong (by intro k _; show gS σ1 k = _; rw [ht1]) (by intro q _; show gP σ1 q = _; rw [ht1]) (by show (gX σ1).2 = _; rw [ht1])⟩ hI hl) (fun c9 => absurd (hr1.trans hr2.symm) c9)
set_option maxRecDepth 100000 in
set_option maxHeartbeats 4000000 in
theorem lc_hour (hst9 : l.stackTraces = false) (S : CallFix p m c cL_law 9 s args AL RL) (hI : Iv G σ s H locs) (hl : lv_has ls 9 [(0, .ref b), (1, .ref (gB G 0)), (2, .ref (gB G 3)), (3, .ref (gB G 8)), (4, .int (nI j))]) (hR9 : Rel σ) (hF9 : 12 ≤ R.frames ∧ 440 ≤ R.locals) (hC9 : cells ≤ R.cells) (hS9 : slots ≤ R.slots) (kont : Kont p l e R s m args below meth c cells slots Q G b j) : W p l e R s m args below meth c H locs cells slots Q (F0 m 529 ls []) := by
  obtain ⟨n, th, mk, lf, nw, kp, hX, hM, hpic⟩ := hR9
  have hX4 : gX σ = (nI n, (gX σ).2.1, (gX σ).2.2.1, (gX σ).2.2.2) := by rw [← hX]
  have hn20 := hpic.1
  refine lv_aload_n S.1 S.2.1 dL_law_529 rfl (lv_at hl 1 rfl) ?_
  refine cl_i hI (rnV (As := []) (rest := []) S hI (c_hour l G σ) (cw_L_X3_hour S.2.2.2.2 ⟨by omega, by omega⟩) (rcX hI) rfl hl.1 (Nat.le_of_ble_eq_true rfl) dL_law_530 ⟨by omega, by omega⟩) (fun r1 σ1 H locs hq1 hI => ?_)
  obtain ⟨hr1, ht1⟩ := hq1
  refine lv_aload_n S.1 S.2.1 dL_law_533 rfl (lv_at hl 2 rfl) ?_
  refine cl_i hI (rnV (As := []) (rest := [.int r1]) S hI (m_hour l G σ1 (show gM σ1 = _ from (congrArg (fun z => z.2.1) ht1).trans hM) hpic) (cw_L_X4_hour S.2.2.2.2 ⟨by omega, by omega⟩) (rcM hI) rfl hl.1 (Nat.le_of_ble_eq_true rfl) dL_law_534 ⟨by omega, by omega⟩) (fun r2 σ2 H locs hq2 hI => ?_)
  obtain ⟨hr2, mk2, lf2, nw2, kp2, rfl, hp2⟩ := hq2
  exact lv_icmp_eq (tgt := 1724) S.1 S.2.1 dL_law_537 (by decide) (fun _ => kont (setM σ1 (0, nI n, mk2, lf2, nw2, kp2)) _ _ _ ⟨n, 0, mk2, lf2, nw2, kp2, (congrArg (fun z => (gX z).1) ht1).trans hX, rfl, hp2.cong (by intro k _; show gS σ1 k = _; rw [ht1]) (by intro q _; show gP σ1 q = _; rw [ht1]) (by show (gX σ1).2 = _; rw [ht1])⟩ hI hl) (fun c9 => absurd (hr1.trans hr2.symm) c9)
set_option maxRecDepth 100000 in
set_option maxHeartbeats 4000000 in
theorem lc_hasPower (hst9 : l.stackTraces = false) (S : CallFix p m c cL_law 9 s args AL RL) (hI : Iv G σ s H locs) (hl : lv_has ls 9 [(0, .ref b), (1, .ref (gB G 0)), (2, .ref (gB G 3)), (3, .ref (gB G 8)), (4, .int (nI j))]) (hR9 : Rel σ) (hF9 : 12 ≤ R.frames ∧ 440 ≤ R.locals) (hC9 : cells ≤ R.cells) (hS9 : slots ≤ R.slots) (kont : Kont p l e R s m args below meth c cells slots Q G b j) : W p l e R s m args below meth c H locs cells slots Q (F0 m 542 ls []) := by
  obtain ⟨n, th, mk, lf, nw, kp, hX, hM, hpic⟩ := hR9
  have hX4 : gX σ = (nI n, (gX σ).2.1, (gX σ).2.2.1, (gX σ).2.2.2) := by rw [← hX]
  have hn20 := hpic.1
  refine lv_aload_n S.1 S.2.1 dL_law_542 rfl (lv_at hl 1 rfl) ?_
  refine cl_i hI (rnV (As := []) (rest := []) S hI (c_hasPower l G σ hpic.2.2.1) (cw_L_X3_hasPower S.2.2.2.2 ⟨by omega, by omega⟩) (rcX hI) rfl hl.1 (Nat.le_of_ble_eq_true rfl) dL_law_543 ⟨by omega, by omega⟩) (fun r1 σ1 H locs hq1 hI => ?_)
  obtain ⟨hr1, ht1⟩ := hq1
  refine lv_aload_n S.1 S.2.1 dL_law_546 rfl (lv_at hl 2 rfl) ?_
  refine cl_i hI (rnV (As := []) (rest := [.int r1]) S hI (m_hasPower l G σ1 (show gM σ1 = _ from (congrArg (fun z => z.2.1) ht1).trans hM) hpic) (cw_L_X4_hasPower S.2.2.2.2 ⟨by omega, by omega⟩) (rcM hI) rfl hl.1 (Nat.le_of_ble_eq_true rfl) dL_law_547 ⟨by omega, by omega⟩) (fun r2 σ2 H locs hq2 hI => ?_)
  obtain ⟨hr2, mk2, lf2, nw2, kp2, rfl, hp2⟩ := hq2
  exact lv_icmp_eq (tgt := 1724) S.1 S.2.1 dL_law_550 (by decide) (fun _ => kont (setM σ1 (0, nI n, mk2, lf2, nw2, kp2)) _ _ _ ⟨n, 0, mk2, lf2, nw2, kp2, (congrArg (fun z => (gX z).1) ht1).trans hX, rfl, hp2.cong (by intro k _; show gS σ1 k = _; rw [ht1]) (by intro q _; show gP σ1 q = _; rw [ht1]) (by show (gX σ1).2 = _; rw [ht1])⟩ hI hl) (fun c9 => absurd (hr1.trans hr2.symm) c9)
set_option maxRecDepth 100000 in
set_option maxHeartbeats 4000000 in
theorem lc_coldest (hst9 : l.stackTraces = false) (S : CallFix p m c cL_law 9 s args AL RL) (hI : Iv G σ s H locs) (hl : lv_has ls 9 [(0, .ref b), (1, .ref (gB G 0)), (2, .ref (gB G 3)), (3, .ref (gB G 8)), (4, .int (nI j))]) (hR9 : Rel σ) (hF9 : 12 ≤ R.frames ∧ 440 ≤ R.locals) (hC9 : cells ≤ R.cells) (hS9 : slots ≤ R.slots) (kont : Kont p l e R s m args below meth c cells slots Q G b j) : W p l e R s m args below meth c H locs cells slots Q (F0 m 723 ls []) := by
  obtain ⟨n, th, mk, lf, nw, kp, hX, hM, hpic⟩ := hR9
  have hX4 : gX σ = (nI n, (gX σ).2.1, (gX σ).2.2.1, (gX σ).2.2.2) := by rw [← hX]
  have hn20 := hpic.1
  refine lv_aload_n S.1 S.2.1 dL_law_723 rfl (lv_at hl 1 rfl) ?_
  refine cl_i hI (rnV (As := []) (rest := []) S hI (c_coldest l G σ) (cw_L_X3_coldest S.2.2.2.2 ⟨by omega, by omega⟩) (rcX hI) rfl hl.1 (Nat.le_of_ble_eq_true rfl) dL_law_724 ⟨by omega, by omega⟩) (fun r1 σ1 H locs hq1 hI => ?_)
  obtain ⟨hr1, ht1⟩ := hq1
  refine lv_aload_n S.1 S.2.1 dL_law_727 rfl (lv_at hl 2 rfl) ?_
  refine cl_i hI (rnV (As := []) (rest := [.int r1]) S hI (m_coldest l G σ1 (show gM σ1 = _ from (congrArg (fun z => z.2.1) ht1).trans hM) hpic) (cw_L_X4_coldest S.2.2.2.2 ⟨by omega, by omega⟩) (rcM hI) rfl hl.1 (Nat.le_of_ble_eq_true rfl) dL_law_728 ⟨by omega, by omega⟩) (fun r2 σ2 H locs hq2 hI => ?_)
  obtain ⟨hr2, mk2, lf2, nw2, kp2, rfl, hp2⟩ := hq2
  exact lv_icmp_eq (tgt := 1724) S.1 S.2.1 dL_law_731 (by decide) (fun _ => kont (setM σ1 (0, nI n, mk2, lf2, nw2, kp2)) _ _ _ ⟨n, 0, mk2, lf2, nw2, kp2, (congrArg (fun z => (gX z).1) ht1).trans hX, rfl, hp2.cong (by intro k _; show gS σ1 k = _; rw [ht1]) (by intro q _; show gP σ1 q = _; rw [ht1]) (by show (gX σ1).2 = _; rw [ht1])⟩ hI hl) (fun c9 => absurd (hr1.trans hr2.symm) c9)
set_option maxRecDepth 100000 in
set_option maxHeartbeats 4000000 in
theorem lc_alarms (hst9 : l.stackTraces = false) (S : CallFix p m c cL_law 9 s args AL RL) (hI : Iv G σ s H locs) (hl : lv_has ls 9 [(0, .ref b), (1, .ref (gB G 0)), (2, .ref (gB G 3)), (3, .ref (gB G 8)), (4, .int (nI j))]) (hR9 : Rel σ) (hF9 : 12 ≤ R.frames ∧ 440 ≤ R.locals) (hC9 : cells ≤ R.cells) (hS9 : slots ≤ R.slots) (kont : Kont p l e R s m args below meth c cells slots Q G b j) : W p l e R s m args below meth c H locs cells slots Q (F0 m 736 ls []) := by
  obtain ⟨n, th, mk, lf, nw, kp, hX, hM, hpic⟩ := hR9
  have hX4 : gX σ = (nI n, (gX σ).2.1, (gX σ).2.2.1, (gX σ).2.2.2) := by rw [← hX]
  have hn20 := hpic.1
  refine lv_aload_n S.1 S.2.1 dL_law_736 rfl (lv_at hl 1 rfl) ?_
  refine cl_i hI (rnV (As := []) (rest := []) S hI (c_alarms l G σ) (cw_L_X3_alarms S.2.2.2.2 ⟨by omega, by omega⟩) (rcX hI) rfl hl.1 (Nat.le_of_ble_eq_true rfl) dL_law_737 ⟨by omega, by omega⟩) (fun r1 σ1 H locs hq1 hI => ?_)
  obtain ⟨hr1, ht1⟩ := hq1
  refine lv_aload_n S.1 S.2.1 dL_law_740 rfl (lv_at hl 2 rfl) ?_
  refine cl_i hI (rnV (As := []) (rest := [.int r1]) S hI (m_alarms l G σ1 (show gM σ1 = _ from (congrArg (fun z => z.2.1) ht1).trans hM) hpic) (cw_L_X4_alarms S.2.2.2.2 ⟨by omega, by omega⟩) (rcM hI) rfl hl.1 (Nat.le_of_ble_eq_true rfl) dL_law_741 ⟨by omega, by omega⟩) (fun r2 σ2 H locs hq2 hI => ?_)
  obtain ⟨hr2, mk2, lf2, nw2, kp2, rfl, hp2⟩ := hq2
  exact lv_icmp_eq (tgt := 1724) S.1 S.2.1 dL_law_744 (by decide) (fun _ => kont (setM σ1 (0, nI n, mk2, lf2, nw2, kp2)) _ _ _ ⟨n, 0, mk2, lf2, nw2, kp2, (congrArg (fun z => (gX z).1) ht1).trans hX, rfl, hp2.cong (by intro k _; show gS σ1 k = _; rw [ht1]) (by intro q _; show gP σ1 q = _; rw [ht1]) (by show (gX σ1).2 = _; rw [ht1])⟩ hI hl) (fun c9 => absurd (hr1.trans hr2.symm) c9)
set_option maxRecDepth 100000 in
set_option maxHeartbeats 4000000 in
theorem lc_promises (hst9 : l.stackTraces = false) (S : CallFix p m c cL_law 9 s args AL RL) (hI : Iv G σ s H locs) (hl : lv_has ls 9 [(0, .ref b), (1, .ref (gB G 0)), (2, .ref (gB G 3)), (3, .ref (gB G 8)), (4, .int (nI j))]) (hR9 : Rel σ) (hF9 : 12 ≤ R.frames ∧ 440 ≤ R.locals) (hC9 : cells ≤ R.cells) (hS9 : slots ≤ R.slots) (kont : Kont p l e R s m args below meth c cells slots Q G b j) : W p l e R s m args below meth c H locs cells slots Q (F0 m 749 ls []) := by
  obtain ⟨n, th, mk, lf, nw, kp, hX, hM, hpic⟩ := hR9
  have hX4 : gX σ = (nI n, (gX σ).2.1, (gX σ).2.2.1, (gX σ).2.2.2) := by rw [← hX]
  have hn20 := hpic.1
  refine lv_aload_n S.1 S.2.1 dL_law_749 rfl (lv_at hl 1 rfl) ?_
  refine cl_i hI (rnV (As := []) (rest := []) S hI (c_promises l G σ) (cw_L_X3_promises S.2.2.2.2 ⟨by omega, by omega⟩) (rcX hI) rfl hl.1 (Nat.le_of_ble_eq_true rfl) dL_law_750 ⟨by omega, by omega⟩) (fun r1 σ1 H locs hq1 hI => ?_)
  obtain ⟨hr1, ht1⟩ := hq1
  refine lv_aload_n S.1 S.2.1 dL_law_753 rfl (lv_at hl 2 rfl) ?_
  refine cl_i hI (rnV (As := []) (rest := [.int r1]) S hI (m_promises l G σ1 (show gM σ1 = _ from (congrArg (fun z => z.2.1) ht1).trans hM) hpic) (cw_L_X4_promises S.2.2.2.2 ⟨by omega, by omega⟩) (rcM hI) rfl hl.1 (Nat.le_of_ble_eq_true rfl) dL_law_754 ⟨by omega, by omega⟩) (fun r2 σ2 H locs hq2 hI => ?_)
  obtain ⟨hr2, mk2, lf2, nw2, kp2, rfl, hp2⟩ := hq2
  exact lv_icmp_eq (tgt := 1724) S.1 S.2.1 dL_law_757 (by decide) (fun _ => kont (setM σ1 (0, nI n, mk2, lf2, nw2, kp2)) _ _ _ ⟨n, 0, mk2, lf2, nw2, kp2, (congrArg (fun z => (gX z).1) ht1).trans hX, rfl, hp2.cong (by intro k _; show gS σ1 k = _; rw [ht1]) (by intro q _; show gP σ1 q = _; rw [ht1]) (by show (gX σ1).2 = _; rw [ht1])⟩ hI hl) (fun c9 => absurd ((hr1.trans hX).trans hr2.symm) c9)
set_option maxRecDepth 100000 in
set_option maxHeartbeats 4000000 in
theorem lc_mostHonourable (hst9 : l.stackTraces = false) (S : CallFix p m c cL_law 9 s args AL RL) (hI : Iv G σ s H locs) (hl : lv_has ls 9 [(0, .ref b), (1, .ref (gB G 0)), (2, .ref (gB G 3)), (3, .ref (gB G 8)), (4, .int (nI j))]) (hR9 : Rel σ) (hF9 : 12 ≤ R.frames ∧ 440 ≤ R.locals) (hC9 : cells ≤ R.cells) (hS9 : slots ≤ R.slots) (kont : Kont p l e R s m args below meth c cells slots Q G b j) : W p l e R s m args below meth c H locs cells slots Q (F0 m 1406 ls []) := by
  obtain ⟨n, th, mk, lf, nw, kp, hX, hM, hpic⟩ := hR9
  have hX4 : gX σ = (nI n, (gX σ).2.1, (gX σ).2.2.1, (gX σ).2.2.2) := by rw [← hX]
  have hn20 := hpic.1
  refine lv_aload_n S.1 S.2.1 dL_law_1406 rfl (lv_at hl 1 rfl) ?_
  refine cl_i hI (rnV (As := []) (rest := []) S hI (c_mostHonourable l G σ hpic.ok) (cw_L_X3_mostHonourable S.2.2.2.2 ⟨by omega, by omega⟩) (rcX hI) rfl hl.1 (Nat.le_of_ble_eq_true rfl) dL_law_1407 ⟨by omega, by omega⟩) (fun r1 σ1 H locs hq1 hI => ?_)
  obtain ⟨hr1, ht1⟩ := hq1
  refine lv_aload_n S.1 S.2.1 dL_law_1410 rfl (lv_at hl 2 rfl) ?_
  refine cl_i hI (rnV (As := []) (rest := [.int r1]) S hI (m_mostHonourable l G σ1 (show gM σ1 = _ from (congrArg (fun z => z.2.1) ht1).trans hM) hpic) (cw_L_X4_mostHonourable S.2.2.2.2 ⟨by omega, by omega⟩) (rcM hI) rfl hl.1 (Nat.le_of_ble_eq_true rfl) dL_law_1411 ⟨by omega, by omega⟩) (fun r2 σ2 H locs hq2 hI => ?_)
  obtain ⟨hr2, mk2, lf2, nw2, kp2, rfl, hp2⟩ := hq2
  exact lv_icmp_eq (tgt := 1724) S.1 S.2.1 dL_law_1414 (by decide) (fun _ => kont (setM σ1 (0, nI n, mk2, lf2, nw2, kp2)) _ _ _ ⟨n, 0, mk2, lf2, nw2, kp2, (congrArg (fun z => (gX z).1) ht1).trans hX, rfl, hp2.cong (by intro k _; show gS σ1 k = _; rw [ht1]) (by intro q _; show gP σ1 q = _; rw [ht1]) (by show (gX σ1).2 = _; rw [ht1])⟩ hI hl) (fun c9 => absurd (hr1.trans hr2.symm) c9)
set_option maxRecDepth 100000 in
set_option maxHeartbeats 4000000 in
theorem lc_bestShelf (hst9 : l.stackTraces = false) (S : CallFix p m c cL_law 9 s args AL RL) (hI : Iv G σ s H locs) (hl : lv_has ls 9 [(0, .ref b), (1, .ref (gB G 0)), (2, .ref (gB G 3)), (3, .ref (gB G 8)), (4, .int (nI j))]) (hR9 : Rel σ) (hF9 : 12 ≤ R.frames ∧ 440 ≤ R.locals) (hC9 : cells ≤ R.cells) (hS9 : slots ≤ R.slots) (kont : Kont p l e R s m args below meth c cells slots Q G b j) : W p l e R s m args below meth c H locs cells slots Q (F0 m 1643 ls []) := by
  obtain ⟨n, th, mk, lf, nw, kp, hX, hM, hpic⟩ := hR9
  have hX4 : gX σ = (nI n, (gX σ).2.1, (gX σ).2.2.1, (gX σ).2.2.2) := by rw [← hX]
  have hn20 := hpic.1
  refine lv_aload_n S.1 S.2.1 dL_law_1643 rfl (lv_at hl 1 rfl) ?_
  refine cl_i hI (rnV (As := []) (rest := []) S hI (c_bestShelf l G σ hn20 hX) (cw_L_X3_bestShelf S.2.2.2.2 ⟨by omega, by omega⟩) (rcX hI) rfl hl.1 (Nat.le_of_ble_eq_true rfl) dL_law_1644 ⟨by omega, by omega⟩) (fun r1 σ1 H locs hq1 hI => ?_)
  obtain ⟨hr1, ht1⟩ := hq1
  refine lv_aload_n S.1 S.2.1 dL_law_1647 rfl (lv_at hl 2 rfl) ?_
  refine cl_i hI (rnV (As := []) (rest := [.int r1]) S hI (m_bestShelf l G σ1 (show gM σ1 = _ from (congrArg (fun z => z.1) ht1.M).trans hM) hpic) (cw_L_X4_bestShelf S.2.2.2.2 ⟨by omega, by omega⟩) (rcM hI) rfl hl.1 (Nat.le_of_ble_eq_true rfl) dL_law_1648 ⟨by omega, by omega⟩) (fun r2 σ2 H locs hq2 hI => ?_)
  obtain ⟨hr2, mk2, lf2, nw2, kp2, rfl, hp2⟩ := hq2
  exact lv_icmp_eq (tgt := 1724) S.1 S.2.1 dL_law_1651 (by decide) (fun _ => kont (setM σ1 (0, nI n, mk2, lf2, nw2, kp2)) _ _ _ ⟨n, 0, mk2, lf2, nw2, kp2, (congrArg (fun z => z.1) ht1.X).trans hX, rfl, hp2.cong (fun k hk => ht1.S hk) (fun q hq => ht1.P hq) (congrArg (fun z => z.2) ht1.X)⟩ hI hl) (fun c9 => absurd (hr1.trans hr2.symm) c9)
set_option maxRecDepth 100000 in
set_option maxHeartbeats 4000000 in
theorem lc_hoursOfCold (hst9 : l.stackTraces = false) (S : CallFix p m c cL_law 9 s args AL RL) (hI : Iv G σ s H locs) (hl : lv_has ls 9 [(0, .ref b), (1, .ref (gB G 0)), (2, .ref (gB G 3)), (3, .ref (gB G 8)), (4, .int (nI j))]) (hR9 : Rel σ) (hF9 : 12 ≤ R.frames ∧ 440 ≤ R.locals) (hC9 : cells ≤ R.cells) (hS9 : slots ≤ R.slots) (kont : Kont p l e R s m args below meth c cells slots Q G b j) : W p l e R s m args below meth c H locs cells slots Q (F0 m 1656 ls []) := by
  obtain ⟨n, th, mk, lf, nw, kp, hX, hM, hpic⟩ := hR9
  have hX4 : gX σ = (nI n, (gX σ).2.1, (gX σ).2.2.1, (gX σ).2.2.2) := by rw [← hX]
  have hn20 := hpic.1
  refine lv_aload_n S.1 S.2.1 dL_law_1656 rfl (lv_at hl 1 rfl) ?_
  refine cl_i hI (rnV (As := []) (rest := []) S hI (c_hoursOfCold l G σ hpic.ok) (cw_L_X3_hoursOfCold S.2.2.2.2 ⟨by omega, by omega⟩) (rcX hI) rfl hl.1 (Nat.le_of_ble_eq_true rfl) dL_law_1657 ⟨by omega, by omega⟩) (fun r1 σ1 H locs hq1 hI => ?_)
  obtain ⟨hr1, ht1⟩ := hq1
  refine lv_aload_n S.1 S.2.1 dL_law_1660 rfl (lv_at hl 2 rfl) ?_
  refine cl_i hI (rnV (As := []) (rest := [.int r1]) S hI (m_hoursOfCold l G σ1 (show gM σ1 = _ from (congrArg (fun z => z.1) ht1.M).trans hM) hpic) (cw_L_X4_hoursOfCold S.2.2.2.2 ⟨by omega, by omega⟩) (rcM hI) rfl hl.1 (Nat.le_of_ble_eq_true rfl) dL_law_1661 ⟨by omega, by omega⟩) (fun r2 σ2 H locs hq2 hI => ?_)
  obtain ⟨hr2, mk2, lf2, nw2, kp2, rfl, hp2⟩ := hq2
  exact lv_icmp_eq (tgt := 1724) S.1 S.2.1 dL_law_1664 (by decide) (fun _ => kont (setM σ1 (0, nI n, mk2, lf2, nw2, kp2)) _ _ _ ⟨n, 0, mk2, lf2, nw2, kp2, (congrArg (fun z => z.1) ht1.X).trans hX, rfl, hp2.cong (fun k hk => ht1.S hk) (fun q hq => ht1.P hq) (congrArg (fun z => z.2) ht1.X)⟩ hI hl) (fun c9 => absurd (hr1.trans hr2.symm) c9)
/-- a number is as large as itself -/
def FLc : Prop := ∀ x : UInt64, vf_n64 x → FP.dcmp x x = some Ordering.eq
theorem mean_n (hfl : FLn) (σ : St) : vf_n64 (meanF σ) := by
  unfold meanF
  split
  · show FP.dconst0 &&& 0x7fffffffffffffff ≤ 0x7ff0000000000000
    decide +kernel
  · rename_i h
    exact hfl _ _ h
set_option maxRecDepth 100000 in
set_option maxHeartbeats 4000000 in
theorem lc_meanHeat (hfl : FLn) (hfc : FLc) (hst9 : l.stackTraces = false) (S : CallFix p m c cL_law 9 s args AL RL) (hI : Iv G σ s H locs) (hl : lv_has ls 9 [(0, .ref b), (1, .ref (gB G 0)), (2, .ref (gB G 3)), (3, .ref (gB G 8)), (4, .int (nI j))]) (hR9 : Rel σ) (hF9 : 12 ≤ R.frames ∧ 440 ≤ R.locals) (hC9 : cells ≤ R.cells) (hS9 : slots ≤ R.slots) (kont : Kont p l e R s m args below meth c cells slots Q G b j) : W p l e R s m args below meth c H locs cells slots Q (F0 m 1669 ls []) := by
  obtain ⟨n, th, mk, lf, nw, kp, hX, hM, hpic⟩ := hR9
  refine lv_aload_n S.1 S.2.1 dL_law_1669 rfl (lv_at hl 1 rfl) ?_
  refine cl_d hI (rnV (As := []) (rest := []) S hI (c_meanHeat l G σ hfl) (cw_L_X3_meanHeat S.2.2.2.2 ⟨by omega, by omega⟩) (rcX hI) rfl hl.1 (Nat.le_of_ble_eq_true rfl) dL_law_1670 ⟨by omega, by omega⟩) (fun r1 σ1 H locs hq1 hI => ?_)
  obtain ⟨hr1, hs1⟩ := hq1
  rw [hs1] at hI
  rw [hr1]
  refine lv_dstore (lv' := [(5, .double (meanF σ)), (0, .ref b), (1, .ref (gB G 0)), (2, .ref (gB G 3)), (3, .ref (gB G 8)), (4, .int (nI j))]) S.1 S.2.1 dL_law_1673 hl (by decide) rfl (fun ls hl => ?_)
  refine lv_aload_n S.1 S.2.1 dL_law_1675 rfl (lv_at hl 3 rfl) ?_
  refine cl_d hI (rnV (As := []) (rest := []) S hI (m_meanHeat l G σ hM hpic hfl) (cw_L_X4_meanHeat S.2.2.2.2 ⟨by omega, by omega⟩) (rcM hI) rfl hl.1 (Nat.le_of_ble_eq_true rfl) dL_law_1676 ⟨by omega, by omega⟩) (fun r2 σ2 H locs hq2 hI => ?_)
  obtain ⟨hr2, mk2, lf2, nw2, kp2, hs2, hp2⟩ := hq2
  rw [hs2] at hI
  rw [hr2]
  refine lv_dstore (lv' := [(7, .double (meanF σ)), (5, .double (meanF σ)), (0, .ref b), (1, .ref (gB G 0)), (2, .ref (gB G 3)), (3, .ref (gB G 8)), (4, .int (nI j))]) S.1 S.2.1 dL_law_1679 hl (by decide) rfl (fun ls hl => ?_)
  refine lv_dload S.1 S.2.1 dL_law_1681 (lv_at hl 1 rfl) ?_
  refine lv_dload S.1 S.2.1 dL_law_1683 (lv_at hl 0 rfl) ?_
  refine lv_dcmp S.1 S.2.1 dL_law_1685 ?_
  rw [hfc _ (mean_n hfl σ)]
  refine lv_if_eq (tgt := 1707) S.1 S.2.1 dL_law_1686 (by decide) (fun _ => ?_) (fun c9 => absurd rfl c9)
  refine lv_goto (tgt := 1724) S.1 S.2.1 dL_law_1707 (by decide) ?_
  exact kont (setM σ (0, nI n, mk2, lf2, nw2, kp2)) _ _ _ ⟨n, 0, mk2, lf2, nw2, kp2, hX, rfl, hp2.cong (fun _ _ => rfl) (fun _ _ => rfl) rfl⟩ hI (lv_sub hl [2, 3, 4, 5, 6] rfl)
end LCN
