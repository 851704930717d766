/-- numbers in range, and not -/
theorem inI_s {k : Nat} (h : k < 5) : inI (nI k) 0 4 = 1 := inI_yes (nI_pos (by omega)) (nI_nlt (b := k) (a := 4) (by omega) (by omega))
theorem inI_m {k : Nat} (h : k < 6) : inI (nI k) 0 5 = 1 := inI_yes (nI_pos (by omega)) (nI_nlt (b := k) (a := 5) (by omega) (by omega))
theorem inI_h {k : Nat} (h1 : 1 ≤ k) (h : k ≤ 100) : inI (nI k) 1 100 = 1 := inI_yes (nI_nlt (b := 1) (a := k) h1 (by omega)) (nI_nlt (b := k) (a := 100) h (by omega))
theorem bad_lt {v : Int32} {k : Nat} (hk : k < 1000) (h : v < 0 ∨ nI (k + 1) ≤ v) : v < 0 ∨ nI k < v := by
  rcases h with e | e
  · exact Or.inl e
  · right
    rw [Int32.le_iff_toInt_le, nI_toInt (by omega)] at e
    rw [Int32.lt_iff_toInt_lt, nI_toInt (by omega)]
    omega
theorem inI_bs {v : Int32} (h : v < 0 ∨ nI 5 ≤ v) : inI v 0 4 = 0 := inI_no (bad_lt (k := 4) (by omega) h)
theorem inI_bm {v : Int32} (h : v < 0 ∨ nI 6 ≤ v) : inI v 0 5 = 0 := inI_no (bad_lt (k := 5) (by omega) h)
theorem swp_eq {pw : Int32} (h : pw = 0 ∨ pw = 1) : 1 - pw = if pw = 0 then 1 else 0 := by rcases h with rfl | rfl <;> decide
theorem Pic.swp {α : St} {n : Nat} {mk lf nw : Nat → Int32} (h : Pic α n mk lf nw) : Pic (setX α ((gX α).1, (gX α).2.1, (gX α).2.2.1, (if (gX α).2.2.2 = 0 then 1 else 0))) n mk lf (va_up nw 1 (1 - nw 1)) :=
  h.X (by
    show (if (gX α).2.2.2 = 0 then (1 : Int32) else 0) = 0 ∨ (if (gX α).2.2.2 = 0 then (1 : Int32) else 0) = 1
    split
    · exact Or.inr rfl
    · exact Or.inl rfl) ⟨by rw [va_up_ne _ _ (by decide)]; exact h.2.1.1, by rw [va_up_self, h.2.1.2.1]; exact swp_eq h.2.2.1, by rw [va_up_ne _ _ (by decide)]; exact h.2.1.2.2⟩ (fun j hj => va_up_ne _ _ (by omega))
set_option maxRecDepth 100000 in
set_option maxHeartbeats 4000000 in
theorem c_thrown (l : Launch) (G : Gt) (σ : St) {th np : Int32} {mk lf nw kp : Nat → Int32} (hm : gM σ = (th, np, mk, lf, nw, kp)) : Ct l G yX4_thrown cX4_thrown 1 (some .int) 1 0 0 [.ref (gB G 3)] σ (Qi G (fun r σ' => r = th ∧ σ' = σ)) := by
  refine mt_intro (by decide +kernel) (Nat.le_of_ble_eq_true rfl) ?_
  intro p e s m below meth c S hr hlk hnm hI ls hl
  have hl : lv_has ls 1 [(0, .ref (gB G 3))] := hl
  refine lv_aload_n S.1 S.2.1 dX4_thrown_0 rfl (lv_at hl 0 rfl) ?_
  refine g_X4_M_thrown S hI hm dX4_thrown_1 ?_
  exact xt_i S hI hr hlk (⟨rfl, rfl⟩) (by decide) (by decide) dX4_thrown_4
set_option maxRecDepth 100000 in
set_option maxHeartbeats 4000000 in
theorem m_hour (l : Launch) (G : Gt) (σ : St) {α : St} {n : Nat} {th : Int32} {mk lf nw kp : Nat → Int32} (hm : gM σ = (th, nI n, mk, lf, nw, kp)) (hpic : Pic α n mk lf nw)  : Ct l G yX4_hour cX4_hour 1 (some .int) 2 0 0 [.ref (gB G 3)] σ (Qi G (fun r σ' => r = (gX α).2.2.1 ∧ Mq σ α 0 n σ')) := by
  refine mt_intro (by decide +kernel) (Nat.le_of_ble_eq_true rfl) ?_
  intro p e s m below meth c S hr hlk hnm hI ls hl
  have hl : lv_has ls 1 [(0, .ref (gB G 3))] := hl
  have hn20 := hpic.1
  refine lv_aload_n S.1 S.2.1 dX4_hour_0 rfl (lv_at hl 0 rfl) ?_
  refine lv_aload_n S.1 S.2.1 dX4_hour_1 rfl (lv_at hl 0 rfl) ?_
  refine g_X4_M_now S hI dX4_hour_2 ?_
  refine lv_iconst (v := (nI 0)) S.1 S.2.1 dX4_hour_5 (by rfl) ?_
  refine a_nw S hI hm (j := 0) (by omega) dX4_hour_6 ?_
  refine cl_i hI (rnV (As := [.int (nw 0)]) (rest := []) S hI (c_ok l G _ hm (nw 0)) (cw_X4_X4_ok S.2.2.2.2 ⟨Nat.le_of_ble_eq_true rfl, Nat.le_of_ble_eq_true rfl⟩) (rcM hI) rfl hl.1 (Nat.le_of_ble_eq_true rfl) dX4_hour_7 ⟨Nat.le_of_ble_eq_true rfl, Nat.le_of_ble_eq_true rfl⟩) (fun r1 σ1 H locs hq1 hI => ?_)
  obtain ⟨hr1, ez1⟩ := hq1
  rw [hr1]
  exact xt_i S hI hr hlk (⟨hpic.2.1.1, mk, lf, nw, kp, (by rw [ez1]; try rfl), hpic⟩) (by decide) (by decide) dX4_hour_10
set_option maxRecDepth 100000 in
set_option maxHeartbeats 4000000 in
theorem m_alarms (l : Launch) (G : Gt) (σ : St) {α : St} {n : Nat} {th : Int32} {mk lf nw kp : Nat → Int32} (hm : gM σ = (th, nI n, mk, lf, nw, kp)) (hpic : Pic α n mk lf nw)  : Ct l G yX4_alarms cX4_alarms 1 (some .int) 2 0 0 [.ref (gB G 3)] σ (Qi G (fun r σ' => r = (gX α).2.1 ∧ Mq σ α 0 n σ')) := by
  refine mt_intro (by decide +kernel) (Nat.le_of_ble_eq_true rfl) ?_
  intro p e s m below meth c S hr hlk hnm hI ls hl
  have hl : lv_has ls 1 [(0, .ref (gB G 3))] := hl
  have hn20 := hpic.1
  refine lv_aload_n S.1 S.2.1 dX4_alarms_0 rfl (lv_at hl 0 rfl) ?_
  refine lv_aload_n S.1 S.2.1 dX4_alarms_1 rfl (lv_at hl 0 rfl) ?_
  refine g_X4_M_now S hI dX4_alarms_2 ?_
  refine lv_iconst (v := (nI 2)) S.1 S.2.1 dX4_alarms_5 (by rfl) ?_
  refine a_nw S hI hm (j := 2) (by omega) dX4_alarms_6 ?_
  refine cl_i hI (rnV (As := [.int (nw 2)]) (rest := []) S hI (c_ok l G _ hm (nw 2)) (cw_X4_X4_ok S.2.2.2.2 ⟨Nat.le_of_ble_eq_true rfl, Nat.le_of_ble_eq_true rfl⟩) (rcM hI) rfl hl.1 (Nat.le_of_ble_eq_true rfl) dX4_alarms_7 ⟨Nat.le_of_ble_eq_true rfl, Nat.le_of_ble_eq_true rfl⟩) (fun r1 σ1 H locs hq1 hI => ?_)
  obtain ⟨hr1, ez1⟩ := hq1
  rw [hr1]
  exact xt_i S hI hr hlk (⟨hpic.2.1.2.2, mk, lf, nw, kp, (by rw [ez1]; try rfl), hpic⟩) (by decide) (by decide) dX4_alarms_10
set_option maxRecDepth 100000 in
set_option maxHeartbeats 4000000 in
theorem m_promises (l : Launch) (G : Gt) (σ : St) {α : St} {n : Nat} {th : Int32} {mk lf nw kp : Nat → Int32} (hm : gM σ = (th, nI n, mk, lf, nw, kp)) (hpic : Pic α n mk lf nw)  : Ct l G yX4_promises cX4_promises 1 (some .int) 2 0 0 [.ref (gB G 3)] σ (Qi G (fun r σ' => r = nI n ∧ Mq σ α 0 n σ')) := by
  refine mt_intro (by decide +kernel) (Nat.le_of_ble_eq_true rfl) ?_
  intro p e s m below meth c S hr hlk hnm hI ls hl
  have hl : lv_has ls 1 [(0, .ref (gB G 3))] := hl
  have hn20 := hpic.1
  refine lv_aload_n S.1 S.2.1 dX4_promises_0 rfl (lv_at hl 0 rfl) ?_
  refine lv_aload_n S.1 S.2.1 dX4_promises_1 rfl (lv_at hl 0 rfl) ?_
  refine g_X4_M_promises S hI hm dX4_promises_2 ?_
  refine cl_i hI (rnV (As := [.int (nI n)]) (rest := []) S hI (c_ok l G _ hm (nI n)) (cw_X4_X4_ok S.2.2.2.2 ⟨Nat.le_of_ble_eq_true rfl, Nat.le_of_ble_eq_true rfl⟩) (rcM hI) rfl hl.1 (Nat.le_of_ble_eq_true rfl) dX4_promises_5 ⟨Nat.le_of_ble_eq_true rfl, Nat.le_of_ble_eq_true rfl⟩) (fun r1 σ1 H locs hq1 hI => ?_)
  obtain ⟨hr1, ez1⟩ := hq1
  rw [hr1]
  exact xt_i S hI hr hlk (⟨rfl, mk, lf, nw, kp, (by rw [ez1]; try rfl), hpic⟩) (by decide) (by decide) dX4_promises_8
set_option maxRecDepth 100000 in
set_option maxHeartbeats 4000000 in
theorem m_hasPower (l : Launch) (G : Gt) (σ : St) {α : St} {n : Nat} {th : Int32} {mk lf nw kp : Nat → Int32} (hm : gM σ = (th, nI n, mk, lf, nw, kp)) (hpic : Pic α n mk lf nw)  : Ct l G yX4_hasPower cX4_hasPower 1 (some .boolean) 1 0 0 [.ref (gB G 3)] σ (Qi G (fun r σ' => r = (gX α).2.2.2 ∧ Mq σ α 0 n σ')) := by
  refine mt_intro (by decide +kernel) (Nat.le_of_ble_eq_true rfl) ?_
  intro p e s m below meth c S hr hlk hnm hI ls hl
  have hl : lv_has ls 1 [(0, .ref (gB G 3))] := hl
  have hn20 := hpic.1
  refine lv_aload_n S.1 S.2.1 dX4_hasPower_0 rfl (lv_at hl 0 rfl) ?_
  refine lv_iconst (v := 0) S.1 S.2.1 dX4_hasPower_1 (by decide) ?_
  refine p_X4_M_thrown S hI hm dX4_hasPower_2 (fun σ1 H locs ey1 hz1 hI => ?_)
  refine lv_aload_n S.1 S.2.1 dX4_hasPower_5 rfl (lv_at hl 0 rfl) ?_
  refine g_X4_M_now S hI dX4_hasPower_6 ?_
  refine lv_iconst (v := (nI 1)) S.1 S.2.1 dX4_hasPower_9 (by rfl) ?_
  refine a_nw S hI hz1 (j := 1) (by omega) dX4_hasPower_10 ?_
  refine lv_iconst (v := 1) S.1 S.2.1 dX4_hasPower_11 (by decide) ?_
  refine lv_icmp_ne (tgt := 19) S.1 S.2.1 dX4_hasPower_12 (by decide) (fun cz_12 => ?_) (fun cz_12 => ?_)
  · refine lv_iconst (v := 0) S.1 S.2.1 dX4_hasPower_19 (by decide) ?_
    exact xt_z S hI hr hlk rfl (⟨(by rw [← hpic.2.1.2.1]; rcases hpic.2.2.1 with e9 | e9 <;> rw [← hpic.2.1.2.1] at e9 <;> simp_all), mk, lf, nw, kp, (by rw [ey1]; try rfl), hpic⟩) (by decide) (by decide) dX4_hasPower_20
  · refine lv_iconst (v := 1) S.1 S.2.1 dX4_hasPower_15 (by decide) ?_
    refine lv_goto (tgt := 20) S.1 S.2.1 dX4_hasPower_16 (by decide) ?_
    exact xt_z S hI hr hlk rfl (⟨(by rw [← hpic.2.1.2.1]; rcases hpic.2.2.1 with e9 | e9 <;> rw [← hpic.2.1.2.1] at e9 <;> simp_all), mk, lf, nw, kp, (by rw [ey1]; try rfl), hpic⟩) (by decide) (by decide) dX4_hasPower_20
set_option maxRecDepth 100000 in
set_option maxHeartbeats 4000000 in
theorem m_coldest (l : Launch) (G : Gt) (σ : St) {α : St} {n : Nat} {th : Int32} {mk lf nw kp : Nat → Int32} (hm : gM σ = (th, nI n, mk, lf, nw, kp)) (hpic : Pic α n mk lf nw)  : Ct l G yX4_coldest cX4_coldest 1 (some .int) 3 0 0 [.ref (gB G 3)] σ (Qi G (fun r σ' => r = nI (coldF α 4) ∧ Mq σ α 0 n σ')) := by
  refine mt_intro (by decide +kernel) (Nat.le_of_ble_eq_true rfl) ?_
  intro p e s m below meth c S hr hlk hnm hI ls hl
  have hl : lv_has ls 1 [(0, .ref (gB G 3))] := hl
  have hn20 := hpic.1
  refine lv_aload_n S.1 S.2.1 dX4_coldest_0 rfl (lv_at hl 0 rfl) ?_
  refine lv_aload_n S.1 S.2.1 dX4_coldest_1 rfl (lv_at hl 0 rfl) ?_
  refine cl_i hI (rnV (As := []) (rest := [.ref (gB G 3)]) S hI (c_coldestOf l G _ hm hpic) (cw_X4_X4_coldestOf S.2.2.2.2 ⟨Nat.le_of_ble_eq_true rfl, Nat.le_of_ble_eq_true rfl⟩) (rcM hI) rfl hl.1 (Nat.le_of_ble_eq_true rfl) dX4_coldest_2 ⟨Nat.le_of_ble_eq_true rfl, Nat.le_of_ble_eq_true rfl⟩) (fun r1 σ1 H locs hq1 hI => ?_)
  obtain ⟨hr1, hs1⟩ := hq1
  rw [hs1] at hI
  rw [hr1]
  refine cl_i hI (rnV (As := [.int (nI (coldF α 4))]) (rest := []) S hI (c_ok l G _ hm (nI (coldF α 4))) (cw_X4_X4_ok S.2.2.2.2 ⟨Nat.le_of_ble_eq_true rfl, Nat.le_of_ble_eq_true rfl⟩) (rcM hI) rfl hl.1 (Nat.le_of_ble_eq_true rfl) dX4_coldest_5 ⟨Nat.le_of_ble_eq_true rfl, Nat.le_of_ble_eq_true rfl⟩) (fun r2 σ2 H locs hq2 hI => ?_)
  obtain ⟨hr2, ez2⟩ := hq2
  rw [hr2]
  exact xt_i S hI hr hlk (⟨rfl, mk, lf, nw, kp, (by rw [ez2]; try rfl), hpic⟩) (by decide) (by decide) dX4_coldest_8
set_option maxRecDepth 100000 in
set_option maxHeartbeats 4000000 in
theorem m_mostHonourable (l : Launch) (G : Gt) (σ : St) {α : St} {n : Nat} {th : Int32} {mk lf nw kp : Nat → Int32} (hm : gM σ = (th, nI n, mk, lf, nw, kp)) (hpic : Pic α n mk lf nw)  : Ct l G yX4_mostHonourable cX4_mostHonourable 1 (some .int) 5 0 0 [.ref (gB G 3)] σ (Qi G (fun r σ' => r = nI (mostF α 5) ∧ Mq σ α 0 n σ')) := by
  refine mt_intro (by decide +kernel) (Nat.le_of_ble_eq_true rfl) ?_
  intro p e s m below meth c S hr hlk hnm hI ls hl
  have hl : lv_has ls 1 [(0, .ref (gB G 3))] := hl
  have hn20 := hpic.1
  refine lv_aload_n S.1 S.2.1 dX4_mostHonourable_0 rfl (lv_at hl 0 rfl) ?_
  refine lv_aload_n S.1 S.2.1 dX4_mostHonourable_1 rfl (lv_at hl 0 rfl) ?_
  refine cl_i hI (rnV (As := []) (rest := [.ref (gB G 3)]) S hI (c_most l G _ hm hpic) (cw_X4_X4_most S.2.2.2.2 ⟨Nat.le_of_ble_eq_true rfl, Nat.le_of_ble_eq_true rfl⟩) (rcM hI) rfl hl.1 (Nat.le_of_ble_eq_true rfl) dX4_mostHonourable_2 ⟨Nat.le_of_ble_eq_true rfl, Nat.le_of_ble_eq_true rfl⟩) (fun r1 σ1 H locs hq1 hI => ?_)
  obtain ⟨hr1, hs1⟩ := hq1
  rw [hs1] at hI
  rw [hr1]
  refine cl_i hI (rnV (As := [.int (nI (mostF α 5))]) (rest := []) S hI (c_ok l G _ hm (nI (mostF α 5))) (cw_X4_X4_ok S.2.2.2.2 ⟨Nat.le_of_ble_eq_true rfl, Nat.le_of_ble_eq_true rfl⟩) (rcM hI) rfl hl.1 (Nat.le_of_ble_eq_true rfl) dX4_mostHonourable_5 ⟨Nat.le_of_ble_eq_true rfl, Nat.le_of_ble_eq_true rfl⟩) (fun r2 σ2 H locs hq2 hI => ?_)
  obtain ⟨hr2, ez2⟩ := hq2
  rw [hr2]
  exact xt_i S hI hr hlk (⟨rfl, mk, lf, nw, kp, (by rw [ez2]; try rfl), hpic⟩) (by decide) (by decide) dX4_mostHonourable_8
set_option maxRecDepth 100000 in
set_option maxHeartbeats 4000000 in
theorem c_ofShelf (l : Launch) (G : Gt) (σ : St) {α : St} {n : Nat} {th : Int32} {mk lf nw kp : Nat → Int32} (hm : gM σ = (th, nI n, mk, lf, nw, kp)) (hpic : Pic α n mk lf nw) {k w9 : Nat} (hk : k < 5) (hw9 : w9 < 2) : Ct l G yX4_ofShelf cX4_ofShelf 3 (some .int) 3 0 0 [.ref (gB G 3), .int (nI k), .int (nI w9)] σ (Qi G (fun r σ' => r = nw (3 + 2 * k + w9) ∧ σ' = setM σ (0, nI n, mk, lf, nw, kp))) := by
  refine mt_intro (by decide +kernel) (Nat.le_of_ble_eq_true rfl) ?_
  intro p e s m below meth c S hr hlk hnm hI ls hl
  have hl : lv_has ls 3 [(0, .ref (gB G 3)), (1, .int (nI k)), (2, .int (nI w9))] := hl
  have hn20 := hpic.1
  refine lv_aload_n S.1 S.2.1 dX4_ofShelf_0 rfl (lv_at hl 0 rfl) ?_
  refine lv_iconst (v := 0) S.1 S.2.1 dX4_ofShelf_1 (by decide) ?_
  refine p_X4_M_thrown S hI hm dX4_ofShelf_2 (fun σ1 H locs ey1 hz1 hI => ?_)
  refine lv_iload_n S.1 S.2.1 dX4_ofShelf_5 rfl (lv_at hl 1 rfl) ?_
  refine cl_i hI (rnS (As := [.int (nI k)]) (rest := []) S hI (c_isShelf l G _ (nI k)) (cw_X4_X4_isShelf S.2.2.2.2 ⟨Nat.le_of_ble_eq_true rfl, Nat.le_of_ble_eq_true rfl⟩) rfl hl.1 (Nat.le_of_ble_eq_true rfl) dX4_ofShelf_6 ⟨Nat.le_of_ble_eq_true rfl, Nat.le_of_ble_eq_true rfl⟩) (fun r2 σ2 H locs hq2 hI => ?_)
  obtain ⟨hr2, hs2⟩ := hq2
  rw [hs2] at hI
  rw [hr2, inI_s hk]
  refine lv_if_eq (tgt := 25) S.1 S.2.1 dX4_ofShelf_9 (by decide) (fun c9 => absurd c9 (by decide)) (fun _ => ?_)
  refine lv_aload_n S.1 S.2.1 dX4_ofShelf_12 rfl (lv_at hl 0 rfl) ?_
  refine g_X4_M_now S hI dX4_ofShelf_13 ?_
  refine lv_iload_n S.1 S.2.1 dX4_ofShelf_16 rfl (lv_at hl 1 rfl) ?_
  refine lv_iload_n S.1 S.2.1 dX4_ofShelf_17 rfl (lv_at hl 2 rfl) ?_
  refine cl_i hI (rnS (As := [.int (nI k), .int (nI w9)]) (rest := [.ref (gB G 6)]) S hI (c_shelf l G _ k w9) (cw_X4_X4_shelf S.2.2.2.2 ⟨Nat.le_of_ble_eq_true rfl, Nat.le_of_ble_eq_true rfl⟩) rfl hl.1 (Nat.le_of_ble_eq_true rfl) dX4_ofShelf_18 ⟨Nat.le_of_ble_eq_true rfl, Nat.le_of_ble_eq_true rfl⟩) (fun r3 σ3 H locs hq3 hI => ?_)
  obtain ⟨hr3, hs3⟩ := hq3
  rw [hs3] at hI
  rw [hr3]
  refine a_nw S hI hz1 (j := (3 + 2 * k + w9)) (by omega) dX4_ofShelf_21 ?_
  refine lv_goto (tgt := 30) S.1 S.2.1 dX4_ofShelf_22 (by decide) ?_
  exact xt_i S hI hr hlk (⟨rfl, (by rw [ey1]; try rfl)⟩) (by decide) (by decide) dX4_ofShelf_30
set_option maxRecDepth 100000 in
set_option maxHeartbeats 4000000 in
theorem c_ofShelf_b (l : Launch) (G : Gt) (σ : St) {α : St} {n : Nat} {th : Int32} {mk lf nw kp : Nat → Int32} (hm : gM σ = (th, nI n, mk, lf, nw, kp)) (hpic : Pic α n mk lf nw) (v : Int32) (w9 : Int32) (hb : v < 0 ∨ nI 5 ≤ v) : Ct l G yX4_ofShelf cX4_ofShelf 3 (some .int) 3 0 0 [.ref (gB G 3), .int v, .int w9] σ (Qi G (fun r σ' => r = 0 ∧ σ' = setM σ (1, nI n, mk, lf, nw, kp))) := by
  refine mt_intro (by decide +kernel) (Nat.le_of_ble_eq_true rfl) ?_
  intro p e s m below meth c S hr hlk hnm hI ls hl
  have hl : lv_has ls 3 [(0, .ref (gB G 3)), (1, .int v), (2, .int w9)] := hl
  have hn20 := hpic.1
  refine lv_aload_n S.1 S.2.1 dX4_ofShelf_0 rfl (lv_at hl 0 rfl) ?_
  refine lv_iconst (v := 0) S.1 S.2.1 dX4_ofShelf_1 (by decide) ?_
  refine p_X4_M_thrown S hI hm dX4_ofShelf_2 (fun σ1 H locs ey1 hz1 hI => ?_)
  refine lv_iload_n S.1 S.2.1 dX4_ofShelf_5 rfl (lv_at hl 1 rfl) ?_
  refine cl_i hI (rnS (As := [.int v]) (rest := []) S hI (c_isShelf l G _ v) (cw_X4_X4_isShelf S.2.2.2.2 ⟨Nat.le_of_ble_eq_true rfl, Nat.le_of_ble_eq_true rfl⟩) rfl hl.1 (Nat.le_of_ble_eq_true rfl) dX4_ofShelf_6 ⟨Nat.le_of_ble_eq_true rfl, Nat.le_of_ble_eq_true rfl⟩) (fun r2 σ2 H locs hq2 hI => ?_)
  obtain ⟨hr2, hs2⟩ := hq2
  rw [hs2] at hI
  rw [hr2, inI_bs hb]
  refine lv_if_eq (tgt := 25) S.1 S.2.1 dX4_ofShelf_9 (by decide) (fun _ => ?_) (fun c9 => absurd c9 (by decide))
  refine lv_aload_n S.1 S.2.1 dX4_ofShelf_25 rfl (lv_at hl 0 rfl) ?_
  refine lv_iconst (v := 1) S.1 S.2.1 dX4_ofShelf_26 (by decide) ?_
  refine cl_i hI (rnV (As := [.int 1]) (rest := []) S hI (c_no l G _ hz1 1) (cw_X4_X4_no S.2.2.2.2 ⟨Nat.le_of_ble_eq_true rfl, Nat.le_of_ble_eq_true rfl⟩) (rcM hI) rfl hl.1 (Nat.le_of_ble_eq_true rfl) dX4_ofShelf_27 ⟨Nat.le_of_ble_eq_true rfl, Nat.le_of_ble_eq_true rfl⟩) (fun r3 σ3 H locs hq3 hI => ?_)
  obtain ⟨hr3, ez3⟩ := hq3
  rw [hr3]
  exact xt_i S hI hr hlk (⟨rfl, (by rw [ez3, ey1]; try rfl)⟩) (by decide) (by decide) dX4_ofShelf_30
set_option maxRecDepth 100000 in
set_option maxHeartbeats 4000000 in
theorem m_settingOf (l : Launch) (G : Gt) (σ : St) {α : St} {n : Nat} {th : Int32} {mk lf nw kp : Nat → Int32} (hm : gM σ = (th, nI n, mk, lf, nw, kp)) (hpic : Pic α n mk lf nw) {k : Nat} (hk : k < 5) : Ct l G yX4_settingOf cX4_settingOf 2 (some .int) 4 0 0 [.ref (gB G 3), .int (nI k)] σ (Qi G (fun r σ' => r = (gS α k).1 ∧ Mq σ α 0 n σ')) := by
  refine mt_intro (by decide +kernel) (Nat.le_of_ble_eq_true rfl) ?_
  intro p e s m below meth c S hr hlk hnm hI ls hl
  have hl : lv_has ls 2 [(0, .ref (gB G 3)), (1, .int (nI k))] := hl
  have hn20 := hpic.1
  refine lv_aload_n S.1 S.2.1 dX4_settingOf_0 rfl (lv_at hl 0 rfl) ?_
  refine lv_iload_n S.1 S.2.1 dX4_settingOf_1 rfl (lv_at hl 1 rfl) ?_
  refine lv_iconst (v := 0) S.1 S.2.1 dX4_settingOf_2 (by decide) ?_
  refine cl_i hI (rnV (As := [.int (nI k), .int 0]) (rest := []) S hI (c_ofShelf l G _ hm hpic (k := k) (w9 := 0) hk (by decide)) (cw_X4_X4_ofShelf S.2.2.2.2 ⟨Nat.le_of_ble_eq_true rfl, Nat.le_of_ble_eq_true rfl⟩) (rcM hI) rfl hl.1 (Nat.le_of_ble_eq_true rfl) dX4_settingOf_3 ⟨Nat.le_of_ble_eq_true rfl, Nat.le_of_ble_eq_true rfl⟩) (fun r1 σ1 H locs hq1 hI => ?_)
  obtain ⟨hr1, ez1⟩ := hq1
  rw [hr1]
  exact xt_i S hI hr hlk (⟨(hpic.2.2.2.1 k hk).1, mk, lf, nw, kp, (by rw [ez1]; try rfl), hpic⟩) (by decide) (by decide) dX4_settingOf_6
set_option maxRecDepth 100000 in
set_option maxHeartbeats 4000000 in
theorem m_settingOf_b (l : Launch) (G : Gt) (σ : St) {α : St} {n : Nat} {th : Int32} {mk lf nw kp : Nat → Int32} (hm : gM σ = (th, nI n, mk, lf, nw, kp)) (hpic : Pic α n mk lf nw) (v : Int32) (hb : v < 0 ∨ nI 5 ≤ v) : Ct l G yX4_settingOf cX4_settingOf 2 (some .int) 4 0 0 [.ref (gB G 3), .int v] σ (Qi G (fun r σ' => Mq σ α 1 n σ')) := by
  refine mt_intro (by decide +kernel) (Nat.le_of_ble_eq_true rfl) ?_
  intro p e s m below meth c S hr hlk hnm hI ls hl
  have hl : lv_has ls 2 [(0, .ref (gB G 3)), (1, .int v)] := hl
  have hn20 := hpic.1
  refine lv_aload_n S.1 S.2.1 dX4_settingOf_0 rfl (lv_at hl 0 rfl) ?_
  refine lv_iload_n S.1 S.2.1 dX4_settingOf_1 rfl (lv_at hl 1 rfl) ?_
  refine lv_iconst (v := 0) S.1 S.2.1 dX4_settingOf_2 (by decide) ?_
  refine cl_i hI (rnV (As := [.int v, .int 0]) (rest := []) S hI (c_ofShelf_b l G _ hm hpic v 0 hb) (cw_X4_X4_ofShelf S.2.2.2.2 ⟨Nat.le_of_ble_eq_true rfl, Nat.le_of_ble_eq_true rfl⟩) (rcM hI) rfl hl.1 (Nat.le_of_ble_eq_true rfl) dX4_settingOf_3 ⟨Nat.le_of_ble_eq_true rfl, Nat.le_of_ble_eq_true rfl⟩) (fun r1 σ1 H locs hq1 hI => ?_)
  obtain ⟨hr1, ez1⟩ := hq1
  rw [hr1]
  exact xt_i S hI hr hlk (⟨mk, lf, nw, kp, (by rw [ez1]; try rfl), hpic⟩) (by decide) (by decide) dX4_settingOf_6
set_option maxRecDepth 100000 in
set_option maxHeartbeats 4000000 in
theorem m_heatOn (l : Launch) (G : Gt) (σ : St) {α : St} {n : Nat} {th : Int32} {mk lf nw kp : Nat → Int32} (hm : gM σ = (th, nI n, mk, lf, nw, kp)) (hpic : Pic α n mk lf nw) {k : Nat} (hk : k < 5) : Ct l G yX4_heatOn cX4_heatOn 2 (some .int) 4 0 0 [.ref (gB G 3), .int (nI k)] σ (Qi G (fun r σ' => r = (gS α k).2 ∧ Mq σ α 0 n σ')) := by
  refine mt_intro (by decide +kernel) (Nat.le_of_ble_eq_true rfl) ?_
  intro p e s m below meth c S hr hlk hnm hI ls hl
  have hl : lv_has ls 2 [(0, .ref (gB G 3)), (1, .int (nI k))] := hl
  have hn20 := hpic.1
  refine lv_aload_n S.1 S.2.1 dX4_heatOn_0 rfl (lv_at hl 0 rfl) ?_
  refine lv_iload_n S.1 S.2.1 dX4_heatOn_1 rfl (lv_at hl 1 rfl) ?_
  refine lv_iconst (v := 1) S.1 S.2.1 dX4_heatOn_2 (by decide) ?_
  refine cl_i hI (rnV (As := [.int (nI k), .int 1]) (rest := []) S hI (c_ofShelf l G _ hm hpic (k := k) (w9 := 1) hk (by decide)) (cw_X4_X4_ofShelf S.2.2.2.2 ⟨Nat.le_of_ble_eq_true rfl, Nat.le_of_ble_eq_true rfl⟩) (rcM hI) rfl hl.1 (Nat.le_of_ble_eq_true rfl) dX4_heatOn_3 ⟨Nat.le_of_ble_eq_true rfl, Nat.le_of_ble_eq_true rfl⟩) (fun r1 σ1 H locs hq1 hI => ?_)
  obtain ⟨hr1, ez1⟩ := hq1
  rw [hr1]
  exact xt_i S hI hr hlk (⟨(hpic.2.2.2.1 k hk).2.1, mk, lf, nw, kp, (by rw [ez1]; try rfl), hpic⟩) (by decide) (by decide) dX4_heatOn_6
set_option maxRecDepth 100000 in
set_option maxHeartbeats 4000000 in
theorem m_heatOn_b (l : Launch) (G : Gt) (σ : St) {α : St} {n : Nat} {th : Int32} {mk lf nw kp : Nat → Int32} (hm : gM σ = (th, nI n, mk, lf, nw, kp)) (hpic : Pic α n mk lf nw) (v : Int32) (hb : v < 0 ∨ nI 5 ≤ v) : Ct l G yX4_heatOn cX4_heatOn 2 (some .int) 4 0 0 [.ref (gB G 3), .int v] σ (Qi G (fun r σ' => Mq σ α 1 n σ')) := by
  refine mt_intro (by decide +kernel) (Nat.le_of_ble_eq_true rfl) ?_
  intro p e s m below meth c S hr hlk hnm hI ls hl
  have hl : lv_has ls 2 [(0, .ref (gB G 3)), (1, .int v)] := hl
  have hn20 := hpic.1
  refine lv_aload_n S.1 S.2.1 dX4_heatOn_0 rfl (lv_at hl 0 rfl) ?_
  refine lv_iload_n S.1 S.2.1 dX4_heatOn_1 rfl (lv_at hl 1 rfl) ?_
  refine lv_iconst (v := 1) S.1 S.2.1 dX4_heatOn_2 (by decide) ?_
  refine cl_i hI (rnV (As := [.int v, .int 1]) (rest := []) S hI (c_ofShelf_b l G _ hm hpic v 1 hb) (cw_X4_X4_ofShelf S.2.2.2.2 ⟨Nat.le_of_ble_eq_true rfl, Nat.le_of_ble_eq_true rfl⟩) (rcM hI) rfl hl.1 (Nat.le_of_ble_eq_true rfl) dX4_heatOn_3 ⟨Nat.le_of_ble_eq_true rfl, Nat.le_of_ble_eq_true rfl⟩) (fun r1 σ1 H locs hq1 hI => ?_)
  obtain ⟨hr1, ez1⟩ := hq1
  rw [hr1]
  exact xt_i S hI hr hlk (⟨mk, lf, nw, kp, (by rw [ez1]; try rfl), hpic⟩) (by decide) (by decide) dX4_heatOn_6
set_option maxRecDepth 100000 in
set_option maxHeartbeats 4000000 in
theorem m_promisesOn (l : Launch) (G : Gt) (σ : St) {α : St} {n : Nat} {th : Int32} {mk lf nw kp : Nat → Int32} (hm : gM σ = (th, nI n, mk, lf, nw, kp)) (hpic : Pic α n mk lf nw) {k : Nat} (hk : k < 5) : Ct l G yX4_promisesOn cX4_promisesOn 2 (some .int) 4 0 0 [.ref (gB G 3), .int (nI k)] σ (Qi G (fun r σ' => r = onF α k ∧ Mq σ α 0 n σ')) := by
  refine mt_intro (by decide +kernel) (Nat.le_of_ble_eq_true rfl) ?_
  intro p e s m below meth c S hr hlk hnm hI ls hl
  have hl : lv_has ls 2 [(0, .ref (gB G 3)), (1, .int (nI k))] := hl
  have hn20 := hpic.1
  refine lv_aload_n S.1 S.2.1 dX4_promisesOn_0 rfl (lv_at hl 0 rfl) ?_
  refine lv_iconst (v := 0) S.1 S.2.1 dX4_promisesOn_1 (by decide) ?_
  refine p_X4_M_thrown S hI hm dX4_promisesOn_2 (fun σ1 H locs ey1 hz1 hI => ?_)
  refine lv_iload_n S.1 S.2.1 dX4_promisesOn_5 rfl (lv_at hl 1 rfl) ?_
  refine cl_i hI (rnS (As := [.int (nI k)]) (rest := []) S hI (c_isShelf l G _ (nI k)) (cw_X4_X4_isShelf S.2.2.2.2 ⟨Nat.le_of_ble_eq_true rfl, Nat.le_of_ble_eq_true rfl⟩) rfl hl.1 (Nat.le_of_ble_eq_true rfl) dX4_promisesOn_6 ⟨Nat.le_of_ble_eq_true rfl, Nat.le_of_ble_eq_true rfl⟩) (fun r2 σ2 H locs hq2 hI => ?_)
  obtain ⟨hr2, hs2⟩ := hq2
  rw [hs2] at hI
  rw [hr2, inI_s hk]
  refine lv_if_eq (tgt := 20) S.1 S.2.1 dX4_promisesOn_9 (by decide) (fun c9 => absurd c9 (by decide)) (fun _ => ?_)
  refine lv_aload_n S.1 S.2.1 dX4_promisesOn_12 rfl (lv_at hl 0 rfl) ?_
  refine lv_iload_n S.1 S.2.1 dX4_promisesOn_13 rfl (lv_at hl 1 rfl) ?_
  refine cl_i hI (rnV (As := [.int (nI k)]) (rest := []) S hI (c_on l G _ hz1 hpic (k9 := k) hk) (cw_X4_X4_on S.2.2.2.2 ⟨Nat.le_of_ble_eq_true rfl, Nat.le_of_ble_eq_true rfl⟩) (rcM hI) rfl hl.1 (Nat.le_of_ble_eq_true rfl) dX4_promisesOn_14 ⟨Nat.le_of_ble_eq_true rfl, Nat.le_of_ble_eq_true rfl⟩) (fun r3 σ3 H locs hq3 hI => ?_)
  obtain ⟨hr3, hs3⟩ := hq3
  rw [hs3] at hI
  rw [hr3]
  refine lv_goto (tgt := 25) S.1 S.2.1 dX4_promisesOn_17 (by decide) ?_
  exact xt_i S hI hr hlk (⟨rfl, mk, lf, nw, kp, (by rw [ey1]; try rfl), hpic⟩) (by decide) (by decide) dX4_promisesOn_25
set_option maxRecDepth 100000 in
set_option maxHeartbeats 4000000 in
theorem m_promisesOn_b (l : Launch) (G : Gt) (σ : St) {α : St} {n : Nat} {th : Int32} {mk lf nw kp : Nat → Int32} (hm : gM σ = (th, nI n, mk, lf, nw, kp)) (hpic : Pic α n mk lf nw) (v : Int32) (hb : v < 0 ∨ nI 5 ≤ v) : Ct l G yX4_promisesOn cX4_promisesOn 2 (some .int) 4 0 0 [.ref (gB G 3), .int v] σ (Qi G (fun r σ' => Mq σ α 1 n σ')) := by
  refine mt_intro (by decide +kernel) (Nat.le_of_ble_eq_true rfl) ?_
  intro p e s m below meth c S hr hlk hnm hI ls hl
  have hl : lv_has ls 2 [(0, .ref (gB G 3)), (1, .int v)] := hl
  have hn20 := hpic.1
  refine lv_aload_n S.1 S.2.1 dX4_promisesOn_0 rfl (lv_at hl 0 rfl) ?_
  refine lv_iconst (v := 0) S.1 S.2.1 dX4_promisesOn_1 (by decide) ?_
  refine p_X4_M_thrown S hI hm dX4_promisesOn_2 (fun σ1 H locs ey1 hz1 hI => ?_)
  refine lv_iload_n S.1 S.2.1 dX4_promisesOn_5 rfl (lv_at hl 1 rfl) ?_
  refine cl_i hI (rnS (As := [.int v]) (rest := []) S hI (c_isShelf l G _ v) (cw_X4_X4_isShelf S.2.2.2.2 ⟨Nat.le_of_ble_eq_true rfl, Nat.le_of_ble_eq_true rfl⟩) rfl hl.1 (Nat.le_of_ble_eq_true rfl) dX4_promisesOn_6 ⟨Nat.le_of_ble_eq_true rfl, Nat.le_of_ble_eq_true rfl⟩) (fun r2 σ2 H locs hq2 hI => ?_)
  obtain ⟨hr2, hs2⟩ := hq2
  rw [hs2] at hI
  rw [hr2, inI_bs hb]
  refine lv_if_eq (tgt := 20) S.1 S.2.1 dX4_promisesOn_9 (by decide) (fun _ => ?_) (fun c9 => absurd c9 (by decide))
  refine lv_aload_n S.1 S.2.1 dX4_promisesOn_20 rfl (lv_at hl 0 rfl) ?_
  refine lv_iconst (v := 1) S.1 S.2.1 dX4_promisesOn_21 (by decide) ?_
  refine cl_i hI (rnV (As := [.int 1]) (rest := []) S hI (c_no l G _ hz1 1) (cw_X4_X4_no S.2.2.2.2 ⟨Nat.le_of_ble_eq_true rfl, Nat.le_of_ble_eq_true rfl⟩) (rcM hI) rfl hl.1 (Nat.le_of_ble_eq_true rfl) dX4_promisesOn_22 ⟨Nat.le_of_ble_eq_true rfl, Nat.le_of_ble_eq_true rfl⟩) (fun r3 σ3 H locs hq3 hI => ?_)
  obtain ⟨hr3, ez3⟩ := hq3
  rw [hr3]
  exact xt_i S hI hr hlk (⟨mk, lf, nw, kp, (by rw [ez3, ey1]; try rfl), hpic⟩) (by decide) (by decide) dX4_promisesOn_25
set_option maxRecDepth 100000 in
set_option maxHeartbeats 4000000 in
theorem c_ofPromise (l : Launch) (G : Gt) (σ : St) {α : St} {n : Nat} {th : Int32} {mk lf nw kp : Nat → Int32} (hm : gM σ = (th, nI n, mk, lf, nw, kp)) (hpic : Pic α n mk lf nw) {i w9 : Nat} (hi : i < n) (hw9 : w9 < 5) : Ct l G yX4_ofPromise cX4_ofPromise 3 (some .int) 3 0 0 [.ref (gB G 3), .int (nI i), .int (nI w9)] σ (Qi G (fun r σ' => r = nw (13 + 5 * i + w9) ∧ σ' = setM σ (0, nI n, mk, lf, nw, kp))) := by
  refine mt_intro (by decide +kernel) (Nat.le_of_ble_eq_true rfl) ?_
  intro p e s m below meth c S hr hlk hnm hI ls hl
  have hl : lv_has ls 3 [(0, .ref (gB G 3)), (1, .int (nI i)), (2, .int (nI w9))] := hl
  have hn20 := hpic.1
  refine lv_aload_n S.1 S.2.1 dX4_ofPromise_0 rfl (lv_at hl 0 rfl) ?_
  refine lv_iconst (v := 0) S.1 S.2.1 dX4_ofPromise_1 (by decide) ?_
  refine p_X4_M_thrown S hI hm dX4_ofPromise_2 (fun σ1 H locs ey1 hz1 hI => ?_)
  refine lv_aload_n S.1 S.2.1 dX4_ofPromise_5 rfl (lv_at hl 0 rfl) ?_
  refine lv_iload_n S.1 S.2.1 dX4_ofPromise_6 rfl (lv_at hl 1 rfl) ?_
  refine cl_i hI (rnV (As := [.int (nI i)]) (rest := []) S hI (c_isPromise l G _ hz1 (nI i)) (cw_X4_X4_isPromise S.2.2.2.2 ⟨Nat.le_of_ble_eq_true rfl, Nat.le_of_ble_eq_true rfl⟩) (rcM hI) rfl hl.1 (Nat.le_of_ble_eq_true rfl) dX4_ofPromise_7 ⟨Nat.le_of_ble_eq_true rfl, Nat.le_of_ble_eq_true rfl⟩) (fun r2 σ2 H locs hq2 hI => ?_)
  obtain ⟨hr2, hs2⟩ := hq2
  rw [hs2] at hI
  rw [hr2, inI_p hi hn20]
  refine lv_if_eq (tgt := 26) S.1 S.2.1 dX4_ofPromise_10 (by decide) (fun c9 => absurd c9 (by decide)) (fun _ => ?_)
  refine lv_aload_n S.1 S.2.1 dX4_ofPromise_13 rfl (lv_at hl 0 rfl) ?_
  refine g_X4_M_now S hI dX4_ofPromise_14 ?_
  refine lv_iload_n S.1 S.2.1 dX4_ofPromise_17 rfl (lv_at hl 1 rfl) ?_
  refine lv_iload_n S.1 S.2.1 dX4_ofPromise_18 rfl (lv_at hl 2 rfl) ?_
  refine cl_i hI (rnS (As := [.int (nI i), .int (nI w9)]) (rest := [.ref (gB G 6)]) S hI (c_of l G _ i w9) (cw_X4_X4_of S.2.2.2.2 ⟨Nat.le_of_ble_eq_true rfl, Nat.le_of_ble_eq_true rfl⟩) rfl hl.1 (Nat.le_of_ble_eq_true rfl) dX4_ofPromise_19 ⟨Nat.le_of_ble_eq_true rfl, Nat.le_of_ble_eq_true rfl⟩) (fun r3 σ3 H locs hq3 hI => ?_)
  obtain ⟨hr3, hs3⟩ := hq3
  rw [hs3] at hI
  rw [hr3]
  refine a_nw S hI hz1 (j := (13 + 5 * i + w9)) (by omega) dX4_ofPromise_22 ?_
  refine lv_goto (tgt := 31) S.1 S.2.1 dX4_ofPromise_23 (by decide) ?_
  exact xt_i S hI hr hlk (⟨rfl, (by rw [ey1]; try rfl)⟩) (by decide) (by decide) dX4_ofPromise_31
set_option maxRecDepth 100000 in
set_option maxHeartbeats 4000000 in
theorem c_ofPromise_b (l : Launch) (G : Gt) (σ : St) {α : St} {n : Nat} {th : Int32} {mk lf nw kp : Nat → Int32} (hm : gM σ = (th, nI n, mk, lf, nw, kp)) (hpic : Pic α n mk lf nw) (v : Int32) (w9 : Int32) (hb : v < 0 ∨ nI n ≤ v) : Ct l G yX4_ofPromise cX4_ofPromise 3 (some .int) 3 0 0 [.ref (gB G 3), .int v, .int w9] σ (Qi G (fun r σ' => r = 0 ∧ σ' = setM σ (1, nI n, mk, lf, nw, kp))) := by
  refine mt_intro (by decide +kernel) (Nat.le_of_ble_eq_true rfl) ?_
  intro p e s m below meth c S hr hlk hnm hI ls hl
  have hl : lv_has ls 3 [(0, .ref (gB G 3)), (1, .int v), (2, .int w9)] := hl
  have hn20 := hpic.1
  refine lv_aload_n S.1 S.2.1 dX4_ofPromise_0 rfl (lv_at hl 0 rfl) ?_
  refine lv_iconst (v := 0) S.1 S.2.1 dX4_ofPromise_1 (by decide) ?_
  refine p_X4_M_thrown S hI hm dX4_ofPromise_2 (fun σ1 H locs ey1 hz1 hI => ?_)
  refine lv_aload_n S.1 S.2.1 dX4_ofPromise_5 rfl (lv_at hl 0 rfl) ?_
  refine lv_iload_n S.1 S.2.1 dX4_ofPromise_6 rfl (lv_at hl 1 rfl) ?_
  refine cl_i hI (rnV (As := [.int v]) (rest := []) S hI (c_isPromise l G _ hz1 v) (cw_X4_X4_isPromise S.2.2.2.2 ⟨Nat.le_of_ble_eq_true rfl, Nat.le_of_ble_eq_true rfl⟩) (rcM hI) rfl hl.1 (Nat.le_of_ble_eq_true rfl) dX4_ofPromise_7 ⟨Nat.le_of_ble_eq_true rfl, Nat.le_of_ble_eq_true rfl⟩) (fun r2 σ2 H locs hq2 hI => ?_)
  obtain ⟨hr2, hs2⟩ := hq2
  rw [hs2] at hI
  rw [hr2, inI_np hn20 hb]
  refine lv_if_eq (tgt := 26) S.1 S.2.1 dX4_ofPromise_10 (by decide) (fun _ => ?_) (fun c9 => absurd c9 (by decide))
  refine lv_aload_n S.1 S.2.1 dX4_ofPromise_26 rfl (lv_at hl 0 rfl) ?_
  refine lv_iconst (v := 1) S.1 S.2.1 dX4_ofPromise_27 (by decide) ?_
  refine cl_i hI (rnV (As := [.int 1]) (rest := []) S hI (c_no l G _ hz1 1) (cw_X4_X4_no S.2.2.2.2 ⟨Nat.le_of_ble_eq_true rfl, Nat.le_of_ble_eq_true rfl⟩) (rcM hI) rfl hl.1 (Nat.le_of_ble_eq_true rfl) dX4_ofPromise_28 ⟨Nat.le_of_ble_eq_true rfl, Nat.le_of_ble_eq_true rfl⟩) (fun r3 σ3 H locs hq3 hI => ?_)
  obtain ⟨hr3, ez3⟩ := hq3
  rw [hr3]
  exact xt_i S hI hr hlk (⟨rfl, (by rw [ez3, ey1]; try rfl)⟩) (by decide) (by decide) dX4_ofPromise_31
theorem Pic.shI {α : St} {n : Nat} {mk lf nw : Nat → Int32} (h : Pic α n mk lf nw) {i : Nat} (hi : i < n) : nw (13 + 5 * i + 0) = shI (gP α i).2.1 := by
  obtain ⟨-, -, -, -, -, h6⟩ := h.2.2.2.2.1 i hi
  show _ = (if (gP α i).2.1 < 5 then nI (gP α i).2.1 else -1)
  rcases h6 with ⟨a, -, b, -⟩ | ⟨a, b, -⟩
  · rw [if_pos a]; exact b
  · rw [if_neg (by omega)]; exact b
set_option maxRecDepth 100000 in
set_option maxHeartbeats 4000000 in
theorem m_shelfOf (l : Launch) (G : Gt) (σ : St) {α : St} {n : Nat} {th : Int32} {mk lf nw kp : Nat → Int32} (hm : gM σ = (th, nI n, mk, lf, nw, kp)) (hpic : Pic α n mk lf nw) {i : Nat} (hi : i < n) : Ct l G yX4_shelfOf cX4_shelfOf 2 (some .int) 4 0 0 [.ref (gB G 3), .int (nI i)] σ (Qi G (fun r σ' => r = shI (gP α i).2.1 ∧ Mq σ α 0 n σ')) := by
  refine mt_intro (by decide +kernel) (Nat.le_of_ble_eq_true rfl) ?_
  intro p e s m below meth c S hr hlk hnm hI ls hl
  have hl : lv_has ls 2 [(0, .ref (gB G 3)), (1, .int (nI i))] := hl
  have hn20 := hpic.1
  refine lv_aload_n S.1 S.2.1 dX4_shelfOf_0 rfl (lv_at hl 0 rfl) ?_
  refine lv_iload_n S.1 S.2.1 dX4_shelfOf_1 rfl (lv_at hl 1 rfl) ?_
  refine lv_iconst (v := 0) S.1 S.2.1 dX4_shelfOf_2 (by decide) ?_
  refine cl_i hI (rnV (As := [.int (nI i), .int 0]) (rest := []) S hI (c_ofPromise l G _ hm hpic (i := i) (w9 := 0) hi (by decide)) (cw_X4_X4_ofPromise S.2.2.2.2 ⟨Nat.le_of_ble_eq_true rfl, Nat.le_of_ble_eq_true rfl⟩) (rcM hI) rfl hl.1 (Nat.le_of_ble_eq_true rfl) dX4_shelfOf_3 ⟨Nat.le_of_ble_eq_true rfl, Nat.le_of_ble_eq_true rfl⟩) (fun r1 σ1 H locs hq1 hI => ?_)
  obtain ⟨hr1, ez1⟩ := hq1
  rw [hr1]
  exact xt_i S hI hr hlk (⟨hpic.shI hi, mk, lf, nw, kp, (by rw [ez1]; try rfl), hpic⟩) (by decide) (by decide) dX4_shelfOf_6
set_option maxRecDepth 100000 in
set_option maxHeartbeats 4000000 in
theorem m_shelfOf_b (l : Launch) (G : Gt) (σ : St) {α : St} {n : Nat} {th : Int32} {mk lf nw kp : Nat → Int32} (hm : gM σ = (th, nI n, mk, lf, nw, kp)) (hpic : Pic α n mk lf nw) (v : Int32) (hb : v < 0 ∨ nI n ≤ v) : Ct l G yX4_shelfOf cX4_shelfOf 2 (some .int) 4 0 0 [.ref (gB G 3), .int v] σ (Qi G (fun r σ' => Mq σ α 1 n σ')) := by
  refine mt_intro (by decide +kernel) (Nat.le_of_ble_eq_true rfl) ?_
  intro p e s m below meth c S hr hlk hnm hI ls hl
  have hl : lv_has ls 2 [(0, .ref (gB G 3)), (1, .int v)] := hl
  have hn20 := hpic.1
  refine lv_aload_n S.1 S.2.1 dX4_shelfOf_0 rfl (lv_at hl 0 rfl) ?_
  refine lv_iload_n S.1 S.2.1 dX4_shelfOf_1 rfl (lv_at hl 1 rfl) ?_
  refine lv_iconst (v := 0) S.1 S.2.1 dX4_shelfOf_2 (by decide) ?_
  refine cl_i hI (rnV (As := [.int v, .int 0]) (rest := []) S hI (c_ofPromise_b l G _ hm hpic v 0 hb) (cw_X4_X4_ofPromise S.2.2.2.2 ⟨Nat.le_of_ble_eq_true rfl, Nat.le_of_ble_eq_true rfl⟩) (rcM hI) rfl hl.1 (Nat.le_of_ble_eq_true rfl) dX4_shelfOf_3 ⟨Nat.le_of_ble_eq_true rfl, Nat.le_of_ble_eq_true rfl⟩) (fun r1 σ1 H locs hq1 hI => ?_)
  obtain ⟨hr1, ez1⟩ := hq1
  rw [hr1]
  exact xt_i S hI hr hlk (⟨mk, lf, nw, kp, (by rw [ez1]; try rfl), hpic⟩) (by decide) (by decide) dX4_shelfOf_6
set_option maxRecDepth 100000 in
set_option maxHeartbeats 4000000 in
theorem m_heatOf (l : Launch) (G : Gt) (σ : St) {α : St} {n : Nat} {th : Int32} {mk lf nw kp : Nat → Int32} (hm : gM σ = (th, nI n, mk, lf, nw, kp)) (hpic : Pic α n mk lf nw) {i : Nat} (hi : i < n) : Ct l G yX4_heatOf cX4_heatOf 2 (some .int) 4 0 0 [.ref (gB G 3), .int (nI i)] σ (Qi G (fun r σ' => r = (gP α i).2.2.2.2.2 ∧ Mq σ α 0 n σ')) := by
  refine mt_intro (by decide +kernel) (Nat.le_of_ble_eq_true rfl) ?_
  intro p e s m below meth c S hr hlk hnm hI ls hl
  have hl : lv_has ls 2 [(0, .ref (gB G 3)), (1, .int (nI i))] := hl
  have hn20 := hpic.1
  refine lv_aload_n S.1 S.2.1 dX4_heatOf_0 rfl (lv_at hl 0 rfl) ?_
  refine lv_iload_n S.1 S.2.1 dX4_heatOf_1 rfl (lv_at hl 1 rfl) ?_
  refine lv_iconst (v := 1) S.1 S.2.1 dX4_heatOf_2 (by decide) ?_
  refine cl_i hI (rnV (As := [.int (nI i), .int 1]) (rest := []) S hI (c_ofPromise l G _ hm hpic (i := i) (w9 := 1) hi (by decide)) (cw_X4_X4_ofPromise S.2.2.2.2 ⟨Nat.le_of_ble_eq_true rfl, Nat.le_of_ble_eq_true rfl⟩) (rcM hI) rfl hl.1 (Nat.le_of_ble_eq_true rfl) dX4_heatOf_3 ⟨Nat.le_of_ble_eq_true rfl, Nat.le_of_ble_eq_true rfl⟩) (fun r1 σ1 H locs hq1 hI => ?_)
  obtain ⟨hr1, ez1⟩ := hq1
  rw [hr1]
  exact xt_i S hI hr hlk (⟨(hpic.2.2.2.2.1 i hi).2.2.1, mk, lf, nw, kp, (by rw [ez1]; try rfl), hpic⟩) (by decide) (by decide) dX4_heatOf_6
set_option maxRecDepth 100000 in
set_option maxHeartbeats 4000000 in
theorem m_heatOf_b (l : Launch) (G : Gt) (σ : St) {α : St} {n : Nat} {th : Int32} {mk lf nw kp : Nat → Int32} (hm : gM σ = (th, nI n, mk, lf, nw, kp)) (hpic : Pic α n mk lf nw) (v : Int32) (hb : v < 0 ∨ nI n ≤ v) : Ct l G yX4_heatOf cX4_heatOf 2 (some .int) 4 0 0 [.ref (gB G 3), .int v] σ (Qi G (fun r σ' => Mq σ α 1 n σ')) := by
  refine mt_intro (by decide +kernel) (Nat.le_of_ble_eq_true rfl) ?_
  intro p e s m below meth c S hr hlk hnm hI ls hl
  have hl : lv_has ls 2 [(0, .ref (gB G 3)), (1, .int v)] := hl
  have hn20 := hpic.1
  refine lv_aload_n S.1 S.2.1 dX4_heatOf_0 rfl (lv_at hl 0 rfl) ?_
  refine lv_iload_n S.1 S.2.1 dX4_heatOf_1 rfl (lv_at hl 1 rfl) ?_
  refine lv_iconst (v := 1) S.1 S.2.1 dX4_heatOf_2 (by decide) ?_
  refine cl_i hI (rnV (As := [.int v, .int 1]) (rest := []) S hI (c_ofPromise_b l G _ hm hpic v 1 hb) (cw_X4_X4_ofPromise S.2.2.2.2 ⟨Nat.le_of_ble_eq_true rfl, Nat.le_of_ble_eq_true rfl⟩) (rcM hI) rfl hl.1 (Nat.le_of_ble_eq_true rfl) dX4_heatOf_3 ⟨Nat.le_of_ble_eq_true rfl, Nat.le_of_ble_eq_true rfl⟩) (fun r1 σ1 H locs hq1 hI => ?_)
  obtain ⟨hr1, ez1⟩ := hq1
  rw [hr1]
  exact xt_i S hI hr hlk (⟨mk, lf, nw, kp, (by rw [ez1]; try rfl), hpic⟩) (by decide) (by decide) dX4_heatOf_6
set_option maxRecDepth 100000 in
set_option maxHeartbeats 4000000 in
theorem m_ageOf (l : Launch) (G : Gt) (σ : St) {α : St} {n : Nat} {th : Int32} {mk lf nw kp : Nat → Int32} (hm : gM σ = (th, nI n, mk, lf, nw, kp)) (hpic : Pic α n mk lf nw) {i : Nat} (hi : i < n) : Ct l G yX4_ageOf cX4_ageOf 2 (some .int) 4 0 0 [.ref (gB G 3), .int (nI i)] σ (Qi G (fun r σ' => r = (gP α i).2.2.2.2.1 ∧ Mq σ α 0 n σ')) := by
  refine mt_intro (by decide +kernel) (Nat.le_of_ble_eq_true rfl) ?_
  intro p e s m below meth c S hr hlk hnm hI ls hl
  have hl : lv_has ls 2 [(0, .ref (gB G 3)), (1, .int (nI i))] := hl
  have hn20 := hpic.1
  refine lv_aload_n S.1 S.2.1 dX4_ageOf_0 rfl (lv_at hl 0 rfl) ?_
  refine lv_iload_n S.1 S.2.1 dX4_ageOf_1 rfl (lv_at hl 1 rfl) ?_
  refine lv_iconst (v := 2) S.1 S.2.1 dX4_ageOf_2 (by decide) ?_
  refine cl_i hI (rnV (As := [.int (nI i), .int 2]) (rest := []) S hI (c_ofPromise l G _ hm hpic (i := i) (w9 := 2) hi (by decide)) (cw_X4_X4_ofPromise S.2.2.2.2 ⟨Nat.le_of_ble_eq_true rfl, Nat.le_of_ble_eq_true rfl⟩) (rcM hI) rfl hl.1 (Nat.le_of_ble_eq_true rfl) dX4_ageOf_3 ⟨Nat.le_of_ble_eq_true rfl, Nat.le_of_ble_eq_true rfl⟩) (fun r1 σ1 H locs hq1 hI => ?_)
  obtain ⟨hr1, ez1⟩ := hq1
  rw [hr1]
  exact xt_i S hI hr hlk (⟨(hpic.2.2.2.2.1 i hi).2.2.2.1, mk, lf, nw, kp, (by rw [ez1]; try rfl), hpic⟩) (by decide) (by decide) dX4_ageOf_6
set_option maxRecDepth 100000 in
set_option maxHeartbeats 4000000 in
theorem m_ageOf_b (l : Launch) (G : Gt) (σ : St) {α : St} {n : Nat} {th : Int32} {mk lf nw kp : Nat → Int32} (hm : gM σ = (th, nI n, mk, lf, nw, kp)) (hpic : Pic α n mk lf nw) (v : Int32) (hb : v < 0 ∨ nI n ≤ v) : Ct l G yX4_ageOf cX4_ageOf 2 (some .int) 4 0 0 [.ref (gB G 3), .int v] σ (Qi G (fun r σ' => Mq σ α 1 n σ')) := by
  refine mt_intro (by decide +kernel) (Nat.le_of_ble_eq_true rfl) ?_
  intro p e s m below meth c S hr hlk hnm hI ls hl
  have hl : lv_has ls 2 [(0, .ref (gB G 3)), (1, .int v)] := hl
  have hn20 := hpic.1
  refine lv_aload_n S.1 S.2.1 dX4_ageOf_0 rfl (lv_at hl 0 rfl) ?_
  refine lv_iload_n S.1 S.2.1 dX4_ageOf_1 rfl (lv_at hl 1 rfl) ?_
  refine lv_iconst (v := 2) S.1 S.2.1 dX4_ageOf_2 (by decide) ?_
  refine cl_i hI (rnV (As := [.int v, .int 2]) (rest := []) S hI (c_ofPromise_b l G _ hm hpic v 2 hb) (cw_X4_X4_ofPromise S.2.2.2.2 ⟨Nat.le_of_ble_eq_true rfl, Nat.le_of_ble_eq_true rfl⟩) (rcM hI) rfl hl.1 (Nat.le_of_ble_eq_true rfl) dX4_ageOf_3 ⟨Nat.le_of_ble_eq_true rfl, Nat.le_of_ble_eq_true rfl⟩) (fun r1 σ1 H locs hq1 hI => ?_)
  obtain ⟨hr1, ez1⟩ := hq1
  rw [hr1]
  exact xt_i S hI hr hlk (⟨mk, lf, nw, kp, (by rw [ez1]; try rfl), hpic⟩) (by decide) (by decide) dX4_ageOf_6
set_option maxRecDepth 100000 in
set_option maxHeartbeats 4000000 in
theorem m_isKept (l : Launch) (G : Gt) (σ : St) {α : St} {n : Nat} {th : Int32} {mk lf nw kp : Nat → Int32} (hm : gM σ = (th, nI n, mk, lf, nw, kp)) (hpic : Pic α n mk lf nw) {i : Nat} (hi : i < n) : Ct l G yX4_isKept cX4_isKept 2 (some .boolean) 4 0 0 [.ref (gB G 3), .int (nI i)] σ (Qi G (fun r σ' => r = isI (gP α i) 4 ∧ Mq σ α 0 n σ')) := by
  refine mt_intro (by decide +kernel) (Nat.le_of_ble_eq_true rfl) ?_
  intro p e s m below meth c S hr hlk hnm hI ls hl
  have hl : lv_has ls 2 [(0, .ref (gB G 3)), (1, .int (nI i))] := hl
  have hn20 := hpic.1
  refine lv_aload_n S.1 S.2.1 dX4_isKept_0 rfl (lv_at hl 0 rfl) ?_
  refine lv_iload_n S.1 S.2.1 dX4_isKept_1 rfl (lv_at hl 1 rfl) ?_
  refine lv_iconst (v := 4) S.1 S.2.1 dX4_isKept_2 (by decide) ?_
  refine cl_i hI (rnV (As := [.int (nI i), .int 4]) (rest := []) S hI (c_ofPromise l G _ hm hpic (i := i) (w9 := 4) hi (by decide)) (cw_X4_X4_ofPromise S.2.2.2.2 ⟨Nat.le_of_ble_eq_true rfl, Nat.le_of_ble_eq_true rfl⟩) (rcM hI) rfl hl.1 (Nat.le_of_ble_eq_true rfl) dX4_isKept_3 ⟨Nat.le_of_ble_eq_true rfl, Nat.le_of_ble_eq_true rfl⟩) (fun r1 σ1 H locs hq1 hI => ?_)
  obtain ⟨hr1, ez1⟩ := hq1
  rw [hr1]
  refine lv_iconst (v := 1) S.1 S.2.1 dX4_isKept_6 (by decide) ?_
  refine lv_icmp_ne (tgt := 14) S.1 S.2.1 dX4_isKept_7 (by decide) (fun cz_7 => ?_) (fun cz_7 => ?_)
  · refine lv_iconst (v := 0) S.1 S.2.1 dX4_isKept_14 (by decide) ?_
    exact xt_z S hI hr hlk rfl (⟨(if_neg (by rw [← (hpic.endI hi).1]; exact cz_7)).symm, mk, lf, nw, kp, (by rw [ez1]; try rfl), hpic⟩) (by decide) (by decide) dX4_isKept_15
  · refine lv_iconst (v := 1) S.1 S.2.1 dX4_isKept_10 (by decide) ?_
    refine lv_goto (tgt := 15) S.1 S.2.1 dX4_isKept_11 (by decide) ?_
    exact xt_z S hI hr hlk rfl (⟨(if_pos (by rw [← (hpic.endI hi).1]; exact cz_7)).symm, mk, lf, nw, kp, (by rw [ez1]; try rfl), hpic⟩) (by decide) (by decide) dX4_isKept_15
set_option maxRecDepth 100000 in
set_option maxHeartbeats 4000000 in
theorem m_isKept_b (l : Launch) (G : Gt) (σ : St) {α : St} {n : Nat} {th : Int32} {mk lf nw kp : Nat → Int32} (hm : gM σ = (th, nI n, mk, lf, nw, kp)) (hpic : Pic α n mk lf nw) (v : Int32) (hb : v < 0 ∨ nI n ≤ v) : Ct l G yX4_isKept cX4_isKept 2 (some .boolean) 4 0 0 [.ref (gB G 3), .int v] σ (Qi G (fun r σ' => Mq σ α 1 n σ')) := by
  refine mt_intro (by decide +kernel) (Nat.le_of_ble_eq_true rfl) ?_
  intro p e s m below meth c S hr hlk hnm hI ls hl
  have hl : lv_has ls 2 [(0, .ref (gB G 3)), (1, .int v)] := hl
  have hn20 := hpic.1
  refine lv_aload_n S.1 S.2.1 dX4_isKept_0 rfl (lv_at hl 0 rfl) ?_
  refine lv_iload_n S.1 S.2.1 dX4_isKept_1 rfl (lv_at hl 1 rfl) ?_
  refine lv_iconst (v := 4) S.1 S.2.1 dX4_isKept_2 (by decide) ?_
  refine cl_i hI (rnV (As := [.int v, .int 4]) (rest := []) S hI (c_ofPromise_b l G _ hm hpic v 4 hb) (cw_X4_X4_ofPromise S.2.2.2.2 ⟨Nat.le_of_ble_eq_true rfl, Nat.le_of_ble_eq_true rfl⟩) (rcM hI) rfl hl.1 (Nat.le_of_ble_eq_true rfl) dX4_isKept_3 ⟨Nat.le_of_ble_eq_true rfl, Nat.le_of_ble_eq_true rfl⟩) (fun r1 σ1 H locs hq1 hI => ?_)
  obtain ⟨hr1, ez1⟩ := hq1
  rw [hr1]
  refine lv_iconst (v := 1) S.1 S.2.1 dX4_isKept_6 (by decide) ?_
  refine lv_icmp_ne (tgt := 14) S.1 S.2.1 dX4_isKept_7 (by decide) (fun _ => ?_) (fun c9 => absurd c9 (by decide))
  refine lv_iconst (v := 0) S.1 S.2.1 dX4_isKept_14 (by decide) ?_
  exact xt_z S hI hr hlk rfl (⟨mk, lf, nw, kp, (by rw [ez1]; try rfl), hpic⟩) (by decide) (by decide) dX4_isKept_15
set_option maxRecDepth 100000 in
set_option maxHeartbeats 4000000 in
theorem m_isExpired (l : Launch) (G : Gt) (σ : St) {α : St} {n : Nat} {th : Int32} {mk lf nw kp : Nat → Int32} (hm : gM σ = (th, nI n, mk, lf, nw, kp)) (hpic : Pic α n mk lf nw) {i : Nat} (hi : i < n) : Ct l G yX4_isExpired cX4_isExpired 2 (some .boolean) 4 0 0 [.ref (gB G 3), .int (nI i)] σ (Qi G (fun r σ' => r = isI (gP α i) 5 ∧ Mq σ α 0 n σ')) := by
  refine mt_intro (by decide +kernel) (Nat.le_of_ble_eq_true rfl) ?_
  intro p e s m below meth c S hr hlk hnm hI ls hl
  have hl : lv_has ls 2 [(0, .ref (gB G 3)), (1, .int (nI i))] := hl
  have hn20 := hpic.1
  refine lv_aload_n S.1 S.2.1 dX4_isExpired_0 rfl (lv_at hl 0 rfl) ?_
  refine lv_iload_n S.1 S.2.1 dX4_isExpired_1 rfl (lv_at hl 1 rfl) ?_
  refine lv_iconst (v := 4) S.1 S.2.1 dX4_isExpired_2 (by decide) ?_
  refine cl_i hI (rnV (As := [.int (nI i), .int 4]) (rest := []) S hI (c_ofPromise l G _ hm hpic (i := i) (w9 := 4) hi (by decide)) (cw_X4_X4_ofPromise S.2.2.2.2 ⟨Nat.le_of_ble_eq_true rfl, Nat.le_of_ble_eq_true rfl⟩) (rcM hI) rfl hl.1 (Nat.le_of_ble_eq_true rfl) dX4_isExpired_3 ⟨Nat.le_of_ble_eq_true rfl, Nat.le_of_ble_eq_true rfl⟩) (fun r1 σ1 H locs hq1 hI => ?_)
  obtain ⟨hr1, ez1⟩ := hq1
  rw [hr1]
  refine lv_iconst (v := 2) S.1 S.2.1 dX4_isExpired_6 (by decide) ?_
  refine lv_icmp_ne (tgt := 14) S.1 S.2.1 dX4_isExpired_7 (by decide) (fun cz_7 => ?_) (fun cz_7 => ?_)
  · refine lv_iconst (v := 0) S.1 S.2.1 dX4_isExpired_14 (by decide) ?_
    exact xt_z S hI hr hlk rfl (⟨(if_neg (by rw [← (hpic.endI hi).2]; exact cz_7)).symm, mk, lf, nw, kp, (by rw [ez1]; try rfl), hpic⟩) (by decide) (by decide) dX4_isExpired_15
  · refine lv_iconst (v := 1) S.1 S.2.1 dX4_isExpired_10 (by decide) ?_
    refine lv_goto (tgt := 15) S.1 S.2.1 dX4_isExpired_11 (by decide) ?_
    exact xt_z S hI hr hlk rfl (⟨(if_pos (by rw [← (hpic.endI hi).2]; exact cz_7)).symm, mk, lf, nw, kp, (by rw [ez1]; try rfl), hpic⟩) (by decide) (by decide) dX4_isExpired_15
set_option maxRecDepth 100000 in
set_option maxHeartbeats 4000000 in
theorem m_isExpired_b (l : Launch) (G : Gt) (σ : St) {α : St} {n : Nat} {th : Int32} {mk lf nw kp : Nat → Int32} (hm : gM σ = (th, nI n, mk, lf, nw, kp)) (hpic : Pic α n mk lf nw) (v : Int32) (hb : v < 0 ∨ nI n ≤ v) : Ct l G yX4_isExpired cX4_isExpired 2 (some .boolean) 4 0 0 [.ref (gB G 3), .int v] σ (Qi G (fun r σ' => Mq σ α 1 n σ')) := by
  refine mt_intro (by decide +kernel) (Nat.le_of_ble_eq_true rfl) ?_
  intro p e s m below meth c S hr hlk hnm hI ls hl
  have hl : lv_has ls 2 [(0, .ref (gB G 3)), (1, .int v)] := hl
  have hn20 := hpic.1
  refine lv_aload_n S.1 S.2.1 dX4_isExpired_0 rfl (lv_at hl 0 rfl) ?_
  refine lv_iload_n S.1 S.2.1 dX4_isExpired_1 rfl (lv_at hl 1 rfl) ?_
  refine lv_iconst (v := 4) S.1 S.2.1 dX4_isExpired_2 (by decide) ?_
  refine cl_i hI (rnV (As := [.int v, .int 4]) (rest := []) S hI (c_ofPromise_b l G _ hm hpic v 4 hb) (cw_X4_X4_ofPromise S.2.2.2.2 ⟨Nat.le_of_ble_eq_true rfl, Nat.le_of_ble_eq_true rfl⟩) (rcM hI) rfl hl.1 (Nat.le_of_ble_eq_true rfl) dX4_isExpired_3 ⟨Nat.le_of_ble_eq_true rfl, Nat.le_of_ble_eq_true rfl⟩) (fun r1 σ1 H locs hq1 hI => ?_)
  obtain ⟨hr1, ez1⟩ := hq1
  rw [hr1]
  refine lv_iconst (v := 2) S.1 S.2.1 dX4_isExpired_6 (by decide) ?_
  refine lv_icmp_ne (tgt := 14) S.1 S.2.1 dX4_isExpired_7 (by decide) (fun _ => ?_) (fun c9 => absurd c9 (by decide))
  refine lv_iconst (v := 0) S.1 S.2.1 dX4_isExpired_14 (by decide) ?_
  exact xt_z S hI hr hlk rfl (⟨mk, lf, nw, kp, (by rw [ez1]; try rfl), hpic⟩) (by decide) (by decide) dX4_isExpired_15
set_option maxRecDepth 100000 in
set_option maxHeartbeats 4000000 in
theorem m_makerOf (l : Launch) (G : Gt) (σ : St) {α : St} {n : Nat} {th : Int32} {mk lf nw kp : Nat → Int32} (hm : gM σ = (th, nI n, mk, lf, nw, kp)) (hpic : Pic α n mk lf nw) {i : Nat} (hi : i < n) : Ct l G yX4_makerOf cX4_makerOf 2 (some .int) 4 0 0 [.ref (gB G 3), .int (nI i)] σ (Qi G (fun r σ' => r = (gP α i).2.2.1 ∧ Mq σ α 0 n σ')) := by
  refine mt_intro (by decide +kernel) (Nat.le_of_ble_eq_true rfl) ?_
  intro p e s m below meth c S hr hlk hnm hI ls hl
  have hl : lv_has ls 2 [(0, .ref (gB G 3)), (1, .int (nI i))] := hl
  have hn20 := hpic.1
  refine lv_aload_n S.1 S.2.1 dX4_makerOf_0 rfl (lv_at hl 0 rfl) ?_
  refine lv_iconst (v := 0) S.1 S.2.1 dX4_makerOf_1 (by decide) ?_
  refine p_X4_M_thrown S hI hm dX4_makerOf_2 (fun σ1 H locs ey1 hz1 hI => ?_)
  refine lv_aload_n S.1 S.2.1 dX4_makerOf_5 rfl (lv_at hl 0 rfl) ?_
  refine lv_iload_n S.1 S.2.1 dX4_makerOf_6 rfl (lv_at hl 1 rfl) ?_
  refine cl_i hI (rnV (As := [.int (nI i)]) (rest := []) S hI (c_isPromise l G _ hz1 (nI i)) (cw_X4_X4_isPromise S.2.2.2.2 ⟨Nat.le_of_ble_eq_true rfl, Nat.le_of_ble_eq_true rfl⟩) (rcM hI) rfl hl.1 (Nat.le_of_ble_eq_true rfl) dX4_makerOf_7 ⟨Nat.le_of_ble_eq_true rfl, Nat.le_of_ble_eq_true rfl⟩) (fun r2 σ2 H locs hq2 hI => ?_)
  obtain ⟨hr2, hs2⟩ := hq2
  rw [hs2] at hI
  rw [hr2, inI_p hi hn20]
  refine lv_if_eq (tgt := 22) S.1 S.2.1 dX4_makerOf_10 (by decide) (fun c9 => absurd c9 (by decide)) (fun _ => ?_)
  refine lv_aload_n S.1 S.2.1 dX4_makerOf_13 rfl (lv_at hl 0 rfl) ?_
  refine g_X4_M_maker S hI dX4_makerOf_14 ?_
  refine lv_iload_n S.1 S.2.1 dX4_makerOf_17 rfl (lv_at hl 1 rfl) ?_
  refine a_mk S hI hz1 (j := i) (by omega) dX4_makerOf_18 ?_
  refine lv_goto (tgt := 27) S.1 S.2.1 dX4_makerOf_19 (by decide) ?_
  exact xt_i S hI hr hlk (⟨(hpic.2.2.2.2.1 i hi).1, mk, lf, nw, kp, (by rw [ey1]; try rfl), hpic⟩) (by decide) (by decide) dX4_makerOf_27
set_option maxRecDepth 100000 in
set_option maxHeartbeats 4000000 in
theorem m_makerOf_b (l : Launch) (G : Gt) (σ : St) {α : St} {n : Nat} {th : Int32} {mk lf nw kp : Nat → Int32} (hm : gM σ = (th, nI n, mk, lf, nw, kp)) (hpic : Pic α n mk lf nw) (v : Int32) (hb : v < 0 ∨ nI n ≤ v) : Ct l G yX4_makerOf cX4_makerOf 2 (some .int) 4 0 0 [.ref (gB G 3), .int v] σ (Qi G (fun r σ' => Mq σ α 1 n σ')) := by
  refine mt_intro (by decide +kernel) (Nat.le_of_ble_eq_true rfl) ?_
  intro p e s m below meth c S hr hlk hnm hI ls hl
  have hl : lv_has ls 2 [(0, .ref (gB G 3)), (1, .int v)] := hl
  have hn20 := hpic.1
  refine lv_aload_n S.1 S.2.1 dX4_makerOf_0 rfl (lv_at hl 0 rfl) ?_
  refine lv_iconst (v := 0) S.1 S.2.1 dX4_makerOf_1 (by decide) ?_
  refine p_X4_M_thrown S hI hm dX4_makerOf_2 (fun σ1 H locs ey1 hz1 hI => ?_)
  refine lv_aload_n S.1 S.2.1 dX4_makerOf_5 rfl (lv_at hl 0 rfl) ?_
  refine lv_iload_n S.1 S.2.1 dX4_makerOf_6 rfl (lv_at hl 1 rfl) ?_
  refine cl_i hI (rnV (As := [.int v]) (rest := []) S hI (c_isPromise l G _ hz1 v) (cw_X4_X4_isPromise S.2.2.2.2 ⟨Nat.le_of_ble_eq_true rfl, Nat.le_of_ble_eq_true rfl⟩) (rcM hI) rfl hl.1 (Nat.le_of_ble_eq_true rfl) dX4_makerOf_7 ⟨Nat.le_of_ble_eq_true rfl, Nat.le_of_ble_eq_true rfl⟩) (fun r2 σ2 H locs hq2 hI => ?_)
  obtain ⟨hr2, hs2⟩ := hq2
  rw [hs2] at hI
  rw [hr2, inI_np hn20 hb]
  refine lv_if_eq (tgt := 22) S.1 S.2.1 dX4_makerOf_10 (by decide) (fun _ => ?_) (fun c9 => absurd c9 (by decide))
  refine lv_aload_n S.1 S.2.1 dX4_makerOf_22 rfl (lv_at hl 0 rfl) ?_
  refine lv_iconst (v := 1) S.1 S.2.1 dX4_makerOf_23 (by decide) ?_
  refine cl_i hI (rnV (As := [.int 1]) (rest := []) S hI (c_no l G _ hz1 1) (cw_X4_X4_no S.2.2.2.2 ⟨Nat.le_of_ble_eq_true rfl, Nat.le_of_ble_eq_true rfl⟩) (rcM hI) rfl hl.1 (Nat.le_of_ble_eq_true rfl) dX4_makerOf_24 ⟨Nat.le_of_ble_eq_true rfl, Nat.le_of_ble_eq_true rfl⟩) (fun r3 σ3 H locs hq3 hI => ?_)
  obtain ⟨hr3, ez3⟩ := hq3
  rw [hr3]
  exact xt_i S hI hr hlk (⟨mk, lf, nw, kp, (by rw [ez3, ey1]; try rfl), hpic⟩) (by decide) (by decide) dX4_makerOf_27
set_option maxRecDepth 100000 in
set_option maxHeartbeats 4000000 in
theorem m_hoursLeft (l : Launch) (G : Gt) (σ : St) {α : St} {n : Nat} {th : Int32} {mk lf nw kp : Nat → Int32} (hm : gM σ = (th, nI n, mk, lf, nw, kp)) (hpic : Pic α n mk lf nw) {i : Nat} (hi : i < n) : Ct l G yX4_hoursLeft cX4_hoursLeft 2 (some .int) 4 0 0 [.ref (gB G 3), .int (nI i)] σ (Qi G (fun r σ' => r = (gP α i).2.2.2.1 - (gP α i).2.2.2.2.1 ∧ Mq σ α 0 n σ')) := by
  refine mt_intro (by decide +kernel) (Nat.le_of_ble_eq_true rfl) ?_
  intro p e s m below meth c S hr hlk hnm hI ls hl
  have hl : lv_has ls 2 [(0, .ref (gB G 3)), (1, .int (nI i))] := hl
  have hn20 := hpic.1
  refine lv_aload_n S.1 S.2.1 dX4_hoursLeft_0 rfl (lv_at hl 0 rfl) ?_
  refine lv_iconst (v := 0) S.1 S.2.1 dX4_hoursLeft_1 (by decide) ?_
  refine p_X4_M_thrown S hI hm dX4_hoursLeft_2 (fun σ1 H locs ey1 hz1 hI => ?_)
  refine lv_aload_n S.1 S.2.1 dX4_hoursLeft_5 rfl (lv_at hl 0 rfl) ?_
  refine lv_iload_n S.1 S.2.1 dX4_hoursLeft_6 rfl (lv_at hl 1 rfl) ?_
  refine cl_i hI (rnV (As := [.int (nI i)]) (rest := []) S hI (c_isPromise l G _ hz1 (nI i)) (cw_X4_X4_isPromise S.2.2.2.2 ⟨Nat.le_of_ble_eq_true rfl, Nat.le_of_ble_eq_true rfl⟩) (rcM hI) rfl hl.1 (Nat.le_of_ble_eq_true rfl) dX4_hoursLeft_7 ⟨Nat.le_of_ble_eq_true rfl, Nat.le_of_ble_eq_true rfl⟩) (fun r2 σ2 H locs hq2 hI => ?_)
  obtain ⟨hr2, hs2⟩ := hq2
  rw [hs2] at hI
  rw [hr2, inI_p hi hn20]
  refine lv_if_eq (tgt := 21) S.1 S.2.1 dX4_hoursLeft_10 (by decide) (fun c9 => absurd c9 (by decide)) (fun _ => ?_)
  refine lv_aload_n S.1 S.2.1 dX4_hoursLeft_13 rfl (lv_at hl 0 rfl) ?_
  refine lv_iload_n S.1 S.2.1 dX4_hoursLeft_14 rfl (lv_at hl 1 rfl) ?_
  refine cl_i hI (rnV (As := [.int (nI i)]) (rest := []) S hI (c_left l G _ hz1 hpic (q := i) hi) (cw_X4_X4_left S.2.2.2.2 ⟨Nat.le_of_ble_eq_true rfl, Nat.le_of_ble_eq_true rfl⟩) (rcM hI) rfl hl.1 (Nat.le_of_ble_eq_true rfl) dX4_hoursLeft_15 ⟨Nat.le_of_ble_eq_true rfl, Nat.le_of_ble_eq_true rfl⟩) (fun r3 σ3 H locs hq3 hI => ?_)
  obtain ⟨hr3, hs3⟩ := hq3
  rw [hs3] at hI
  rw [hr3]
  refine lv_goto (tgt := 26) S.1 S.2.1 dX4_hoursLeft_18 (by decide) ?_
  exact xt_i S hI hr hlk (⟨rfl, mk, lf, nw, kp, (by rw [ey1]; try rfl), hpic⟩) (by decide) (by decide) dX4_hoursLeft_26
set_option maxRecDepth 100000 in
set_option maxHeartbeats 4000000 in
theorem m_hoursLeft_b (l : Launch) (G : Gt) (σ : St) {α : St} {n : Nat} {th : Int32} {mk lf nw kp : Nat → Int32} (hm : gM σ = (th, nI n, mk, lf, nw, kp)) (hpic : Pic α n mk lf nw) (v : Int32) (hb : v < 0 ∨ nI n ≤ v) : Ct l G yX4_hoursLeft cX4_hoursLeft 2 (some .int) 4 0 0 [.ref (gB G 3), .int v] σ (Qi G (fun r σ' => Mq σ α 1 n σ')) := by
  refine mt_intro (by decide +kernel) (Nat.le_of_ble_eq_true rfl) ?_
  intro p e s m below meth c S hr hlk hnm hI ls hl
  have hl : lv_has ls 2 [(0, .ref (gB G 3)), (1, .int v)] := hl
  have hn20 := hpic.1
  refine lv_aload_n S.1 S.2.1 dX4_hoursLeft_0 rfl (lv_at hl 0 rfl) ?_
  refine lv_iconst (v := 0) S.1 S.2.1 dX4_hoursLeft_1 (by decide) ?_
  refine p_X4_M_thrown S hI hm dX4_hoursLeft_2 (fun σ1 H locs ey1 hz1 hI => ?_)
  refine lv_aload_n S.1 S.2.1 dX4_hoursLeft_5 rfl (lv_at hl 0 rfl) ?_
  refine lv_iload_n S.1 S.2.1 dX4_hoursLeft_6 rfl (lv_at hl 1 rfl) ?_
  refine cl_i hI (rnV (As := [.int v]) (rest := []) S hI (c_isPromise l G _ hz1 v) (cw_X4_X4_isPromise S.2.2.2.2 ⟨Nat.le_of_ble_eq_true rfl, Nat.le_of_ble_eq_true rfl⟩) (rcM hI) rfl hl.1 (Nat.le_of_ble_eq_true rfl) dX4_hoursLeft_7 ⟨Nat.le_of_ble_eq_true rfl, Nat.le_of_ble_eq_true rfl⟩) (fun r2 σ2 H locs hq2 hI => ?_)
  obtain ⟨hr2, hs2⟩ := hq2
  rw [hs2] at hI
  rw [hr2, inI_np hn20 hb]
  refine lv_if_eq (tgt := 21) S.1 S.2.1 dX4_hoursLeft_10 (by decide) (fun _ => ?_) (fun c9 => absurd c9 (by decide))
  refine lv_aload_n S.1 S.2.1 dX4_hoursLeft_21 rfl (lv_at hl 0 rfl) ?_
  refine lv_iconst (v := 1) S.1 S.2.1 dX4_hoursLeft_22 (by decide) ?_
  refine cl_i hI (rnV (As := [.int 1]) (rest := []) S hI (c_no l G _ hz1 1) (cw_X4_X4_no S.2.2.2.2 ⟨Nat.le_of_ble_eq_true rfl, Nat.le_of_ble_eq_true rfl⟩) (rcM hI) rfl hl.1 (Nat.le_of_ble_eq_true rfl) dX4_hoursLeft_23 ⟨Nat.le_of_ble_eq_true rfl, Nat.le_of_ble_eq_true rfl⟩) (fun r3 σ3 H locs hq3 hI => ?_)
  obtain ⟨hr3, ez3⟩ := hq3
  rw [hr3]
  exact xt_i S hI hr hlk (⟨mk, lf, nw, kp, (by rw [ez3, ey1]; try rfl), hpic⟩) (by decide) (by decide) dX4_hoursLeft_26
set_option maxRecDepth 100000 in
set_option maxHeartbeats 4000000 in
theorem m_isFrozen (l : Launch) (G : Gt) (σ : St) {α : St} {n : Nat} {th : Int32} {mk lf nw kp : Nat → Int32} (hm : gM σ = (th, nI n, mk, lf, nw, kp)) (hpic : Pic α n mk lf nw) {i : Nat} (hi : i < n) : Ct l G yX4_isFrozen cX4_isFrozen 2 (some .boolean) 5 0 0 [.ref (gB G 3), .int (nI i)] σ (Qi G (fun r σ' => r = isI (gP α i) 2 ∧ Mq σ α 0 n σ')) := by
  refine mt_intro (by decide +kernel) (Nat.le_of_ble_eq_true rfl) ?_
  intro p e s m below meth c S hr hlk hnm hI ls hl
  have hl : lv_has ls 2 [(0, .ref (gB G 3)), (1, .int (nI i))] := hl
  have hn20 := hpic.1
  refine lv_aload_n S.1 S.2.1 dX4_isFrozen_0 rfl (lv_at hl 0 rfl) ?_
  refine lv_iconst (v := 0) S.1 S.2.1 dX4_isFrozen_1 (by decide) ?_
  refine p_X4_M_thrown S hI hm dX4_isFrozen_2 (fun σ1 H locs ey1 hz1 hI => ?_)
  refine lv_aload_n S.1 S.2.1 dX4_isFrozen_5 rfl (lv_at hl 0 rfl) ?_
  refine lv_iload_n S.1 S.2.1 dX4_isFrozen_6 rfl (lv_at hl 1 rfl) ?_
  refine cl_i hI (rnV (As := [.int (nI i)]) (rest := []) S hI (c_isPromise l G _ hz1 (nI i)) (cw_X4_X4_isPromise S.2.2.2.2 ⟨Nat.le_of_ble_eq_true rfl, Nat.le_of_ble_eq_true rfl⟩) (rcM hI) rfl hl.1 (Nat.le_of_ble_eq_true rfl) dX4_isFrozen_7 ⟨Nat.le_of_ble_eq_true rfl, Nat.le_of_ble_eq_true rfl⟩) (fun r2 σ2 H locs hq2 hI => ?_)
  obtain ⟨hr2, hs2⟩ := hq2
  rw [hs2] at hI
  rw [hr2, inI_p hi hn20]
  refine lv_if_eq (tgt := 22) S.1 S.2.1 dX4_isFrozen_10 (by decide) (fun c9 => absurd c9 (by decide)) (fun _ => ?_)
  refine lv_aload_n S.1 S.2.1 dX4_isFrozen_13 rfl (lv_at hl 0 rfl) ?_
  refine lv_iload_n S.1 S.2.1 dX4_isFrozen_14 rfl (lv_at hl 1 rfl) ?_
  refine lv_iconst (v := 1) S.1 S.2.1 dX4_isFrozen_15 (by decide) ?_
  refine cl_i hI (rnV (As := [.int (nI i), .int 1]) (rest := []) S hI (c_isSo l G _ hz1 hpic (q := i) hi (g := 2) (by omega)) (cw_X4_X4_isSo S.2.2.2.2 ⟨Nat.le_of_ble_eq_true rfl, Nat.le_of_ble_eq_true rfl⟩) (rcM hI) rfl hl.1 (Nat.le_of_ble_eq_true rfl) dX4_isFrozen_16 ⟨Nat.le_of_ble_eq_true rfl, Nat.le_of_ble_eq_true rfl⟩) (fun r3 σ3 H locs hq3 hI => ?_)
  obtain ⟨hr3, hs3⟩ := hq3
  rw [hs3] at hI
  rw [hr3]
  refine lv_goto (tgt := 27) S.1 S.2.1 dX4_isFrozen_19 (by decide) ?_
  exact xt_z S hI hr hlk (by rcases isI_01 (gP α i) 2 with e9 | e9 <;> rw [e9] <;> rfl) (⟨rfl, mk, lf, nw, kp, (by rw [ey1]; try rfl), hpic⟩) (by decide) (by decide) dX4_isFrozen_27
set_option maxRecDepth 100000 in
set_option maxHeartbeats 4000000 in
theorem m_isFrozen_b (l : Launch) (G : Gt) (σ : St) {α : St} {n : Nat} {th : Int32} {mk lf nw kp : Nat → Int32} (hm : gM σ = (th, nI n, mk, lf, nw, kp)) (hpic : Pic α n mk lf nw) (v : Int32) (hb : v < 0 ∨ nI n ≤ v) : Ct l G yX4_isFrozen cX4_isFrozen 2 (some .boolean) 5 0 0 [.ref (gB G 3), .int v] σ (Qi G (fun r σ' => Mq σ α 1 n σ')) := by
  refine mt_intro (by decide +kernel) (Nat.le_of_ble_eq_true rfl) ?_
  intro p e s m below meth c S hr hlk hnm hI ls hl
  have hl : lv_has ls 2 [(0, .ref (gB G 3)), (1, .int v)] := hl
  have hn20 := hpic.1
  refine lv_aload_n S.1 S.2.1 dX4_isFrozen_0 rfl (lv_at hl 0 rfl) ?_
  refine lv_iconst (v := 0) S.1 S.2.1 dX4_isFrozen_1 (by decide) ?_
  refine p_X4_M_thrown S hI hm dX4_isFrozen_2 (fun σ1 H locs ey1 hz1 hI => ?_)
  refine lv_aload_n S.1 S.2.1 dX4_isFrozen_5 rfl (lv_at hl 0 rfl) ?_
  refine lv_iload_n S.1 S.2.1 dX4_isFrozen_6 rfl (lv_at hl 1 rfl) ?_
  refine cl_i hI (rnV (As := [.int v]) (rest := []) S hI (c_isPromise l G _ hz1 v) (cw_X4_X4_isPromise S.2.2.2.2 ⟨Nat.le_of_ble_eq_true rfl, Nat.le_of_ble_eq_true rfl⟩) (rcM hI) rfl hl.1 (Nat.le_of_ble_eq_true rfl) dX4_isFrozen_7 ⟨Nat.le_of_ble_eq_true rfl, Nat.le_of_ble_eq_true rfl⟩) (fun r2 σ2 H locs hq2 hI => ?_)
  obtain ⟨hr2, hs2⟩ := hq2
  rw [hs2] at hI
  rw [hr2, inI_np hn20 hb]
  refine lv_if_eq (tgt := 22) S.1 S.2.1 dX4_isFrozen_10 (by decide) (fun _ => ?_) (fun c9 => absurd c9 (by decide))
  refine lv_aload_n S.1 S.2.1 dX4_isFrozen_22 rfl (lv_at hl 0 rfl) ?_
  refine lv_iconst (v := 1) S.1 S.2.1 dX4_isFrozen_23 (by decide) ?_
  refine cl_i hI (rnV (As := [.int 1]) (rest := []) S hI (c_isNot l G _ hz1 1) (cw_X4_X4_isNot S.2.2.2.2 ⟨Nat.le_of_ble_eq_true rfl, Nat.le_of_ble_eq_true rfl⟩) (rcM hI) rfl hl.1 (Nat.le_of_ble_eq_true rfl) dX4_isFrozen_24 ⟨Nat.le_of_ble_eq_true rfl, Nat.le_of_ble_eq_true rfl⟩) (fun r3 σ3 H locs hq3 hI => ?_)
  obtain ⟨hr3, ez3⟩ := hq3
  rw [hr3]
  exact xt_z S hI hr hlk rfl (⟨mk, lf, nw, kp, (by rw [ez3, ey1]; try rfl), hpic⟩) (by decide) (by decide) dX4_isFrozen_27
set_option maxRecDepth 100000 in
set_option maxHeartbeats 4000000 in
theorem m_isThawed (l : Launch) (G : Gt) (σ : St) {α : St} {n : Nat} {th : Int32} {mk lf nw kp : Nat → Int32} (hm : gM σ = (th, nI n, mk, lf, nw, kp)) (hpic : Pic α n mk lf nw) {i : Nat} (hi : i < n) : Ct l G yX4_isThawed cX4_isThawed 2 (some .boolean) 5 0 0 [.ref (gB G 3), .int (nI i)] σ (Qi G (fun r σ' => r = isI (gP α i) 3 ∧ Mq σ α 0 n σ')) := by
  refine mt_intro (by decide +kernel) (Nat.le_of_ble_eq_true rfl) ?_
  intro p e s m below meth c S hr hlk hnm hI ls hl
  have hl : lv_has ls 2 [(0, .ref (gB G 3)), (1, .int (nI i))] := hl
  have hn20 := hpic.1
  refine lv_aload_n S.1 S.2.1 dX4_isThawed_0 rfl (lv_at hl 0 rfl) ?_
  refine lv_iconst (v := 0) S.1 S.2.1 dX4_isThawed_1 (by decide) ?_
  refine p_X4_M_thrown S hI hm dX4_isThawed_2 (fun σ1 H locs ey1 hz1 hI => ?_)
  refine lv_aload_n S.1 S.2.1 dX4_isThawed_5 rfl (lv_at hl 0 rfl) ?_
  refine lv_iload_n S.1 S.2.1 dX4_isThawed_6 rfl (lv_at hl 1 rfl) ?_
  refine cl_i hI (rnV (As := [.int (nI i)]) (rest := []) S hI (c_isPromise l G _ hz1 (nI i)) (cw_X4_X4_isPromise S.2.2.2.2 ⟨Nat.le_of_ble_eq_true rfl, Nat.le_of_ble_eq_true rfl⟩) (rcM hI) rfl hl.1 (Nat.le_of_ble_eq_true rfl) dX4_isThawed_7 ⟨Nat.le_of_ble_eq_true rfl, Nat.le_of_ble_eq_true rfl⟩) (fun r2 σ2 H locs hq2 hI => ?_)
  obtain ⟨hr2, hs2⟩ := hq2
  rw [hs2] at hI
  rw [hr2, inI_p hi hn20]
  refine lv_if_eq (tgt := 22) S.1 S.2.1 dX4_isThawed_10 (by decide) (fun c9 => absurd c9 (by decide)) (fun _ => ?_)
  refine lv_aload_n S.1 S.2.1 dX4_isThawed_13 rfl (lv_at hl 0 rfl) ?_
  refine lv_iload_n S.1 S.2.1 dX4_isThawed_14 rfl (lv_at hl 1 rfl) ?_
  refine lv_iconst (v := 2) S.1 S.2.1 dX4_isThawed_15 (by decide) ?_
  refine cl_i hI (rnV (As := [.int (nI i), .int 2]) (rest := []) S hI (c_isSo l G _ hz1 hpic (q := i) hi (g := 3) (by omega)) (cw_X4_X4_isSo S.2.2.2.2 ⟨Nat.le_of_ble_eq_true rfl, Nat.le_of_ble_eq_true rfl⟩) (rcM hI) rfl hl.1 (Nat.le_of_ble_eq_true rfl) dX4_isThawed_16 ⟨Nat.le_of_ble_eq_true rfl, Nat.le_of_ble_eq_true rfl⟩) (fun r3 σ3 H locs hq3 hI => ?_)
  obtain ⟨hr3, hs3⟩ := hq3
  rw [hs3] at hI
  rw [hr3]
  refine lv_goto (tgt := 27) S.1 S.2.1 dX4_isThawed_19 (by decide) ?_
  exact xt_z S hI hr hlk (by rcases isI_01 (gP α i) 3 with e9 | e9 <;> rw [e9] <;> rfl) (⟨rfl, mk, lf, nw, kp, (by rw [ey1]; try rfl), hpic⟩) (by decide) (by decide) dX4_isThawed_27
set_option maxRecDepth 100000 in
set_option maxHeartbeats 4000000 in
theorem m_isThawed_b (l : Launch) (G : Gt) (σ : St) {α : St} {n : Nat} {th : Int32} {mk lf nw kp : Nat → Int32} (hm : gM σ = (th, nI n, mk, lf, nw, kp)) (hpic : Pic α n mk lf nw) (v : Int32) (hb : v < 0 ∨ nI n ≤ v) : Ct l G yX4_isThawed cX4_isThawed 2 (some .boolean) 5 0 0 [.ref (gB G 3), .int v] σ (Qi G (fun r σ' => Mq σ α 1 n σ')) := by
  refine mt_intro (by decide +kernel) (Nat.le_of_ble_eq_true rfl) ?_
  intro p e s m below meth c S hr hlk hnm hI ls hl
  have hl : lv_has ls 2 [(0, .ref (gB G 3)), (1, .int v)] := hl
  have hn20 := hpic.1
  refine lv_aload_n S.1 S.2.1 dX4_isThawed_0 rfl (lv_at hl 0 rfl) ?_
  refine lv_iconst (v := 0) S.1 S.2.1 dX4_isThawed_1 (by decide) ?_
  refine p_X4_M_thrown S hI hm dX4_isThawed_2 (fun σ1 H locs ey1 hz1 hI => ?_)
  refine lv_aload_n S.1 S.2.1 dX4_isThawed_5 rfl (lv_at hl 0 rfl) ?_
  refine lv_iload_n S.1 S.2.1 dX4_isThawed_6 rfl (lv_at hl 1 rfl) ?_
  refine cl_i hI (rnV (As := [.int v]) (rest := []) S hI (c_isPromise l G _ hz1 v) (cw_X4_X4_isPromise S.2.2.2.2 ⟨Nat.le_of_ble_eq_true rfl, Nat.le_of_ble_eq_true rfl⟩) (rcM hI) rfl hl.1 (Nat.le_of_ble_eq_true rfl) dX4_isThawed_7 ⟨Nat.le_of_ble_eq_true rfl, Nat.le_of_ble_eq_true rfl⟩) (fun r2 σ2 H locs hq2 hI => ?_)
  obtain ⟨hr2, hs2⟩ := hq2
  rw [hs2] at hI
  rw [hr2, inI_np hn20 hb]
  refine lv_if_eq (tgt := 22) S.1 S.2.1 dX4_isThawed_10 (by decide) (fun _ => ?_) (fun c9 => absurd c9 (by decide))
  refine lv_aload_n S.1 S.2.1 dX4_isThawed_22 rfl (lv_at hl 0 rfl) ?_
  refine lv_iconst (v := 1) S.1 S.2.1 dX4_isThawed_23 (by decide) ?_
  refine cl_i hI (rnV (As := [.int 1]) (rest := []) S hI (c_isNot l G _ hz1 1) (cw_X4_X4_isNot S.2.2.2.2 ⟨Nat.le_of_ble_eq_true rfl, Nat.le_of_ble_eq_true rfl⟩) (rcM hI) rfl hl.1 (Nat.le_of_ble_eq_true rfl) dX4_isThawed_24 ⟨Nat.le_of_ble_eq_true rfl, Nat.le_of_ble_eq_true rfl⟩) (fun r3 σ3 H locs hq3 hI => ?_)
  obtain ⟨hr3, ez3⟩ := hq3
  rw [hr3]
  exact xt_z S hI hr hlk rfl (⟨mk, lf, nw, kp, (by rw [ez3, ey1]; try rfl), hpic⟩) (by decide) (by decide) dX4_isThawed_27
set_option maxRecDepth 100000 in
set_option maxHeartbeats 4000000 in
theorem m_owedBy (l : Launch) (G : Gt) (σ : St) {α : St} {n : Nat} {th : Int32} {mk lf nw kp : Nat → Int32} (hm : gM σ = (th, nI n, mk, lf, nw, kp)) (hpic : Pic α n mk lf nw) {a : Nat} (ha : a < 6) : Ct l G yX4_owedBy cX4_owedBy 2 (some .int) 4 0 0 [.ref (gB G 3), .int (nI a)] σ (Qi G (fun r σ' => r = owF α (nI a) ∧ Mq σ α 0 n σ')) := by
  refine mt_intro (by decide +kernel) (Nat.le_of_ble_eq_true rfl) ?_
  intro p e s m below meth c S hr hlk hnm hI ls hl
  have hl : lv_has ls 2 [(0, .ref (gB G 3)), (1, .int (nI a))] := hl
  have hn20 := hpic.1
  refine lv_aload_n S.1 S.2.1 dX4_owedBy_0 rfl (lv_at hl 0 rfl) ?_
  refine lv_iconst (v := 0) S.1 S.2.1 dX4_owedBy_1 (by decide) ?_
  refine p_X4_M_thrown S hI hm dX4_owedBy_2 (fun σ1 H locs ey1 hz1 hI => ?_)
  refine lv_iload_n S.1 S.2.1 dX4_owedBy_5 rfl (lv_at hl 1 rfl) ?_
  refine cl_i hI (rnS (As := [.int (nI a)]) (rest := []) S hI (c_isMaker l G _ (nI a)) (cw_X4_X4_isMaker S.2.2.2.2 ⟨Nat.le_of_ble_eq_true rfl, Nat.le_of_ble_eq_true rfl⟩) rfl hl.1 (Nat.le_of_ble_eq_true rfl) dX4_owedBy_6 ⟨Nat.le_of_ble_eq_true rfl, Nat.le_of_ble_eq_true rfl⟩) (fun r2 σ2 H locs hq2 hI => ?_)
  obtain ⟨hr2, hs2⟩ := hq2
  rw [hs2] at hI
  rw [hr2, inI_m ha]
  refine lv_if_eq (tgt := 20) S.1 S.2.1 dX4_owedBy_9 (by decide) (fun c9 => absurd c9 (by decide)) (fun _ => ?_)
  refine lv_aload_n S.1 S.2.1 dX4_owedBy_12 rfl (lv_at hl 0 rfl) ?_
  refine lv_iload_n S.1 S.2.1 dX4_owedBy_13 rfl (lv_at hl 1 rfl) ?_
  refine cl_i hI (rnV (As := [.int (nI a)]) (rest := []) S hI (c_owes l G _ hz1 hpic (a := a)) (cw_X4_X4_owes S.2.2.2.2 ⟨Nat.le_of_ble_eq_true rfl, Nat.le_of_ble_eq_true rfl⟩) (rcM hI) rfl hl.1 (Nat.le_of_ble_eq_true rfl) dX4_owedBy_14 ⟨Nat.le_of_ble_eq_true rfl, Nat.le_of_ble_eq_true rfl⟩) (fun r3 σ3 H locs hq3 hI => ?_)
  obtain ⟨hr3, hs3⟩ := hq3
  rw [hs3] at hI
  rw [hr3]
  refine lv_goto (tgt := 25) S.1 S.2.1 dX4_owedBy_17 (by decide) ?_
  exact xt_i S hI hr hlk (⟨rfl, mk, lf, nw, kp, (by rw [ey1]; try rfl), hpic⟩) (by decide) (by decide) dX4_owedBy_25
set_option maxRecDepth 100000 in
set_option maxHeartbeats 4000000 in
theorem m_owedBy_b (l : Launch) (G : Gt) (σ : St) {α : St} {n : Nat} {th : Int32} {mk lf nw kp : Nat → Int32} (hm : gM σ = (th, nI n, mk, lf, nw, kp)) (hpic : Pic α n mk lf nw) (v : Int32) (hb : v < 0 ∨ nI 6 ≤ v) : Ct l G yX4_owedBy cX4_owedBy 2 (some .int) 4 0 0 [.ref (gB G 3), .int v] σ (Qi G (fun r σ' => Mq σ α 1 n σ')) := by
  refine mt_intro (by decide +kernel) (Nat.le_of_ble_eq_true rfl) ?_
  intro p e s m below meth c S hr hlk hnm hI ls hl
  have hl : lv_has ls 2 [(0, .ref (gB G 3)), (1, .int v)] := hl
  have hn20 := hpic.1
  refine lv_aload_n S.1 S.2.1 dX4_owedBy_0 rfl (lv_at hl 0 rfl) ?_
  refine lv_iconst (v := 0) S.1 S.2.1 dX4_owedBy_1 (by decide) ?_
  refine p_X4_M_thrown S hI hm dX4_owedBy_2 (fun σ1 H locs ey1 hz1 hI => ?_)
  refine lv_iload_n S.1 S.2.1 dX4_owedBy_5 rfl (lv_at hl 1 rfl) ?_
  refine cl_i hI (rnS (As := [.int v]) (rest := []) S hI (c_isMaker l G _ v) (cw_X4_X4_isMaker S.2.2.2.2 ⟨Nat.le_of_ble_eq_true rfl, Nat.le_of_ble_eq_true rfl⟩) rfl hl.1 (Nat.le_of_ble_eq_true rfl) dX4_owedBy_6 ⟨Nat.le_of_ble_eq_true rfl, Nat.le_of_ble_eq_true rfl⟩) (fun r2 σ2 H locs hq2 hI => ?_)
  obtain ⟨hr2, hs2⟩ := hq2
  rw [hs2] at hI
  rw [hr2, inI_bm hb]
  refine lv_if_eq (tgt := 20) S.1 S.2.1 dX4_owedBy_9 (by decide) (fun _ => ?_) (fun c9 => absurd c9 (by decide))
  refine lv_aload_n S.1 S.2.1 dX4_owedBy_20 rfl (lv_at hl 0 rfl) ?_
  refine lv_iconst (v := 1) S.1 S.2.1 dX4_owedBy_21 (by decide) ?_
  refine cl_i hI (rnV (As := [.int 1]) (rest := []) S hI (c_no l G _ hz1 1) (cw_X4_X4_no S.2.2.2.2 ⟨Nat.le_of_ble_eq_true rfl, Nat.le_of_ble_eq_true rfl⟩) (rcM hI) rfl hl.1 (Nat.le_of_ble_eq_true rfl) dX4_owedBy_22 ⟨Nat.le_of_ble_eq_true rfl, Nat.le_of_ble_eq_true rfl⟩) (fun r3 σ3 H locs hq3 hI => ?_)
  obtain ⟨hr3, ez3⟩ := hq3
  rw [hr3]
  exact xt_i S hI hr hlk (⟨mk, lf, nw, kp, (by rw [ez3, ey1]; try rfl), hpic⟩) (by decide) (by decide) dX4_owedBy_25
set_option maxRecDepth 100000 in
set_option maxHeartbeats 4000000 in
theorem m_honourOf (l : Launch) (G : Gt) (σ : St) {α : St} {n : Nat} {th : Int32} {mk lf nw kp : Nat → Int32} (hm : gM σ = (th, nI n, mk, lf, nw, kp)) (hpic : Pic α n mk lf nw) {a : Nat} (ha : a < 6) : Ct l G yX4_honourOf cX4_honourOf 2 (some .int) 4 0 0 [.ref (gB G 3), .int (nI a)] σ (Qi G (fun r σ' => r = honF α a ∧ Mq σ α 0 n σ')) := by
  refine mt_intro (by decide +kernel) (Nat.le_of_ble_eq_true rfl) ?_
  intro p e s m below meth c S hr hlk hnm hI ls hl
  have hl : lv_has ls 2 [(0, .ref (gB G 3)), (1, .int (nI a))] := hl
  have hn20 := hpic.1
  refine lv_aload_n S.1 S.2.1 dX4_honourOf_0 rfl (lv_at hl 0 rfl) ?_
  refine lv_iconst (v := 0) S.1 S.2.1 dX4_honourOf_1 (by decide) ?_
  refine p_X4_M_thrown S hI hm dX4_honourOf_2 (fun σ1 H locs ey1 hz1 hI => ?_)
  refine lv_iload_n S.1 S.2.1 dX4_honourOf_5 rfl (lv_at hl 1 rfl) ?_
  refine cl_i hI (rnS (As := [.int (nI a)]) (rest := []) S hI (c_isMaker l G _ (nI a)) (cw_X4_X4_isMaker S.2.2.2.2 ⟨Nat.le_of_ble_eq_true rfl, Nat.le_of_ble_eq_true rfl⟩) rfl hl.1 (Nat.le_of_ble_eq_true rfl) dX4_honourOf_6 ⟨Nat.le_of_ble_eq_true rfl, Nat.le_of_ble_eq_true rfl⟩) (fun r2 σ2 H locs hq2 hI => ?_)
  obtain ⟨hr2, hs2⟩ := hq2
  rw [hs2] at hI
  rw [hr2, inI_m ha]
  refine lv_if_eq (tgt := 20) S.1 S.2.1 dX4_honourOf_9 (by decide) (fun c9 => absurd c9 (by decide)) (fun _ => ?_)
  refine lv_aload_n S.1 S.2.1 dX4_honourOf_12 rfl (lv_at hl 0 rfl) ?_
  refine lv_iload_n S.1 S.2.1 dX4_honourOf_13 rfl (lv_at hl 1 rfl) ?_
  refine cl_i hI (rnV (As := [.int (nI a)]) (rest := []) S hI (c_honour l G _ hz1 hpic (a := a)) (cw_X4_X4_honour S.2.2.2.2 ⟨Nat.le_of_ble_eq_true rfl, Nat.le_of_ble_eq_true rfl⟩) (rcM hI) rfl hl.1 (Nat.le_of_ble_eq_true rfl) dX4_honourOf_14 ⟨Nat.le_of_ble_eq_true rfl, Nat.le_of_ble_eq_true rfl⟩) (fun r3 σ3 H locs hq3 hI => ?_)
  obtain ⟨hr3, hs3⟩ := hq3
  rw [hs3] at hI
  rw [hr3]
  refine lv_goto (tgt := 25) S.1 S.2.1 dX4_honourOf_17 (by decide) ?_
  exact xt_i S hI hr hlk (⟨rfl, mk, lf, nw, kp, (by rw [ey1]; try rfl), hpic⟩) (by decide) (by decide) dX4_honourOf_25
set_option maxRecDepth 100000 in
set_option maxHeartbeats 4000000 in
theorem m_honourOf_b (l : Launch) (G : Gt) (σ : St) {α : St} {n : Nat} {th : Int32} {mk lf nw kp : Nat → Int32} (hm : gM σ = (th, nI n, mk, lf, nw, kp)) (hpic : Pic α n mk lf nw) (v : Int32) (hb : v < 0 ∨ nI 6 ≤ v) : Ct l G yX4_honourOf cX4_honourOf 2 (some .int) 4 0 0 [.ref (gB G 3), .int v] σ (Qi G (fun r σ' => Mq σ α 1 n σ')) := by
  refine mt_intro (by decide +kernel) (Nat.le_of_ble_eq_true rfl) ?_
  intro p e s m below meth c S hr hlk hnm hI ls hl
  have hl : lv_has ls 2 [(0, .ref (gB G 3)), (1, .int v)] := hl
  have hn20 := hpic.1
  refine lv_aload_n S.1 S.2.1 dX4_honourOf_0 rfl (lv_at hl 0 rfl) ?_
  refine lv_iconst (v := 0) S.1 S.2.1 dX4_honourOf_1 (by decide) ?_
  refine p_X4_M_thrown S hI hm dX4_honourOf_2 (fun σ1 H locs ey1 hz1 hI => ?_)
  refine lv_iload_n S.1 S.2.1 dX4_honourOf_5 rfl (lv_at hl 1 rfl) ?_
  refine cl_i hI (rnS (As := [.int v]) (rest := []) S hI (c_isMaker l G _ v) (cw_X4_X4_isMaker S.2.2.2.2 ⟨Nat.le_of_ble_eq_true rfl, Nat.le_of_ble_eq_true rfl⟩) rfl hl.1 (Nat.le_of_ble_eq_true rfl) dX4_honourOf_6 ⟨Nat.le_of_ble_eq_true rfl, Nat.le_of_ble_eq_true rfl⟩) (fun r2 σ2 H locs hq2 hI => ?_)
  obtain ⟨hr2, hs2⟩ := hq2
  rw [hs2] at hI
  rw [hr2, inI_bm hb]
  refine lv_if_eq (tgt := 20) S.1 S.2.1 dX4_honourOf_9 (by decide) (fun _ => ?_) (fun c9 => absurd c9 (by decide))
  refine lv_aload_n S.1 S.2.1 dX4_honourOf_20 rfl (lv_at hl 0 rfl) ?_
  refine lv_iconst (v := 1) S.1 S.2.1 dX4_honourOf_21 (by decide) ?_
  refine cl_i hI (rnV (As := [.int 1]) (rest := []) S hI (c_no l G _ hz1 1) (cw_X4_X4_no S.2.2.2.2 ⟨Nat.le_of_ble_eq_true rfl, Nat.le_of_ble_eq_true rfl⟩) (rcM hI) rfl hl.1 (Nat.le_of_ble_eq_true rfl) dX4_honourOf_22 ⟨Nat.le_of_ble_eq_true rfl, Nat.le_of_ble_eq_true rfl⟩) (fun r3 σ3 H locs hq3 hI => ?_)
  obtain ⟨hr3, ez3⟩ := hq3
  rw [hr3]
  exact xt_i S hI hr hlk (⟨mk, lf, nw, kp, (by rw [ez3, ey1]; try rfl), hpic⟩) (by decide) (by decide) dX4_honourOf_25
set_option maxRecDepth 100000 in
set_option maxHeartbeats 4000000 in
theorem m_hoursUntilFrozen (l : Launch) (G : Gt) (σ : St) {α : St} {n : Nat} {th : Int32} {mk lf nw kp : Nat → Int32} (hm : gM σ = (th, nI n, mk, lf, nw, kp)) (hpic : Pic α n mk lf nw) {i : Nat} (hi : i < n) : Ct l G yX4_hoursUntilFrozen cX4_hoursUntilFrozen 2 (some .int) 6 0 0 [.ref (gB G 3), .int (nI i)] σ (Qi G (fun r σ' => r = hUntil (gX α).2.2.2 (gS α (gP α i).2.1) (gP α i) 2 ∧ Mq σ α 0 n σ')) := by
  refine mt_intro (by decide +kernel) (Nat.le_of_ble_eq_true rfl) ?_
  intro p e s m below meth c S hr hlk hnm hI ls hl
  have hl : lv_has ls 2 [(0, .ref (gB G 3)), (1, .int (nI i))] := hl
  have hn20 := hpic.1
  refine lv_aload_n S.1 S.2.1 dX4_hoursUntilFrozen_0 rfl (lv_at hl 0 rfl) ?_
  refine lv_iconst (v := 0) S.1 S.2.1 dX4_hoursUntilFrozen_1 (by decide) ?_
  refine p_X4_M_thrown S hI hm dX4_hoursUntilFrozen_2 (fun σ1 H locs ey1 hz1 hI => ?_)
  refine lv_aload_n S.1 S.2.1 dX4_hoursUntilFrozen_5 rfl (lv_at hl 0 rfl) ?_
  refine lv_iload_n S.1 S.2.1 dX4_hoursUntilFrozen_6 rfl (lv_at hl 1 rfl) ?_
  refine cl_i hI (rnV (As := [.int (nI i)]) (rest := []) S hI (c_isPromise l G _ hz1 (nI i)) (cw_X4_X4_isPromise S.2.2.2.2 ⟨Nat.le_of_ble_eq_true rfl, Nat.le_of_ble_eq_true rfl⟩) (rcM hI) rfl hl.1 (Nat.le_of_ble_eq_true rfl) dX4_hoursUntilFrozen_7 ⟨Nat.le_of_ble_eq_true rfl, Nat.le_of_ble_eq_true rfl⟩) (fun r2 σ2 H locs hq2 hI => ?_)
  obtain ⟨hr2, hs2⟩ := hq2
  rw [hs2] at hI
  rw [hr2, inI_p hi hn20]
  refine lv_if_eq (tgt := 22) S.1 S.2.1 dX4_hoursUntilFrozen_10 (by decide) (fun c9 => absurd c9 (by decide)) (fun _ => ?_)
  refine lv_aload_n S.1 S.2.1 dX4_hoursUntilFrozen_13 rfl (lv_at hl 0 rfl) ?_
  refine lv_iload_n S.1 S.2.1 dX4_hoursUntilFrozen_14 rfl (lv_at hl 1 rfl) ?_
  refine lv_iconst (v := 1) S.1 S.2.1 dX4_hoursUntilFrozen_15 (by decide) ?_
  refine cl_i hI (rnV (As := [.int (nI i), .int 1]) (rest := []) S hI (c_until l G _ hz1 hpic (q := i) hi (g := 2) (by omega)) (cw_X4_X4_until S.2.2.2.2 ⟨Nat.le_of_ble_eq_true rfl, Nat.le_of_ble_eq_true rfl⟩) (rcM hI) rfl hl.1 (Nat.le_of_ble_eq_true rfl) dX4_hoursUntilFrozen_16 ⟨Nat.le_of_ble_eq_true rfl, Nat.le_of_ble_eq_true rfl⟩) (fun r3 σ3 H locs hq3 hI => ?_)
  obtain ⟨hr3, mky, lfy, nwy, kpy, ez3, hpy⟩ := hq3
  rw [hr3]
  refine lv_goto (tgt := 27) S.1 S.2.1 dX4_hoursUntilFrozen_19 (by decide) ?_
  exact xt_i S hI hr hlk (⟨rfl, _, _, _, _, (by rw [ez3, ey1]; rfl), hpy⟩) (by decide) (by decide) dX4_hoursUntilFrozen_27
set_option maxRecDepth 100000 in
set_option maxHeartbeats 4000000 in
theorem m_hoursUntilFrozen_b (l : Launch) (G : Gt) (σ : St) {α : St} {n : Nat} {th : Int32} {mk lf nw kp : Nat → Int32} (hm : gM σ = (th, nI n, mk, lf, nw, kp)) (hpic : Pic α n mk lf nw) (v : Int32) (hb : v < 0 ∨ nI n ≤ v) : Ct l G yX4_hoursUntilFrozen cX4_hoursUntilFrozen 2 (some .int) 6 0 0 [.ref (gB G 3), .int v] σ (Qi G (fun r σ' => Mq σ α 1 n σ')) := by
  refine mt_intro (by decide +kernel) (Nat.le_of_ble_eq_true rfl) ?_
  intro p e s m below meth c S hr hlk hnm hI ls hl
  have hl : lv_has ls 2 [(0, .ref (gB G 3)), (1, .int v)] := hl
  have hn20 := hpic.1
  refine lv_aload_n S.1 S.2.1 dX4_hoursUntilFrozen_0 rfl (lv_at hl 0 rfl) ?_
  refine lv_iconst (v := 0) S.1 S.2.1 dX4_hoursUntilFrozen_1 (by decide) ?_
  refine p_X4_M_thrown S hI hm dX4_hoursUntilFrozen_2 (fun σ1 H locs ey1 hz1 hI => ?_)
  refine lv_aload_n S.1 S.2.1 dX4_hoursUntilFrozen_5 rfl (lv_at hl 0 rfl) ?_
  refine lv_iload_n S.1 S.2.1 dX4_hoursUntilFrozen_6 rfl (lv_at hl 1 rfl) ?_
  refine cl_i hI (rnV (As := [.int v]) (rest := []) S hI (c_isPromise l G _ hz1 v) (cw_X4_X4_isPromise S.2.2.2.2 ⟨Nat.le_of_ble_eq_true rfl, Nat.le_of_ble_eq_true rfl⟩) (rcM hI) rfl hl.1 (Nat.le_of_ble_eq_true rfl) dX4_hoursUntilFrozen_7 ⟨Nat.le_of_ble_eq_true rfl, Nat.le_of_ble_eq_true rfl⟩) (fun r2 σ2 H locs hq2 hI => ?_)
  obtain ⟨hr2, hs2⟩ := hq2
  rw [hs2] at hI
  rw [hr2, inI_np hn20 hb]
  refine lv_if_eq (tgt := 22) S.1 S.2.1 dX4_hoursUntilFrozen_10 (by decide) (fun _ => ?_) (fun c9 => absurd c9 (by decide))
  refine lv_aload_n S.1 S.2.1 dX4_hoursUntilFrozen_22 rfl (lv_at hl 0 rfl) ?_
  refine lv_iconst (v := 1) S.1 S.2.1 dX4_hoursUntilFrozen_23 (by decide) ?_
  refine cl_i hI (rnV (As := [.int 1]) (rest := []) S hI (c_no l G _ hz1 1) (cw_X4_X4_no S.2.2.2.2 ⟨Nat.le_of_ble_eq_true rfl, Nat.le_of_ble_eq_true rfl⟩) (rcM hI) rfl hl.1 (Nat.le_of_ble_eq_true rfl) dX4_hoursUntilFrozen_24 ⟨Nat.le_of_ble_eq_true rfl, Nat.le_of_ble_eq_true rfl⟩) (fun r3 σ3 H locs hq3 hI => ?_)
  obtain ⟨hr3, ez3⟩ := hq3
  rw [hr3]
  exact xt_i S hI hr hlk (⟨mk, lf, nw, kp, (by rw [ez3, ey1]; try rfl), hpic⟩) (by decide) (by decide) dX4_hoursUntilFrozen_27
set_option maxRecDepth 100000 in
set_option maxHeartbeats 4000000 in
theorem m_hoursUntilThawed (l : Launch) (G : Gt) (σ : St) {α : St} {n : Nat} {th : Int32} {mk lf nw kp : Nat → Int32} (hm : gM σ = (th, nI n, mk, lf, nw, kp)) (hpic : Pic α n mk lf nw) {i : Nat} (hi : i < n) : Ct l G yX4_hoursUntilThawed cX4_hoursUntilThawed 2 (some .int) 6 0 0 [.ref (gB G 3), .int (nI i)] σ (Qi G (fun r σ' => r = hUntil (gX α).2.2.2 (gS α (gP α i).2.1) (gP α i) 3 ∧ Mq σ α 0 n σ')) := by
  refine mt_intro (by decide +kernel) (Nat.le_of_ble_eq_true rfl) ?_
  intro p e s m below meth c S hr hlk hnm hI ls hl
  have hl : lv_has ls 2 [(0, .ref (gB G 3)), (1, .int (nI i))] := hl
  have hn20 := hpic.1
  refine lv_aload_n S.1 S.2.1 dX4_hoursUntilThawed_0 rfl (lv_at hl 0 rfl) ?_
  refine lv_iconst (v := 0) S.1 S.2.1 dX4_hoursUntilThawed_1 (by decide) ?_
  refine p_X4_M_thrown S hI hm dX4_hoursUntilThawed_2 (fun σ1 H locs ey1 hz1 hI => ?_)
  refine lv_aload_n S.1 S.2.1 dX4_hoursUntilThawed_5 rfl (lv_at hl 0 rfl) ?_
  refine lv_iload_n S.1 S.2.1 dX4_hoursUntilThawed_6 rfl (lv_at hl 1 rfl) ?_
  refine cl_i hI (rnV (As := [.int (nI i)]) (rest := []) S hI (c_isPromise l G _ hz1 (nI i)) (cw_X4_X4_isPromise S.2.2.2.2 ⟨Nat.le_of_ble_eq_true rfl, Nat.le_of_ble_eq_true rfl⟩) (rcM hI) rfl hl.1 (Nat.le_of_ble_eq_true rfl) dX4_hoursUntilThawed_7 ⟨Nat.le_of_ble_eq_true rfl, Nat.le_of_ble_eq_true rfl⟩) (fun r2 σ2 H locs hq2 hI => ?_)
  obtain ⟨hr2, hs2⟩ := hq2
  rw [hs2] at hI
  rw [hr2, inI_p hi hn20]
  refine lv_if_eq (tgt := 22) S.1 S.2.1 dX4_hoursUntilThawed_10 (by decide) (fun c9 => absurd c9 (by decide)) (fun _ => ?_)
  refine lv_aload_n S.1 S.2.1 dX4_hoursUntilThawed_13 rfl (lv_at hl 0 rfl) ?_
  refine lv_iload_n S.1 S.2.1 dX4_hoursUntilThawed_14 rfl (lv_at hl 1 rfl) ?_
  refine lv_iconst (v := 2) S.1 S.2.1 dX4_hoursUntilThawed_15 (by decide) ?_
  refine cl_i hI (rnV (As := [.int (nI i), .int 2]) (rest := []) S hI (c_until l G _ hz1 hpic (q := i) hi (g := 3) (by omega)) (cw_X4_X4_until S.2.2.2.2 ⟨Nat.le_of_ble_eq_true rfl, Nat.le_of_ble_eq_true rfl⟩) (rcM hI) rfl hl.1 (Nat.le_of_ble_eq_true rfl) dX4_hoursUntilThawed_16 ⟨Nat.le_of_ble_eq_true rfl, Nat.le_of_ble_eq_true rfl⟩) (fun r3 σ3 H locs hq3 hI => ?_)
  obtain ⟨hr3, mky, lfy, nwy, kpy, ez3, hpy⟩ := hq3
  rw [hr3]
  refine lv_goto (tgt := 27) S.1 S.2.1 dX4_hoursUntilThawed_19 (by decide) ?_
  exact xt_i S hI hr hlk (⟨rfl, _, _, _, _, (by rw [ez3, ey1]; rfl), hpy⟩) (by decide) (by decide) dX4_hoursUntilThawed_27
set_option maxRecDepth 100000 in
set_option maxHeartbeats 4000000 in
theorem m_hoursUntilThawed_b (l : Launch) (G : Gt) (σ : St) {α : St} {n : Nat} {th : Int32} {mk lf nw kp : Nat → Int32} (hm : gM σ = (th, nI n, mk, lf, nw, kp)) (hpic : Pic α n mk lf nw) (v : Int32) (hb : v < 0 ∨ nI n ≤ v) : Ct l G yX4_hoursUntilThawed cX4_hoursUntilThawed 2 (some .int) 6 0 0 [.ref (gB G 3), .int v] σ (Qi G (fun r σ' => Mq σ α 1 n σ')) := by
  refine mt_intro (by decide +kernel) (Nat.le_of_ble_eq_true rfl) ?_
  intro p e s m below meth c S hr hlk hnm hI ls hl
  have hl : lv_has ls 2 [(0, .ref (gB G 3)), (1, .int v)] := hl
  have hn20 := hpic.1
  refine lv_aload_n S.1 S.2.1 dX4_hoursUntilThawed_0 rfl (lv_at hl 0 rfl) ?_
  refine lv_iconst (v := 0) S.1 S.2.1 dX4_hoursUntilThawed_1 (by decide) ?_
  refine p_X4_M_thrown S hI hm dX4_hoursUntilThawed_2 (fun σ1 H locs ey1 hz1 hI => ?_)
  refine lv_aload_n S.1 S.2.1 dX4_hoursUntilThawed_5 rfl (lv_at hl 0 rfl) ?_
  refine lv_iload_n S.1 S.2.1 dX4_hoursUntilThawed_6 rfl (lv_at hl 1 rfl) ?_
  refine cl_i hI (rnV (As := [.int v]) (rest := []) S hI (c_isPromise l G _ hz1 v) (cw_X4_X4_isPromise S.2.2.2.2 ⟨Nat.le_of_ble_eq_true rfl, Nat.le_of_ble_eq_true rfl⟩) (rcM hI) rfl hl.1 (Nat.le_of_ble_eq_true rfl) dX4_hoursUntilThawed_7 ⟨Nat.le_of_ble_eq_true rfl, Nat.le_of_ble_eq_true rfl⟩) (fun r2 σ2 H locs hq2 hI => ?_)
  obtain ⟨hr2, hs2⟩ := hq2
  rw [hs2] at hI
  rw [hr2, inI_np hn20 hb]
  refine lv_if_eq (tgt := 22) S.1 S.2.1 dX4_hoursUntilThawed_10 (by decide) (fun _ => ?_) (fun c9 => absurd c9 (by decide))
  refine lv_aload_n S.1 S.2.1 dX4_hoursUntilThawed_22 rfl (lv_at hl 0 rfl) ?_
  refine lv_iconst (v := 1) S.1 S.2.1 dX4_hoursUntilThawed_23 (by decide) ?_
  refine cl_i hI (rnV (As := [.int 1]) (rest := []) S hI (c_no l G _ hz1 1) (cw_X4_X4_no S.2.2.2.2 ⟨Nat.le_of_ble_eq_true rfl, Nat.le_of_ble_eq_true rfl⟩) (rcM hI) rfl hl.1 (Nat.le_of_ble_eq_true rfl) dX4_hoursUntilThawed_24 ⟨Nat.le_of_ble_eq_true rfl, Nat.le_of_ble_eq_true rfl⟩) (fun r3 σ3 H locs hq3 hI => ?_)
  obtain ⟨hr3, ez3⟩ := hq3
  rw [hr3]
  exact xt_i S hI hr hlk (⟨mk, lf, nw, kp, (by rw [ez3, ey1]; try rfl), hpic⟩) (by decide) (by decide) dX4_hoursUntilThawed_27
set_option maxRecDepth 100000 in
set_option maxHeartbeats 4000000 in
theorem m_hoursUntilExpired (l : Launch) (G : Gt) (σ : St) {α : St} {n : Nat} {th : Int32} {mk lf nw kp : Nat → Int32} (hm : gM σ = (th, nI n, mk, lf, nw, kp)) (hpic : Pic α n mk lf nw) {i : Nat} (hi : i < n) : Ct l G yX4_hoursUntilExpired cX4_hoursUntilExpired 2 (some .int) 6 0 0 [.ref (gB G 3), .int (nI i)] σ (Qi G (fun r σ' => r = hUntil (gX α).2.2.2 (gS α (gP α i).2.1) (gP α i) 5 ∧ Mq σ α 0 n σ')) := by
  refine mt_intro (by decide +kernel) (Nat.le_of_ble_eq_true rfl) ?_
  intro p e s m below meth c S hr hlk hnm hI ls hl
  have hl : lv_has ls 2 [(0, .ref (gB G 3)), (1, .int (nI i))] := hl
  have hn20 := hpic.1
  refine lv_aload_n S.1 S.2.1 dX4_hoursUntilExpired_0 rfl (lv_at hl 0 rfl) ?_
  refine lv_iconst (v := 0) S.1 S.2.1 dX4_hoursUntilExpired_1 (by decide) ?_
  refine p_X4_M_thrown S hI hm dX4_hoursUntilExpired_2 (fun σ1 H locs ey1 hz1 hI => ?_)
  refine lv_aload_n S.1 S.2.1 dX4_hoursUntilExpired_5 rfl (lv_at hl 0 rfl) ?_
  refine lv_iload_n S.1 S.2.1 dX4_hoursUntilExpired_6 rfl (lv_at hl 1 rfl) ?_
  refine cl_i hI (rnV (As := [.int (nI i)]) (rest := []) S hI (c_isPromise l G _ hz1 (nI i)) (cw_X4_X4_isPromise S.2.2.2.2 ⟨Nat.le_of_ble_eq_true rfl, Nat.le_of_ble_eq_true rfl⟩) (rcM hI) rfl hl.1 (Nat.le_of_ble_eq_true rfl) dX4_hoursUntilExpired_7 ⟨Nat.le_of_ble_eq_true rfl, Nat.le_of_ble_eq_true rfl⟩) (fun r2 σ2 H locs hq2 hI => ?_)
  obtain ⟨hr2, hs2⟩ := hq2
  rw [hs2] at hI
  rw [hr2, inI_p hi hn20]
  refine lv_if_eq (tgt := 23) S.1 S.2.1 dX4_hoursUntilExpired_10 (by decide) (fun c9 => absurd c9 (by decide)) (fun _ => ?_)
  refine lv_aload_n S.1 S.2.1 dX4_hoursUntilExpired_13 rfl (lv_at hl 0 rfl) ?_
  refine lv_iload_n S.1 S.2.1 dX4_hoursUntilExpired_14 rfl (lv_at hl 1 rfl) ?_
  refine lv_bipush (v := 11) S.1 S.2.1 dX4_hoursUntilExpired_15 (by decide) ?_
  refine cl_i hI (rnV (As := [.int (nI i), .int 11]) (rest := []) S hI (c_until5 l G _ hz1 hpic (q := i) hi) (cw_X4_X4_until S.2.2.2.2 ⟨Nat.le_of_ble_eq_true rfl, Nat.le_of_ble_eq_true rfl⟩) (rcM hI) rfl hl.1 (Nat.le_of_ble_eq_true rfl) dX4_hoursUntilExpired_17 ⟨Nat.le_of_ble_eq_true rfl, Nat.le_of_ble_eq_true rfl⟩) (fun r3 σ3 H locs hq3 hI => ?_)
  obtain ⟨hr3, mky, lfy, nwy, kpy, ez3, hpy⟩ := hq3
  rw [hr3]
  refine lv_goto (tgt := 28) S.1 S.2.1 dX4_hoursUntilExpired_20 (by decide) ?_
  exact xt_i S hI hr hlk (⟨rfl, _, _, _, _, (by rw [ez3, ey1]; rfl), hpy⟩) (by decide) (by decide) dX4_hoursUntilExpired_28
set_option maxRecDepth 100000 in
set_option maxHeartbeats 4000000 in
theorem m_hoursUntilExpired_b (l : Launch) (G : Gt) (σ : St) {α : St} {n : Nat} {th : Int32} {mk lf nw kp : Nat → Int32} (hm : gM σ = (th, nI n, mk, lf, nw, kp)) (hpic : Pic α n mk lf nw) (v : Int32) (hb : v < 0 ∨ nI n ≤ v) : Ct l G yX4_hoursUntilExpired cX4_hoursUntilExpired 2 (some .int) 6 0 0 [.ref (gB G 3), .int v] σ (Qi G (fun r σ' => Mq σ α 1 n σ')) := by
  refine mt_intro (by decide +kernel) (Nat.le_of_ble_eq_true rfl) ?_
  intro p e s m below meth c S hr hlk hnm hI ls hl
  have hl : lv_has ls 2 [(0, .ref (gB G 3)), (1, .int v)] := hl
  have hn20 := hpic.1
  refine lv_aload_n S.1 S.2.1 dX4_hoursUntilExpired_0 rfl (lv_at hl 0 rfl) ?_
  refine lv_iconst (v := 0) S.1 S.2.1 dX4_hoursUntilExpired_1 (by decide) ?_
  refine p_X4_M_thrown S hI hm dX4_hoursUntilExpired_2 (fun σ1 H locs ey1 hz1 hI => ?_)
  refine lv_aload_n S.1 S.2.1 dX4_hoursUntilExpired_5 rfl (lv_at hl 0 rfl) ?_
  refine lv_iload_n S.1 S.2.1 dX4_hoursUntilExpired_6 rfl (lv_at hl 1 rfl) ?_
  refine cl_i hI (rnV (As := [.int v]) (rest := []) S hI (c_isPromise l G _ hz1 v) (cw_X4_X4_isPromise S.2.2.2.2 ⟨Nat.le_of_ble_eq_true rfl, Nat.le_of_ble_eq_true rfl⟩) (rcM hI) rfl hl.1 (Nat.le_of_ble_eq_true rfl) dX4_hoursUntilExpired_7 ⟨Nat.le_of_ble_eq_true rfl, Nat.le_of_ble_eq_true rfl⟩) (fun r2 σ2 H locs hq2 hI => ?_)
  obtain ⟨hr2, hs2⟩ := hq2
  rw [hs2] at hI
  rw [hr2, inI_np hn20 hb]
  refine lv_if_eq (tgt := 23) S.1 S.2.1 dX4_hoursUntilExpired_10 (by decide) (fun _ => ?_) (fun c9 => absurd c9 (by decide))
  refine lv_aload_n S.1 S.2.1 dX4_hoursUntilExpired_23 rfl (lv_at hl 0 rfl) ?_
  refine lv_iconst (v := 1) S.1 S.2.1 dX4_hoursUntilExpired_24 (by decide) ?_
  refine cl_i hI (rnV (As := [.int 1]) (rest := []) S hI (c_no l G _ hz1 1) (cw_X4_X4_no S.2.2.2.2 ⟨Nat.le_of_ble_eq_true rfl, Nat.le_of_ble_eq_true rfl⟩) (rcM hI) rfl hl.1 (Nat.le_of_ble_eq_true rfl) dX4_hoursUntilExpired_25 ⟨Nat.le_of_ble_eq_true rfl, Nat.le_of_ble_eq_true rfl⟩) (fun r3 σ3 H locs hq3 hI => ?_)
  obtain ⟨hr3, ez3⟩ := hq3
  rw [hr3]
  exact xt_i S hI hr hlk (⟨mk, lf, nw, kp, (by rw [ez3, ey1]; try rfl), hpic⟩) (by decide) (by decide) dX4_hoursUntilExpired_28
set_option maxRecDepth 100000 in
set_option maxHeartbeats 4000000 in
theorem m_bestShelf (l : Launch) (G : Gt) (σ : St) {α : St} {n : Nat} {th : Int32} {mk lf nw kp : Nat → Int32} (hm : gM σ = (th, nI n, mk, lf, nw, kp)) (hpic : Pic α n mk lf nw)  : Ct l G yX4_bestShelf cX4_bestShelf 1 (some .int) 7 0 0 [.ref (gB G 3)] σ (Qi G (fun r σ' => r = (if n < 20 then (bestF α 5).1 else -1) ∧ Mq σ α 0 n σ')) := by
  refine mt_intro (by decide +kernel) (Nat.le_of_ble_eq_true rfl) ?_
  intro p e s m below meth c S hr hlk hnm hI ls hl
  have hl : lv_has ls 1 [(0, .ref (gB G 3))] := hl
  have hn20 := hpic.1
  refine lv_aload_n S.1 S.2.1 dX4_bestShelf_0 rfl (lv_at hl 0 rfl) ?_
  refine lv_aload_n S.1 S.2.1 dX4_bestShelf_1 rfl (lv_at hl 0 rfl) ?_
  refine cl_i hI (rnV (As := []) (rest := [.ref (gB G 3)]) S hI (c_best l G _ hm hpic) (cw_X4_X4_best S.2.2.2.2 ⟨Nat.le_of_ble_eq_true rfl, Nat.le_of_ble_eq_true rfl⟩) (rcM hI) rfl hl.1 (Nat.le_of_ble_eq_true rfl) dX4_bestShelf_2 ⟨Nat.le_of_ble_eq_true rfl, Nat.le_of_ble_eq_true rfl⟩) (fun r1 σ1 H locs hq1 hI => ?_)
  obtain ⟨hr1, mky, lfy, nwy, kpy, ez1, hpy⟩ := hq1
  rw [hr1]
  refine cl_i hI (rnV (As := [.int (if n < 20 then (bestF α 5).1 else -1)]) (rest := []) S hI (c_ok l G _ (show gM σ1 = (th, nI n, mky, lfy, nwy, kpy) from by rw [ez1]; rfl) (if n < 20 then (bestF α 5).1 else -1)) (cw_X4_X4_ok S.2.2.2.2 ⟨Nat.le_of_ble_eq_true rfl, Nat.le_of_ble_eq_true rfl⟩) (rcM hI) rfl hl.1 (Nat.le_of_ble_eq_true rfl) dX4_bestShelf_5 ⟨Nat.le_of_ble_eq_true rfl, Nat.le_of_ble_eq_true rfl⟩) (fun r2 σ2 H locs hq2 hI => ?_)
  obtain ⟨hr2, ez2⟩ := hq2
  rw [hr2]
  exact xt_i S hI hr hlk (⟨rfl, _, _, _, _, (by rw [ez2, ez1]; rfl), hpy⟩) (by decide) (by decide) dX4_bestShelf_8
set_option maxRecDepth 100000 in
set_option maxHeartbeats 4000000 in
theorem m_hoursOfCold (l : Launch) (G : Gt) (σ : St) {α : St} {n : Nat} {th : Int32} {mk lf nw kp : Nat → Int32} (hm : gM σ = (th, nI n, mk, lf, nw, kp)) (hpic : Pic α n mk lf nw)  : Ct l G yX4_hoursOfCold cX4_hoursOfCold 1 (some .int) 7 0 0 [.ref (gB G 3)] σ (Qi G (fun r σ' => r = ocF α 20 ∧ Mq σ α 0 n σ')) := by
  refine mt_intro (by decide +kernel) (Nat.le_of_ble_eq_true rfl) ?_
  intro p e s m below meth c S hr hlk hnm hI ls hl
  have hl : lv_has ls 1 [(0, .ref (gB G 3))] := hl
  have hn20 := hpic.1
  refine lv_aload_n S.1 S.2.1 dX4_hoursOfCold_0 rfl (lv_at hl 0 rfl) ?_
  refine lv_aload_n S.1 S.2.1 dX4_hoursOfCold_1 rfl (lv_at hl 0 rfl) ?_
  refine cl_i hI (rnV (As := []) (rest := [.ref (gB G 3)]) S hI (c_cold l G _ hm hpic) (cw_X4_X4_cold S.2.2.2.2 ⟨Nat.le_of_ble_eq_true rfl, Nat.le_of_ble_eq_true rfl⟩) (rcM hI) rfl hl.1 (Nat.le_of_ble_eq_true rfl) dX4_hoursOfCold_2 ⟨Nat.le_of_ble_eq_true rfl, Nat.le_of_ble_eq_true rfl⟩) (fun r1 σ1 H locs hq1 hI => ?_)
  obtain ⟨hr1, mky, lfy, nwy, kpy, ez1, hpy⟩ := hq1
  rw [hr1]
  refine cl_i hI (rnV (As := [.int (ocF α 20)]) (rest := []) S hI (c_ok l G _ (show gM σ1 = (th, nI n, mky, lfy, nwy, kpy) from by rw [ez1]; rfl) (ocF α 20)) (cw_X4_X4_ok S.2.2.2.2 ⟨Nat.le_of_ble_eq_true rfl, Nat.le_of_ble_eq_true rfl⟩) (rcM hI) rfl hl.1 (Nat.le_of_ble_eq_true rfl) dX4_hoursOfCold_5 ⟨Nat.le_of_ble_eq_true rfl, Nat.le_of_ble_eq_true rfl⟩) (fun r2 σ2 H locs hq2 hI => ?_)
  obtain ⟨hr2, ez2⟩ := hq2
  rw [hr2]
  exact xt_i S hI hr hlk (⟨rfl, _, _, _, _, (by rw [ez2, ez1]; rfl), hpy⟩) (by decide) (by decide) dX4_hoursOfCold_8
theorem swp_fin {α : St} {n : Nat} {mk lf nw : Nat → Int32} (h : Pic α n mk lf nw) {r9 : Int32} (h9 : (r9 = 1 ∧ 1 - nw 1 = 1) ∨ (r9 = 0 ∧ ¬ 1 - nw 1 = 1)) : r9 = if (gX α).2.2.2 = 0 then 1 else 0 := by
  rw [h.2.1.2.1, swp_eq h.2.2.1] at h9
  by_cases e : (gX α).2.2.2 = 0
  · rw [if_pos e] at h9 ⊢
    rcases h9 with ⟨a, -⟩ | ⟨-, b⟩
    · exact a
    · exact absurd rfl b
  · rw [if_neg e] at h9 ⊢
    rcases h9 with ⟨-, b⟩ | ⟨a, -⟩
    · exact absurd b (by decide)
    · exact a
set_option maxRecDepth 100000 in
set_option maxHeartbeats 4000000 in
theorem m_switchPower (l : Launch) (G : Gt) (σ : St) {α : St} {n : Nat} {th : Int32} {mk lf nw kp : Nat → Int32} (hm : gM σ = (th, nI n, mk, lf, nw, kp)) (hpic : Pic α n mk lf nw)  : Ct l G yX4_switchPower cX4_switchPower 1 (some .boolean) 2 0 0 [.ref (gB G 3)] σ (Qi G (fun r σ' => r = (if (gX α).2.2.2 = 0 then 1 else 0) ∧ Mq σ (setX α ((gX α).1, (gX α).2.1, (gX α).2.2.1, (if (gX α).2.2.2 = 0 then 1 else 0))) 0 n σ')) := by
  refine mt_intro (by decide +kernel) (Nat.le_of_ble_eq_true rfl) ?_
  intro p e s m below meth c S hr hlk hnm hI ls hl
  have hl : lv_has ls 1 [(0, .ref (gB G 3))] := hl
  have hn20 := hpic.1
  refine lv_aload_n S.1 S.2.1 dX4_switchPower_0 rfl (lv_at hl 0 rfl) ?_
  refine lv_iconst (v := 0) S.1 S.2.1 dX4_switchPower_1 (by decide) ?_
  refine p_X4_M_thrown S hI hm dX4_switchPower_2 (fun σ1 H locs ey1 hz1 hI => ?_)
  refine lv_aload_n S.1 S.2.1 dX4_switchPower_5 rfl (lv_at hl 0 rfl) ?_
  refine g_X4_M_now S hI dX4_switchPower_6 ?_
  refine lv_iconst (v := (nI 1)) S.1 S.2.1 dX4_switchPower_9 (by rfl) ?_
  refine lv_iconst (v := 1) S.1 S.2.1 dX4_switchPower_10 (by decide) ?_
  refine lv_aload_n S.1 S.2.1 dX4_switchPower_11 rfl (lv_at hl 0 rfl) ?_
  refine g_X4_M_now S hI dX4_switchPower_12 ?_
  refine lv_iconst (v := (nI 1)) S.1 S.2.1 dX4_switchPower_15 (by rfl) ?_
  refine a_nw S hI hz1 (j := 1) (by omega) dX4_switchPower_16 ?_
  refine lv_isub S.1 S.2.1 dX4_switchPower_17 ?_
  refine s_nw S hI hz1 (j := 1) (by omega) dX4_switchPower_18 (fun σ2 H locs ey2 hz2 hI => ?_)
  refine lv_aload_n S.1 S.2.1 dX4_switchPower_19 rfl (lv_at hl 0 rfl) ?_
  refine g_X4_M_now S hI dX4_switchPower_20 ?_
  refine lv_iconst (v := (nI 1)) S.1 S.2.1 dX4_switchPower_23 (by rfl) ?_
  refine a_nw S hI hz2 (j := 1) (by omega) dX4_switchPower_24 ?_
  refine lv_iconst (v := 1) S.1 S.2.1 dX4_switchPower_25 (by decide) ?_
  refine lv_icmp_ne (tgt := 33) S.1 S.2.1 dX4_switchPower_26 (by decide) (fun cz_26 => ?_) (fun cz_26 => ?_)
  · refine lv_iconst (v := 0) S.1 S.2.1 dX4_switchPower_33 (by decide) ?_
    exact xt_z S hI hr hlk rfl (⟨swp_fin hpic (Or.inr ⟨rfl, by rw [va_up_self] at cz_26; exact cz_26⟩), mk, lf, _, kp, (finM (by rw [ey2, ey1]; try rfl) hz2), hpic.swp⟩) (by decide) (by decide) dX4_switchPower_34
  · refine lv_iconst (v := 1) S.1 S.2.1 dX4_switchPower_29 (by decide) ?_
    refine lv_goto (tgt := 34) S.1 S.2.1 dX4_switchPower_30 (by decide) ?_
    exact xt_z S hI hr hlk rfl (⟨swp_fin hpic (Or.inl ⟨rfl, by rw [va_up_self] at cz_26; exact cz_26⟩), mk, lf, _, kp, (finM (by rw [ey2, ey1]; try rfl) hz2), hpic.swp⟩) (by decide) (by decide) dX4_switchPower_34
set_option maxRecDepth 100000 in
set_option maxHeartbeats 4000000 in
theorem m_set (l : Launch) (G : Gt) (σ : St) {α : St} {n : Nat} {th : Int32} {mk lf nw kp : Nat → Int32} (hm : gM σ = (th, nI n, mk, lf, nw, kp)) (hpic : Pic α n mk lf nw) {k : Nat} (hk : k < 5) {v : Int32} (hv1 : -30 ≤ v) (hv2 : v ≤ -5) : Ct l G yX4_set cX4_set 4 (some .int) 3 0 0 [.ref (gB G 3), .int (nI k), .int v] σ (Qi G (fun r σ' => r = (gS α k).1 ∧ Mq σ (setS α k (v, (gS α k).2)) 0 n σ')) := by
  refine mt_intro (by decide +kernel) (Nat.le_of_ble_eq_true rfl) ?_
  intro p e s m below meth c S hr hlk hnm hI ls hl
  have hl : lv_has ls 4 [(0, .ref (gB G 3)), (1, .int (nI k)), (2, .int v)] := hl
  have hn20 := hpic.1
  refine lv_aload_n S.1 S.2.1 dX4_set_0 rfl (lv_at hl 0 rfl) ?_
  refine lv_iconst (v := 0) S.1 S.2.1 dX4_set_1 (by decide) ?_
  refine p_X4_M_thrown S hI hm dX4_set_2 (fun σ1 H locs ey1 hz1 hI => ?_)
  refine lv_iload_n S.1 S.2.1 dX4_set_5 rfl (lv_at hl 1 rfl) ?_
  refine cl_i hI (rnS (As := [.int (nI k)]) (rest := []) S hI (c_isShelf l G _ (nI k)) (cw_X4_X4_isShelf S.2.2.2.2 ⟨Nat.le_of_ble_eq_true rfl, Nat.le_of_ble_eq_true rfl⟩) rfl hl.1 (Nat.le_of_ble_eq_true rfl) dX4_set_6 ⟨Nat.le_of_ble_eq_true rfl, Nat.le_of_ble_eq_true rfl⟩) (fun r2 σ2 H locs hq2 hI => ?_)
  obtain ⟨hr2, hs2⟩ := hq2
  rw [hs2] at hI
  rw [hr2, inI_s hk]
  refine lv_if_ne (tgt := 18) S.1 S.2.1 dX4_set_9 (by decide) (fun _ => ?_) (fun c9 => absurd c9 (by decide))
  refine lv_iload_n S.1 S.2.1 dX4_set_18 rfl (lv_at hl 2 rfl) ?_
  refine lv_bipush (v := (-30)) S.1 S.2.1 dX4_set_19 (by decide) ?_
  refine lv_bipush (v := (-5)) S.1 S.2.1 dX4_set_21 (by decide) ?_
  refine cl_i hI (rnS (As := [.int v, .int (-30), .int (-5)]) (rest := []) S hI (c_isIn l G _ v (-30) (-5)) (cw_X4_X4_isIn S.2.2.2.2 ⟨Nat.le_of_ble_eq_true rfl, Nat.le_of_ble_eq_true rfl⟩) rfl hl.1 (Nat.le_of_ble_eq_true rfl) dX4_set_23 ⟨Nat.le_of_ble_eq_true rfl, Nat.le_of_ble_eq_true rfl⟩) (fun r3 σ3 H locs hq3 hI => ?_)
  obtain ⟨hr3, hs3⟩ := hq3
  rw [hs3] at hI
  rw [hr3, inI_yes (Int32.not_lt.mpr hv1) (Int32.not_lt.mpr hv2)]
  refine lv_if_ne (tgt := 35) S.1 S.2.1 dX4_set_26 (by decide) (fun _ => ?_) (fun c9 => absurd c9 (by decide))
  refine lv_aload_n S.1 S.2.1 dX4_set_35 rfl (lv_at hl 0 rfl) ?_
  refine g_X4_M_now S hI dX4_set_36 ?_
  refine lv_iload_n S.1 S.2.1 dX4_set_39 rfl (lv_at hl 1 rfl) ?_
  refine lv_iconst (v := 0) S.1 S.2.1 dX4_set_40 (by decide) ?_
  refine cl_i hI (rnS (As := [.int (nI k), .int 0]) (rest := [.ref (gB G 6)]) S hI (c_shelf l G _ k 0) (cw_X4_X4_shelf S.2.2.2.2 ⟨Nat.le_of_ble_eq_true rfl, Nat.le_of_ble_eq_true rfl⟩) rfl hl.1 (Nat.le_of_ble_eq_true rfl) dX4_set_41 ⟨Nat.le_of_ble_eq_true rfl, Nat.le_of_ble_eq_true rfl⟩) (fun r4 σ4 H locs hq4 hI => ?_)
  obtain ⟨hr4, hs4⟩ := hq4
  rw [hs4] at hI
  rw [hr4]
  refine a_nw S hI hz1 (j := (3 + 2 * k + 0)) (by omega) dX4_set_44 ?_
  refine lv_istore_n (lv' := [(3, .int (nw (3 + 2 * k + 0))), (0, .ref (gB G 3)), (1, .int (nI k)), (2, .int v)]) S.1 S.2.1 dX4_set_45 rfl hl (by decide) rfl (fun ls hl => ?_)
  refine lv_aload_n S.1 S.2.1 dX4_set_46 rfl (lv_at hl 1 rfl) ?_
  refine g_X4_M_now S hI dX4_set_47 ?_
  refine lv_iload_n S.1 S.2.1 dX4_set_50 rfl (lv_at hl 2 rfl) ?_
  refine lv_iconst (v := 0) S.1 S.2.1 dX4_set_51 (by decide) ?_
  refine cl_i hI (rnS (As := [.int (nI k), .int 0]) (rest := [.ref (gB G 6)]) S hI (c_shelf l G _ k 0) (cw_X4_X4_shelf S.2.2.2.2 ⟨Nat.le_of_ble_eq_true rfl, Nat.le_of_ble_eq_true rfl⟩) rfl hl.1 (Nat.le_of_ble_eq_true rfl) dX4_set_52 ⟨Nat.le_of_ble_eq_true rfl, Nat.le_of_ble_eq_true rfl⟩) (fun r5 σ5 H locs hq5 hI => ?_)
  obtain ⟨hr5, hs5⟩ := hq5
  rw [hs5] at hI
  rw [hr5]
  refine lv_iload_n S.1 S.2.1 dX4_set_55 rfl (lv_at hl 3 rfl) ?_
  refine s_nw S hI hz1 (j := (3 + 2 * k + 0)) (by omega) dX4_set_56 (fun σ6 H locs ey6 hz6 hI => ?_)
  refine lv_iload_n S.1 S.2.1 dX4_set_57 rfl (lv_at hl 0 rfl) ?_
  exact xt_i S hI hr hlk (⟨(hpic.2.2.2.1 k hk).1, mk, lf, _, kp, (finM (by rw [ey6, ey1]; try rfl) hz6), hpic.set0 hk ⟨hv1, hv2⟩⟩) (by decide) (by decide) dX4_set_58
set_option maxRecDepth 100000 in
set_option maxHeartbeats 4000000 in
theorem m_set_b1 (l : Launch) (G : Gt) (σ : St) {α : St} {n : Nat} {th : Int32} {mk lf nw kp : Nat → Int32} (hm : gM σ = (th, nI n, mk, lf, nw, kp)) (hpic : Pic α n mk lf nw) (v : Int32) (v2 : Int32) (hb : v < 0 ∨ nI 5 ≤ v) : Ct l G yX4_set cX4_set 4 (some .int) 3 0 0 [.ref (gB G 3), .int v, .int v2] σ (Qi G (fun r σ' => Mq σ α 1 n σ')) := by
  refine mt_intro (by decide +kernel) (Nat.le_of_ble_eq_true rfl) ?_
  intro p e s m below meth c S hr hlk hnm hI ls hl
  have hl : lv_has ls 4 [(0, .ref (gB G 3)), (1, .int v), (2, .int v2)] := hl
  have hn20 := hpic.1
  refine lv_aload_n S.1 S.2.1 dX4_set_0 rfl (lv_at hl 0 rfl) ?_
  refine lv_iconst (v := 0) S.1 S.2.1 dX4_set_1 (by decide) ?_
  refine p_X4_M_thrown S hI hm dX4_set_2 (fun σ1 H locs ey1 hz1 hI => ?_)
  refine lv_iload_n S.1 S.2.1 dX4_set_5 rfl (lv_at hl 1 rfl) ?_
  refine cl_i hI (rnS (As := [.int v]) (rest := []) S hI (c_isShelf l G _ v) (cw_X4_X4_isShelf S.2.2.2.2 ⟨Nat.le_of_ble_eq_true rfl, Nat.le_of_ble_eq_true rfl⟩) rfl hl.1 (Nat.le_of_ble_eq_true rfl) dX4_set_6 ⟨Nat.le_of_ble_eq_true rfl, Nat.le_of_ble_eq_true rfl⟩) (fun r2 σ2 H locs hq2 hI => ?_)
  obtain ⟨hr2, hs2⟩ := hq2
  rw [hs2] at hI
  rw [hr2, inI_bs hb]
  refine lv_if_ne (tgt := 18) S.1 S.2.1 dX4_set_9 (by decide) (fun c9 => absurd c9 (by decide)) (fun _ => ?_)
  refine lv_aload_n S.1 S.2.1 dX4_set_12 rfl (lv_at hl 0 rfl) ?_
  refine lv_iconst (v := 1) S.1 S.2.1 dX4_set_13 (by decide) ?_
  refine cl_i hI (rnV (As := [.int 1]) (rest := []) S hI (c_no l G _ hz1 1) (cw_X4_X4_no S.2.2.2.2 ⟨Nat.le_of_ble_eq_true rfl, Nat.le_of_ble_eq_true rfl⟩) (rcM hI) rfl hl.1 (Nat.le_of_ble_eq_true rfl) dX4_set_14 ⟨Nat.le_of_ble_eq_true rfl, Nat.le_of_ble_eq_true rfl⟩) (fun r3 σ3 H locs hq3 hI => ?_)
  obtain ⟨hr3, ez3⟩ := hq3
  rw [hr3]
  exact xt_i S hI hr hlk (⟨mk, lf, nw, kp, (by rw [ez3, ey1]; try rfl), hpic⟩) (by decide) (by decide) dX4_set_17
set_option maxRecDepth 100000 in
set_option maxHeartbeats 4000000 in
theorem m_set_b2 (l : Launch) (G : Gt) (σ : St) {α : St} {n : Nat} {th : Int32} {mk lf nw kp : Nat → Int32} (hm : gM σ = (th, nI n, mk, lf, nw, kp)) (hpic : Pic α n mk lf nw) {k : Nat} (hk : k < 5) (v : Int32) (hb : v < -30 ∨ -5 < v) : Ct l G yX4_set cX4_set 4 (some .int) 3 0 0 [.ref (gB G 3), .int (nI k), .int v] σ (Qi G (fun r σ' => Mq σ α 2 n σ')) := by
  refine mt_intro (by decide +kernel) (Nat.le_of_ble_eq_true rfl) ?_
  intro p e s m below meth c S hr hlk hnm hI ls hl
  have hl : lv_has ls 4 [(0, .ref (gB G 3)), (1, .int (nI k)), (2, .int v)] := hl
  have hn20 := hpic.1
  refine lv_aload_n S.1 S.2.1 dX4_set_0 rfl (lv_at hl 0 rfl) ?_
  refine lv_iconst (v := 0) S.1 S.2.1 dX4_set_1 (by decide) ?_
  refine p_X4_M_thrown S hI hm dX4_set_2 (fun σ1 H locs ey1 hz1 hI => ?_)
  refine lv_iload_n S.1 S.2.1 dX4_set_5 rfl (lv_at hl 1 rfl) ?_
  refine cl_i hI (rnS (As := [.int (nI k)]) (rest := []) S hI (c_isShelf l G _ (nI k)) (cw_X4_X4_isShelf S.2.2.2.2 ⟨Nat.le_of_ble_eq_true rfl, Nat.le_of_ble_eq_true rfl⟩) rfl hl.1 (Nat.le_of_ble_eq_true rfl) dX4_set_6 ⟨Nat.le_of_ble_eq_true rfl, Nat.le_of_ble_eq_true rfl⟩) (fun r2 σ2 H locs hq2 hI => ?_)
  obtain ⟨hr2, hs2⟩ := hq2
  rw [hs2] at hI
  rw [hr2, inI_s hk]
  refine lv_if_ne (tgt := 18) S.1 S.2.1 dX4_set_9 (by decide) (fun _ => ?_) (fun c9 => absurd c9 (by decide))
  refine lv_iload_n S.1 S.2.1 dX4_set_18 rfl (lv_at hl 2 rfl) ?_
  refine lv_bipush (v := (-30)) S.1 S.2.1 dX4_set_19 (by decide) ?_
  refine lv_bipush (v := (-5)) S.1 S.2.1 dX4_set_21 (by decide) ?_
  refine cl_i hI (rnS (As := [.int v, .int (-30), .int (-5)]) (rest := []) S hI (c_isIn l G _ v (-30) (-5)) (cw_X4_X4_isIn S.2.2.2.2 ⟨Nat.le_of_ble_eq_true rfl, Nat.le_of_ble_eq_true rfl⟩) rfl hl.1 (Nat.le_of_ble_eq_true rfl) dX4_set_23 ⟨Nat.le_of_ble_eq_true rfl, Nat.le_of_ble_eq_true rfl⟩) (fun r3 σ3 H locs hq3 hI => ?_)
  obtain ⟨hr3, hs3⟩ := hq3
  rw [hs3] at hI
  rw [hr3, inI_no hb]
  refine lv_if_ne (tgt := 35) S.1 S.2.1 dX4_set_26 (by decide) (fun c9 => absurd c9 (by decide)) (fun _ => ?_)
  refine lv_aload_n S.1 S.2.1 dX4_set_29 rfl (lv_at hl 0 rfl) ?_
  refine lv_iconst (v := 2) S.1 S.2.1 dX4_set_30 (by decide) ?_
  refine cl_i hI (rnV (As := [.int 2]) (rest := []) S hI (c_no l G _ hz1 2) (cw_X4_X4_no S.2.2.2.2 ⟨Nat.le_of_ble_eq_true rfl, Nat.le_of_ble_eq_true rfl⟩) (rcM hI) rfl hl.1 (Nat.le_of_ble_eq_true rfl) dX4_set_31 ⟨Nat.le_of_ble_eq_true rfl, Nat.le_of_ble_eq_true rfl⟩) (fun r4 σ4 H locs hq4 hI => ?_)
  obtain ⟨hr4, ez4⟩ := hq4
  rw [hr4]
  exact xt_i S hI hr hlk (⟨mk, lf, nw, kp, (by rw [ez4, ey1]; try rfl), hpic⟩) (by decide) (by decide) dX4_set_34
set_option maxRecDepth 100000 in
set_option maxHeartbeats 4000000 in
theorem m_pass (l : Launch) (G : Gt) (σ : St) {α : St} {n : Nat} {th : Int32} {mk lf nw kp : Nat → Int32} (hm : gM σ = (th, nI n, mk, lf, nw, kp)) (hpic : Pic α n mk lf nw) {h : Nat} (h1 : 1 ≤ h) (hh100 : h ≤ 100) : Ct l G yX4_pass cX4_pass 2 (some .int) 6 0 0 [.ref (gB G 3), .int (nI h)] σ (Qi G (fun r σ' => r = (gX (hourXs h α)).2.1 - (gX α).2.1 ∧ Mq σ (hourXs h α) 0 n σ')) := by
  refine mt_intro (by decide +kernel) (Nat.le_of_ble_eq_true rfl) ?_
  intro p e s m below meth c S hr hlk hnm hI ls hl
  have hl : lv_has ls 2 [(0, .ref (gB G 3)), (1, .int (nI h))] := hl
  have hn20 := hpic.1
  refine lv_aload_n S.1 S.2.1 dX4_pass_0 rfl (lv_at hl 0 rfl) ?_
  refine lv_iconst (v := 0) S.1 S.2.1 dX4_pass_1 (by decide) ?_
  refine p_X4_M_thrown S hI hm dX4_pass_2 (fun σ1 H locs ey1 hz1 hI => ?_)
  refine lv_iload_n S.1 S.2.1 dX4_pass_5 rfl (lv_at hl 1 rfl) ?_
  refine lv_iconst (v := 1) S.1 S.2.1 dX4_pass_6 (by decide) ?_
  refine lv_bipush (v := 100) S.1 S.2.1 dX4_pass_7 (by decide) ?_
  refine cl_i hI (rnS (As := [.int (nI h), .int 1, .int 100]) (rest := []) S hI (c_isIn l G _ (nI h) 1 100) (cw_X4_X4_isIn S.2.2.2.2 ⟨Nat.le_of_ble_eq_true rfl, Nat.le_of_ble_eq_true rfl⟩) rfl hl.1 (Nat.le_of_ble_eq_true rfl) dX4_pass_9 ⟨Nat.le_of_ble_eq_true rfl, Nat.le_of_ble_eq_true rfl⟩) (fun r2 σ2 H locs hq2 hI => ?_)
  obtain ⟨hr2, hs2⟩ := hq2
  rw [hs2] at hI
  rw [hr2, inI_h h1 hh100]
  refine lv_if_eq (tgt := 23) S.1 S.2.1 dX4_pass_12 (by decide) (fun c9 => absurd c9 (by decide)) (fun _ => ?_)
  refine lv_aload_n S.1 S.2.1 dX4_pass_15 rfl (lv_at hl 0 rfl) ?_
  refine lv_iload_n S.1 S.2.1 dX4_pass_16 rfl (lv_at hl 1 rfl) ?_
  refine cl_i hI (rnV (As := [.int (nI h)]) (rest := []) S hI (c_hoursOn l G _ hz1 hpic (h := h) hh100) (cw_X4_X4_hoursOn S.2.2.2.2 ⟨Nat.le_of_ble_eq_true rfl, Nat.le_of_ble_eq_true rfl⟩) (rcM hI) rfl hl.1 (Nat.le_of_ble_eq_true rfl) dX4_pass_17 ⟨Nat.le_of_ble_eq_true rfl, Nat.le_of_ble_eq_true rfl⟩) (fun r3 σ3 H locs hq3 hI => ?_)
  obtain ⟨nwy, ez3, hpy, hr3⟩ := hq3
  rw [hr3]
  refine lv_goto (tgt := 28) S.1 S.2.1 dX4_pass_20 (by decide) ?_
  exact xt_i S hI hr hlk (⟨rfl, mk, lf, _, kp, (by rw [ez3, ey1]; rfl), hpy⟩) (by decide) (by decide) dX4_pass_28
set_option maxRecDepth 100000 in
set_option maxHeartbeats 4000000 in
theorem m_pass_b (l : Launch) (G : Gt) (σ : St) {α : St} {n : Nat} {th : Int32} {mk lf nw kp : Nat → Int32} (hm : gM σ = (th, nI n, mk, lf, nw, kp)) (hpic : Pic α n mk lf nw) (v : Int32) (hb : v < 1 ∨ 100 < v) : Ct l G yX4_pass cX4_pass 2 (some .int) 6 0 0 [.ref (gB G 3), .int v] σ (Qi G (fun r σ' => Mq σ α 1 n σ')) := by
  refine mt_intro (by decide +kernel) (Nat.le_of_ble_eq_true rfl) ?_
  intro p e s m below meth c S hr hlk hnm hI ls hl
  have hl : lv_has ls 2 [(0, .ref (gB G 3)), (1, .int v)] := hl
  have hn20 := hpic.1
  refine lv_aload_n S.1 S.2.1 dX4_pass_0 rfl (lv_at hl 0 rfl) ?_
  refine lv_iconst (v := 0) S.1 S.2.1 dX4_pass_1 (by decide) ?_
  refine p_X4_M_thrown S hI hm dX4_pass_2 (fun σ1 H locs ey1 hz1 hI => ?_)
  refine lv_iload_n S.1 S.2.1 dX4_pass_5 rfl (lv_at hl 1 rfl) ?_
  refine lv_iconst (v := 1) S.1 S.2.1 dX4_pass_6 (by decide) ?_
  refine lv_bipush (v := 100) S.1 S.2.1 dX4_pass_7 (by decide) ?_
  refine cl_i hI (rnS (As := [.int v, .int 1, .int 100]) (rest := []) S hI (c_isIn l G _ v 1 100) (cw_X4_X4_isIn S.2.2.2.2 ⟨Nat.le_of_ble_eq_true rfl, Nat.le_of_ble_eq_true rfl⟩) rfl hl.1 (Nat.le_of_ble_eq_true rfl) dX4_pass_9 ⟨Nat.le_of_ble_eq_true rfl, Nat.le_of_ble_eq_true rfl⟩) (fun r2 σ2 H locs hq2 hI => ?_)
  obtain ⟨hr2, hs2⟩ := hq2
  rw [hs2] at hI
  rw [hr2, inI_no hb]
  refine lv_if_eq (tgt := 23) S.1 S.2.1 dX4_pass_12 (by decide) (fun _ => ?_) (fun c9 => absurd c9 (by decide))
  refine lv_aload_n S.1 S.2.1 dX4_pass_23 rfl (lv_at hl 0 rfl) ?_
  refine lv_iconst (v := 1) S.1 S.2.1 dX4_pass_24 (by decide) ?_
  refine cl_i hI (rnV (As := [.int 1]) (rest := []) S hI (c_no l G _ hz1 1) (cw_X4_X4_no S.2.2.2.2 ⟨Nat.le_of_ble_eq_true rfl, Nat.le_of_ble_eq_true rfl⟩) (rcM hI) rfl hl.1 (Nat.le_of_ble_eq_true rfl) dX4_pass_25 ⟨Nat.le_of_ble_eq_true rfl, Nat.le_of_ble_eq_true rfl⟩) (fun r3 σ3 H locs hq3 hI => ?_)
  obtain ⟨hr3, ez3⟩ := hq3
  rw [hr3]
  exact xt_i S hI hr hlk (⟨mk, lf, nw, kp, (by rw [ez3, ey1]; try rfl), hpic⟩) (by decide) (by decide) dX4_pass_28
set_option maxRecDepth 100000 in
set_option maxHeartbeats 4000000 in
theorem m_make (l : Launch) (G : Gt) (σ : St) {α : St} {n : Nat} {th : Int32} {mk lf nw kp : Nat → Int32} (hm : gM σ = (th, nI n, mk, lf, nw, kp)) (hpic : Pic α n mk lf nw) {a b k : Nat} (hn : n < 20) (ha : a < 6) (hb1 : 1 ≤ b) (hb : b ≤ 100) (hk : k < 5) : Ct l G yX4_make cX4_make 4 (some .int) 4 0 0 [.ref (gB G 3), .int (nI a), .int (nI b), .int (nI k)] σ (Qi G (fun r σ' => r = nI n ∧ Mq σ (layS α n (nI a) (nI b) k) 0 (n + 1) σ')) := by
  refine mt_intro (by decide +kernel) (Nat.le_of_ble_eq_true rfl) ?_
  intro p e s m below meth c S hr hlk hnm hI ls hl
  have hl : lv_has ls 4 [(0, .ref (gB G 3)), (1, .int (nI a)), (2, .int (nI b)), (3, .int (nI k))] := hl
  have hn20 := hpic.1
  refine lv_aload_n S.1 S.2.1 dX4_make_0 rfl (lv_at hl 0 rfl) ?_
  refine lv_iconst (v := 0) S.1 S.2.1 dX4_make_1 (by decide) ?_
  refine p_X4_M_thrown S hI hm dX4_make_2 (fun σ1 H locs ey1 hz1 hI => ?_)
  refine lv_iload_n S.1 S.2.1 dX4_make_5 rfl (lv_at hl 1 rfl) ?_
  refine cl_i hI (rnS (As := [.int (nI a)]) (rest := []) S hI (c_isMaker l G _ (nI a)) (cw_X4_X4_isMaker S.2.2.2.2 ⟨Nat.le_of_ble_eq_true rfl, Nat.le_of_ble_eq_true rfl⟩) rfl hl.1 (Nat.le_of_ble_eq_true rfl) dX4_make_6 ⟨Nat.le_of_ble_eq_true rfl, Nat.le_of_ble_eq_true rfl⟩) (fun r2 σ2 H locs hq2 hI => ?_)
  obtain ⟨hr2, hs2⟩ := hq2
  rw [hs2] at hI
  rw [hr2, inI_m ha]
  refine lv_if_eq (tgt := 19) S.1 S.2.1 dX4_make_9 (by decide) (fun c9 => absurd c9 (by decide)) (fun _ => ?_)
  refine lv_iload_n S.1 S.2.1 dX4_make_12 rfl (lv_at hl 3 rfl) ?_
  refine cl_i hI (rnS (As := [.int (nI k)]) (rest := []) S hI (c_isShelf l G _ (nI k)) (cw_X4_X4_isShelf S.2.2.2.2 ⟨Nat.le_of_ble_eq_true rfl, Nat.le_of_ble_eq_true rfl⟩) rfl hl.1 (Nat.le_of_ble_eq_true rfl) dX4_make_13 ⟨Nat.le_of_ble_eq_true rfl, Nat.le_of_ble_eq_true rfl⟩) (fun r3 σ3 H locs hq3 hI => ?_)
  obtain ⟨hr3, hs3⟩ := hq3
  rw [hs3] at hI
  rw [hr3, inI_s hk]
  refine lv_if_ne (tgt := 25) S.1 S.2.1 dX4_make_16 (by decide) (fun _ => ?_) (fun c9 => absurd c9 (by decide))
  refine lv_iload_n S.1 S.2.1 dX4_make_25 rfl (lv_at hl 2 rfl) ?_
  refine lv_iconst (v := 1) S.1 S.2.1 dX4_make_26 (by decide) ?_
  refine lv_bipush (v := 100) S.1 S.2.1 dX4_make_27 (by decide) ?_
  refine cl_i hI (rnS (As := [.int (nI b), .int 1, .int 100]) (rest := []) S hI (c_isIn l G _ (nI b) 1 100) (cw_X4_X4_isIn S.2.2.2.2 ⟨Nat.le_of_ble_eq_true rfl, Nat.le_of_ble_eq_true rfl⟩) rfl hl.1 (Nat.le_of_ble_eq_true rfl) dX4_make_29 ⟨Nat.le_of_ble_eq_true rfl, Nat.le_of_ble_eq_true rfl⟩) (fun r4 σ4 H locs hq4 hI => ?_)
  obtain ⟨hr4, hs4⟩ := hq4
  rw [hs4] at hI
  rw [hr4, inI_h hb1 hb]
  refine lv_if_ne (tgt := 41) S.1 S.2.1 dX4_make_32 (by decide) (fun _ => ?_) (fun c9 => absurd c9 (by decide))
  refine lv_aload_n S.1 S.2.1 dX4_make_41 rfl (lv_at hl 0 rfl) ?_
  refine g_X4_M_promises S hI hz1 dX4_make_42 ?_
  refine lv_bipush (v := 20) S.1 S.2.1 dX4_make_45 (by decide) ?_
  refine lv_icmp_ne (tgt := 56) S.1 S.2.1 dX4_make_47 (by decide) (fun cz_47 => ?_) (fun c9 => absurd c9 (fun z9 => by have := (nI_eq (a := n) (b := 20) (by omega) (by omega)).mp z9; omega))
  refine lv_aload_n S.1 S.2.1 dX4_make_56 rfl (lv_at hl 0 rfl) ?_
  refine lv_iload_n S.1 S.2.1 dX4_make_57 rfl (lv_at hl 1 rfl) ?_
  refine lv_iload_n S.1 S.2.1 dX4_make_58 rfl (lv_at hl 2 rfl) ?_
  refine lv_iload_n S.1 S.2.1 dX4_make_59 rfl (lv_at hl 3 rfl) ?_
  refine cl_v hI (rnV (As := [.int (nI a), .int (nI b), .int (nI k)]) (rest := []) S hI (c_lay l G _ hn (k := k) hk (show gM σ1 = (0, nI n, mk, lf, putZ nw n (nw (13 + 5 * n + 0), nw (13 + 5 * n + 1), nw (13 + 5 * n + 2), nw (13 + 5 * n + 3), nw (13 + 5 * n + 4)), kp) from by rw [putZ_self]; exact hz1) (nI a) (nI b)) (cw_X4_X4_lay S.2.2.2.2 ⟨Nat.le_of_ble_eq_true rfl, Nat.le_of_ble_eq_true rfl⟩) (rcM hI) rfl hl.1 (Nat.le_of_ble_eq_true rfl) dX4_make_60 ⟨Nat.le_of_ble_eq_true rfl, Nat.le_of_ble_eq_true rfl⟩) (fun σ5 H locs hq5 hI => ?_)
  have ez5 := hq5
  have hM5 : gM σ5 = (0, nI (n + 1), va_up mk n (nI a), va_up lf n (nI b), va_up (putZ nw n (nI k, 20, 0, 0, 0)) (3 + 2 * k + 1) (openH (putZ nw n (nI k, 20, 0, 0, 0) (3 + 2 * k + 1))), kp) := by rw [ez5]; rfl
  refine lv_aload_n S.1 S.2.1 dX4_make_63 rfl (lv_at hl 0 rfl) ?_
  refine g_X4_M_promises S hI hM5 dX4_make_64 ?_
  refine lv_iconst (v := 1) S.1 S.2.1 dX4_make_67 (by decide) ?_
  refine lv_isub S.1 S.2.1 dX4_make_68 ?_
  rw [show ((nI (n + 1)) - 1) = (nI n) from nI_pred n]
  exact xt_i S hI hr hlk (⟨rfl, _, _, _, _, (by rw [ez5, ey1]; rfl), hpic.lay hn hk (nI a) (nI b)⟩) (by decide) (by decide) dX4_make_69
set_option maxRecDepth 100000 in
set_option maxHeartbeats 4000000 in
theorem m_make_b1m (l : Launch) (G : Gt) (σ : St) {α : St} {n : Nat} {th : Int32} {mk lf nw kp : Nat → Int32} (hm : gM σ = (th, nI n, mk, lf, nw, kp)) (hpic : Pic α n mk lf nw) (v1 v2 v3 : Int32) (hb : v1 < 0 ∨ nI 6 ≤ v1) : Ct l G yX4_make cX4_make 4 (some .int) 4 0 0 [.ref (gB G 3), .int v1, .int v2, .int v3] σ (Qi G (fun r σ' => Mq σ α 1 n σ')) := by
  refine mt_intro (by decide +kernel) (Nat.le_of_ble_eq_true rfl) ?_
  intro p e s m below meth c S hr hlk hnm hI ls hl
  have hl : lv_has ls 4 [(0, .ref (gB G 3)), (1, .int v1), (2, .int v2), (3, .int v3)] := hl
  have hn20 := hpic.1
  refine lv_aload_n S.1 S.2.1 dX4_make_0 rfl (lv_at hl 0 rfl) ?_
  refine lv_iconst (v := 0) S.1 S.2.1 dX4_make_1 (by decide) ?_
  refine p_X4_M_thrown S hI hm dX4_make_2 (fun σ1 H locs ey1 hz1 hI => ?_)
  refine lv_iload_n S.1 S.2.1 dX4_make_5 rfl (lv_at hl 1 rfl) ?_
  refine cl_i hI (rnS (As := [.int v1]) (rest := []) S hI (c_isMaker l G _ v1) (cw_X4_X4_isMaker S.2.2.2.2 ⟨Nat.le_of_ble_eq_true rfl, Nat.le_of_ble_eq_true rfl⟩) rfl hl.1 (Nat.le_of_ble_eq_true rfl) dX4_make_6 ⟨Nat.le_of_ble_eq_true rfl, Nat.le_of_ble_eq_true rfl⟩) (fun r2 σ2 H locs hq2 hI => ?_)
  obtain ⟨hr2, hs2⟩ := hq2
  rw [hs2] at hI
  rw [hr2, inI_bm hb]
  refine lv_if_eq (tgt := 19) S.1 S.2.1 dX4_make_9 (by decide) (fun _ => ?_) (fun c9 => absurd c9 (by decide))
  refine lv_aload_n S.1 S.2.1 dX4_make_19 rfl (lv_at hl 0 rfl) ?_
  refine lv_iconst (v := 1) S.1 S.2.1 dX4_make_20 (by decide) ?_
  refine cl_i hI (rnV (As := [.int 1]) (rest := []) S hI (c_no l G _ hz1 1) (cw_X4_X4_no S.2.2.2.2 ⟨Nat.le_of_ble_eq_true rfl, Nat.le_of_ble_eq_true rfl⟩) (rcM hI) rfl hl.1 (Nat.le_of_ble_eq_true rfl) dX4_make_21 ⟨Nat.le_of_ble_eq_true rfl, Nat.le_of_ble_eq_true rfl⟩) (fun r3 σ3 H locs hq3 hI => ?_)
  obtain ⟨hr3, ez3⟩ := hq3
  rw [hr3]
  exact xt_i S hI hr hlk (⟨mk, lf, nw, kp, (by rw [ez3, ey1]; try rfl), hpic⟩) (by decide) (by decide) dX4_make_24
set_option maxRecDepth 100000 in
set_option maxHeartbeats 4000000 in
theorem m_make_b1s (l : Launch) (G : Gt) (σ : St) {α : St} {n : Nat} {th : Int32} {mk lf nw kp : Nat → Int32} (hm : gM σ = (th, nI n, mk, lf, nw, kp)) (hpic : Pic α n mk lf nw) {a : Nat} (ha : a < 6) (v2 v3 : Int32) (hb : v3 < 0 ∨ nI 5 ≤ v3) : Ct l G yX4_make cX4_make 4 (some .int) 4 0 0 [.ref (gB G 3), .int (nI a), .int v2, .int v3] σ (Qi G (fun r σ' => Mq σ α 1 n σ')) := by
  refine mt_intro (by decide +kernel) (Nat.le_of_ble_eq_true rfl) ?_
  intro p e s m below meth c S hr hlk hnm hI ls hl
  have hl : lv_has ls 4 [(0, .ref (gB G 3)), (1, .int (nI a)), (2, .int v2), (3, .int v3)] := hl
  have hn20 := hpic.1
  refine lv_aload_n S.1 S.2.1 dX4_make_0 rfl (lv_at hl 0 rfl) ?_
  refine lv_iconst (v := 0) S.1 S.2.1 dX4_make_1 (by decide) ?_
  refine p_X4_M_thrown S hI hm dX4_make_2 (fun σ1 H locs ey1 hz1 hI => ?_)
  refine lv_iload_n S.1 S.2.1 dX4_make_5 rfl (lv_at hl 1 rfl) ?_
  refine cl_i hI (rnS (As := [.int (nI a)]) (rest := []) S hI (c_isMaker l G _ (nI a)) (cw_X4_X4_isMaker S.2.2.2.2 ⟨Nat.le_of_ble_eq_true rfl, Nat.le_of_ble_eq_true rfl⟩) rfl hl.1 (Nat.le_of_ble_eq_true rfl) dX4_make_6 ⟨Nat.le_of_ble_eq_true rfl, Nat.le_of_ble_eq_true rfl⟩) (fun r2 σ2 H locs hq2 hI => ?_)
  obtain ⟨hr2, hs2⟩ := hq2
  rw [hs2] at hI
  rw [hr2, inI_m ha]
  refine lv_if_eq (tgt := 19) S.1 S.2.1 dX4_make_9 (by decide) (fun c9 => absurd c9 (by decide)) (fun _ => ?_)
  refine lv_iload_n S.1 S.2.1 dX4_make_12 rfl (lv_at hl 3 rfl) ?_
  refine cl_i hI (rnS (As := [.int v3]) (rest := []) S hI (c_isShelf l G _ v3) (cw_X4_X4_isShelf S.2.2.2.2 ⟨Nat.le_of_ble_eq_true rfl, Nat.le_of_ble_eq_true rfl⟩) rfl hl.1 (Nat.le_of_ble_eq_true rfl) dX4_make_13 ⟨Nat.le_of_ble_eq_true rfl, Nat.le_of_ble_eq_true rfl⟩) (fun r3 σ3 H locs hq3 hI => ?_)
  obtain ⟨hr3, hs3⟩ := hq3
  rw [hs3] at hI
  rw [hr3, inI_bs hb]
  refine lv_if_ne (tgt := 25) S.1 S.2.1 dX4_make_16 (by decide) (fun c9 => absurd c9 (by decide)) (fun _ => ?_)
  refine lv_aload_n S.1 S.2.1 dX4_make_19 rfl (lv_at hl 0 rfl) ?_
  refine lv_iconst (v := 1) S.1 S.2.1 dX4_make_20 (by decide) ?_
  refine cl_i hI (rnV (As := [.int 1]) (rest := []) S hI (c_no l G _ hz1 1) (cw_X4_X4_no S.2.2.2.2 ⟨Nat.le_of_ble_eq_true rfl, Nat.le_of_ble_eq_true rfl⟩) (rcM hI) rfl hl.1 (Nat.le_of_ble_eq_true rfl) dX4_make_21 ⟨Nat.le_of_ble_eq_true rfl, Nat.le_of_ble_eq_true rfl⟩) (fun r4 σ4 H locs hq4 hI => ?_)
  obtain ⟨hr4, ez4⟩ := hq4
  rw [hr4]
  exact xt_i S hI hr hlk (⟨mk, lf, nw, kp, (by rw [ez4, ey1]; try rfl), hpic⟩) (by decide) (by decide) dX4_make_24
set_option maxRecDepth 100000 in
set_option maxHeartbeats 4000000 in
theorem m_make_b2 (l : Launch) (G : Gt) (σ : St) {α : St} {n : Nat} {th : Int32} {mk lf nw kp : Nat → Int32} (hm : gM σ = (th, nI n, mk, lf, nw, kp)) (hpic : Pic α n mk lf nw) {a k : Nat} (ha : a < 6) (v2 : Int32) (hk : k < 5) (hb : v2 < 1 ∨ 100 < v2) : Ct l G yX4_make cX4_make 4 (some .int) 4 0 0 [.ref (gB G 3), .int (nI a), .int v2, .int (nI k)] σ (Qi G (fun r σ' => Mq σ α 2 n σ')) := by
  refine mt_intro (by decide +kernel) (Nat.le_of_ble_eq_true rfl) ?_
  intro p e s m below meth c S hr hlk hnm hI ls hl
  have hl : lv_has ls 4 [(0, .ref (gB G 3)), (1, .int (nI a)), (2, .int v2), (3, .int (nI k))] := hl
  have hn20 := hpic.1
  refine lv_aload_n S.1 S.2.1 dX4_make_0 rfl (lv_at hl 0 rfl) ?_
  refine lv_iconst (v := 0) S.1 S.2.1 dX4_make_1 (by decide) ?_
  refine p_X4_M_thrown S hI hm dX4_make_2 (fun σ1 H locs ey1 hz1 hI => ?_)
  refine lv_iload_n S.1 S.2.1 dX4_make_5 rfl (lv_at hl 1 rfl) ?_
  refine cl_i hI (rnS (As := [.int (nI a)]) (rest := []) S hI (c_isMaker l G _ (nI a)) (cw_X4_X4_isMaker S.2.2.2.2 ⟨Nat.le_of_ble_eq_true rfl, Nat.le_of_ble_eq_true rfl⟩) rfl hl.1 (Nat.le_of_ble_eq_true rfl) dX4_make_6 ⟨Nat.le_of_ble_eq_true rfl, Nat.le_of_ble_eq_true rfl⟩) (fun r2 σ2 H locs hq2 hI => ?_)
  obtain ⟨hr2, hs2⟩ := hq2
  rw [hs2] at hI
  rw [hr2, inI_m ha]
  refine lv_if_eq (tgt := 19) S.1 S.2.1 dX4_make_9 (by decide) (fun c9 => absurd c9 (by decide)) (fun _ => ?_)
  refine lv_iload_n S.1 S.2.1 dX4_make_12 rfl (lv_at hl 3 rfl) ?_
  refine cl_i hI (rnS (As := [.int (nI k)]) (rest := []) S hI (c_isShelf l G _ (nI k)) (cw_X4_X4_isShelf S.2.2.2.2 ⟨Nat.le_of_ble_eq_true rfl, Nat.le_of_ble_eq_true rfl⟩) rfl hl.1 (Nat.le_of_ble_eq_true rfl) dX4_make_13 ⟨Nat.le_of_ble_eq_true rfl, Nat.le_of_ble_eq_true rfl⟩) (fun r3 σ3 H locs hq3 hI => ?_)
  obtain ⟨hr3, hs3⟩ := hq3
  rw [hs3] at hI
  rw [hr3, inI_s hk]
  refine lv_if_ne (tgt := 25) S.1 S.2.1 dX4_make_16 (by decide) (fun _ => ?_) (fun c9 => absurd c9 (by decide))
  refine lv_iload_n S.1 S.2.1 dX4_make_25 rfl (lv_at hl 2 rfl) ?_
  refine lv_iconst (v := 1) S.1 S.2.1 dX4_make_26 (by decide) ?_
  refine lv_bipush (v := 100) S.1 S.2.1 dX4_make_27 (by decide) ?_
  refine cl_i hI (rnS (As := [.int v2, .int 1, .int 100]) (rest := []) S hI (c_isIn l G _ v2 1 100) (cw_X4_X4_isIn S.2.2.2.2 ⟨Nat.le_of_ble_eq_true rfl, Nat.le_of_ble_eq_true rfl⟩) rfl hl.1 (Nat.le_of_ble_eq_true rfl) dX4_make_29 ⟨Nat.le_of_ble_eq_true rfl, Nat.le_of_ble_eq_true rfl⟩) (fun r4 σ4 H locs hq4 hI => ?_)
  obtain ⟨hr4, hs4⟩ := hq4
  rw [hs4] at hI
  rw [hr4, inI_no hb]
  refine lv_if_ne (tgt := 41) S.1 S.2.1 dX4_make_32 (by decide) (fun c9 => absurd c9 (by decide)) (fun _ => ?_)
  refine lv_aload_n S.1 S.2.1 dX4_make_35 rfl (lv_at hl 0 rfl) ?_
  refine lv_iconst (v := 2) S.1 S.2.1 dX4_make_36 (by decide) ?_
  refine cl_i hI (rnV (As := [.int 2]) (rest := []) S hI (c_no l G _ hz1 2) (cw_X4_X4_no S.2.2.2.2 ⟨Nat.le_of_ble_eq_true rfl, Nat.le_of_ble_eq_true rfl⟩) (rcM hI) rfl hl.1 (Nat.le_of_ble_eq_true rfl) dX4_make_37 ⟨Nat.le_of_ble_eq_true rfl, Nat.le_of_ble_eq_true rfl⟩) (fun r5 σ5 H locs hq5 hI => ?_)
  obtain ⟨hr5, ez5⟩ := hq5
  rw [hr5]
  exact xt_i S hI hr hlk (⟨mk, lf, nw, kp, (by rw [ez5, ey1]; try rfl), hpic⟩) (by decide) (by decide) dX4_make_40
set_option maxRecDepth 100000 in
set_option maxHeartbeats 4000000 in
theorem m_make_b3 (l : Launch) (G : Gt) (σ : St) {α : St} {n : Nat} {th : Int32} {mk lf nw kp : Nat → Int32} (hm : gM σ = (th, nI n, mk, lf, nw, kp)) (hpic : Pic α n mk lf nw) {a b k : Nat} (hn9 : n = 20) (ha : a < 6) (hb1 : 1 ≤ b) (hb : b ≤ 100) (hk : k < 5) : Ct l G yX4_make cX4_make 4 (some .int) 4 0 0 [.ref (gB G 3), .int (nI a), .int (nI b), .int (nI k)] σ (Qi G (fun r σ' => Mq σ α 3 n σ')) := by
  refine mt_intro (by decide +kernel) (Nat.le_of_ble_eq_true rfl) ?_
  intro p e s m below meth c S hr hlk hnm hI ls hl
  have hl : lv_has ls 4 [(0, .ref (gB G 3)), (1, .int (nI a)), (2, .int (nI b)), (3, .int (nI k))] := hl
  have hn20 := hpic.1
  refine lv_aload_n S.1 S.2.1 dX4_make_0 rfl (lv_at hl 0 rfl) ?_
  refine lv_iconst (v := 0) S.1 S.2.1 dX4_make_1 (by decide) ?_
  refine p_X4_M_thrown S hI hm dX4_make_2 (fun σ1 H locs ey1 hz1 hI => ?_)
  refine lv_iload_n S.1 S.2.1 dX4_make_5 rfl (lv_at hl 1 rfl) ?_
  refine cl_i hI (rnS (As := [.int (nI a)]) (rest := []) S hI (c_isMaker l G _ (nI a)) (cw_X4_X4_isMaker S.2.2.2.2 ⟨Nat.le_of_ble_eq_true rfl, Nat.le_of_ble_eq_true rfl⟩) rfl hl.1 (Nat.le_of_ble_eq_true rfl) dX4_make_6 ⟨Nat.le_of_ble_eq_true rfl, Nat.le_of_ble_eq_true rfl⟩) (fun r2 σ2 H locs hq2 hI => ?_)
  obtain ⟨hr2, hs2⟩ := hq2
  rw [hs2] at hI
  rw [hr2, inI_m ha]
  refine lv_if_eq (tgt := 19) S.1 S.2.1 dX4_make_9 (by decide) (fun c9 => absurd c9 (by decide)) (fun _ => ?_)
  refine lv_iload_n S.1 S.2.1 dX4_make_12 rfl (lv_at hl 3 rfl) ?_
  refine cl_i hI (rnS (As := [.int (nI k)]) (rest := []) S hI (c_isShelf l G _ (nI k)) (cw_X4_X4_isShelf S.2.2.2.2 ⟨Nat.le_of_ble_eq_true rfl, Nat.le_of_ble_eq_true rfl⟩) rfl hl.1 (Nat.le_of_ble_eq_true rfl) dX4_make_13 ⟨Nat.le_of_ble_eq_true rfl, Nat.le_of_ble_eq_true rfl⟩) (fun r3 σ3 H locs hq3 hI => ?_)
  obtain ⟨hr3, hs3⟩ := hq3
  rw [hs3] at hI
  rw [hr3, inI_s hk]
  refine lv_if_ne (tgt := 25) S.1 S.2.1 dX4_make_16 (by decide) (fun _ => ?_) (fun c9 => absurd c9 (by decide))
  refine lv_iload_n S.1 S.2.1 dX4_make_25 rfl (lv_at hl 2 rfl) ?_
  refine lv_iconst (v := 1) S.1 S.2.1 dX4_make_26 (by decide) ?_
  refine lv_bipush (v := 100) S.1 S.2.1 dX4_make_27 (by decide) ?_
  refine cl_i hI (rnS (As := [.int (nI b), .int 1, .int 100]) (rest := []) S hI (c_isIn l G _ (nI b) 1 100) (cw_X4_X4_isIn S.2.2.2.2 ⟨Nat.le_of_ble_eq_true rfl, Nat.le_of_ble_eq_true rfl⟩) rfl hl.1 (Nat.le_of_ble_eq_true rfl) dX4_make_29 ⟨Nat.le_of_ble_eq_true rfl, Nat.le_of_ble_eq_true rfl⟩) (fun r4 σ4 H locs hq4 hI => ?_)
  obtain ⟨hr4, hs4⟩ := hq4
  rw [hs4] at hI
  rw [hr4, inI_h hb1 hb]
  refine lv_if_ne (tgt := 41) S.1 S.2.1 dX4_make_32 (by decide) (fun _ => ?_) (fun c9 => absurd c9 (by decide))
  refine lv_aload_n S.1 S.2.1 dX4_make_41 rfl (lv_at hl 0 rfl) ?_
  refine g_X4_M_promises S hI hz1 dX4_make_42 ?_
  refine lv_bipush (v := 20) S.1 S.2.1 dX4_make_45 (by decide) ?_
  refine lv_icmp_ne (tgt := 56) S.1 S.2.1 dX4_make_47 (by decide) (fun c9 => absurd (show nI n = 20 by rw [hn9]; rfl) c9) (fun cz_47 => ?_)
  refine lv_aload_n S.1 S.2.1 dX4_make_50 rfl (lv_at hl 0 rfl) ?_
  refine lv_iconst (v := 3) S.1 S.2.1 dX4_make_51 (by decide) ?_
  refine cl_i hI (rnV (As := [.int 3]) (rest := []) S hI (c_no l G _ hz1 3) (cw_X4_X4_no S.2.2.2.2 ⟨Nat.le_of_ble_eq_true rfl, Nat.le_of_ble_eq_true rfl⟩) (rcM hI) rfl hl.1 (Nat.le_of_ble_eq_true rfl) dX4_make_52 ⟨Nat.le_of_ble_eq_true rfl, Nat.le_of_ble_eq_true rfl⟩) (fun r5 σ5 H locs hq5 hI => ?_)
  obtain ⟨hr5, ez5⟩ := hq5
  rw [hr5]
  exact xt_i S hI hr hlk (⟨mk, lf, nw, kp, (by rw [ez5, ey1]; try rfl), hpic⟩) (by decide) (by decide) dX4_make_55
