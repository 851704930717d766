theorem xH_P0 {σ : St} {k : Nat} (h : xR σ k = 0) : setP (xH σ 5 k 0) k (hourP (xS σ 5 (gP σ k).2.1).2 (gP σ k)) = xH σ 5 (k + 1) 0 := by
  rw [← xH_P, h, Int32.add_zero]
  rfl
theorem xH_P1 {σ : St} {k : Nat} (h : xR σ k = 1) : setX (setP (xH σ 5 k 0) k (hourP (xS σ 5 (gP σ k).2.1).2 (gP σ k))) ((gX σ).1, (gX σ).2.1 + sumN (xR σ) k + 1, (gX σ).2.2.1 + 0, (gX σ).2.2.2) = xH σ 5 (k + 1) 0 := by
  rw [← xH_P, h]
theorem xH_1 (σ : St) : setX (xH σ 5 20 0) ((gX σ).1, (gX σ).2.1 + sumN (xR σ) 20, (gX σ).2.2.1 + 0 + 1, (gX σ).2.2.2) = hourX σ := by
  rw [Int32.add_zero]
  rfl
theorem xR_01 (σ : St) (k : Nat) : xR σ k = 0 ∨ xR σ k = 1 := by unfold xR ringP; split <;> first | exact Or.inl rfl | exact Or.inr rfl
theorem okP.hour {σ : St} (h : okP σ) : okP (hourX σ) := fun i hi => by
  have e : gP (hourX σ) i = hourP (xS σ 5 (gP σ i).2.1).2 (gP σ i) := if_pos hi
  rw [e]
  refine ⟨hourP_g (h i hi).1, ?_⟩
  rcases hourP_s (xS σ 5 (gP σ i).2.1).2 (gP σ i) with e | e
  · rw [e]; exact (h i hi).2
  · exact Or.inr e
theorem okP.hours {σ : St} (h : okP σ) (n : Nat) : okP (hourXs n σ) := by
  induction n with
  | zero => exact h
  | succ n ih => exact ih.hour
set_option maxRecDepth 100000 in
set_option maxHeartbeats 4000000 in
theorem c_passAnHour (l : Launch) (G : Gt) (σ : St) (hok : okP σ) : Ct l G yX3_passAnHour cX3_passAnHour 5 none 3 0 0 [.ref (gB G 0)] σ (Qv G (fun σ' => σ' = hourX σ)) := by
  refine mt_intro (by decide +kernel) (Nat.le_of_ble_eq_true rfl) ?_
  intro p e s m below meth c S hr hlk hnm hI ls hl
  have hl : lv_has ls 5 [(0, .ref (gB G 0))] := hl
  have loop2 : ∀ (n : Nat) (k : Nat), k + n = 20 → ∀ (H : Heap) (locs : List Loc), Iv G (xH σ 5 k 0) s H locs → ∀ ls : Array Slot, lv_has ls 5 [(0, .ref (gB G 0)), (1, .ref (gB G 2)), (2, .int (nI 20)), (3, .int (nI k))] → W p l e (rm 3 0 0) s m ([.ref (gB G 0)] : List Value).toArray below meth c H locs 0 0 (MQ below (Qv G (fun σ' => σ' = hourX σ)) ([.ref (gB G 0)] : List Value).toArray s 0 0 (gA G)) (F0 m 45 ls []) := by
    intro n
    induction n with
    | zero =>
      intro k hk H locs hI ls hl
      obtain rfl : k = 20 := by omega
      refine lv_iload_n S.1 S.2.1 dX3_passAnHour_45 rfl (lv_at hl 3 rfl) ?_
      refine lv_iload_n S.1 S.2.1 dX3_passAnHour_46 rfl (lv_at hl 2 rfl) ?_
      refine lv_icmp_ge (tgt := 79) S.1 S.2.1 dX3_passAnHour_47 (by decide) (fun cz_47 => ?_) (fun c9 => absurd (nI_le (Nat.le_refl 20) (by omega)) c9)
      refine lv_aload_n S.1 S.2.1 dX3_passAnHour_79 rfl (lv_at hl 0 rfl) ?_
      refine lv_dup S.1 S.2.1 dX3_passAnHour_80 rfl ?_
      refine g_X3_X_hoursGone S hI rfl dX3_passAnHour_81 ?_
      refine lv_iconst (v := 1) S.1 S.2.1 dX3_passAnHour_84 (by decide) ?_
      refine lv_iadd S.1 S.2.1 dX3_passAnHour_85 ?_
      refine p_X3_X_hoursGone S hI rfl dX3_passAnHour_86 (fun σ1 H locs ey1 hz1 hI => ?_)
      exact xt_v S hI hr hlk (by rw [ey1]; exact xH_1 σ) (by decide) (by decide) dX3_passAnHour_89
    | succ n ih =>
      intro k hk H locs hI ls hl
      have hk2 : k < 20 := by omega
      have hgk : gP (xH σ 5 k 0) k = gP σ k := xP_ge σ (Nat.le_refl k)
      refine lv_iload_n S.1 S.2.1 dX3_passAnHour_45 rfl (lv_at hl 3 rfl) ?_
      refine lv_iload_n S.1 S.2.1 dX3_passAnHour_46 rfl (lv_at hl 2 rfl) ?_
      refine lv_icmp_ge (tgt := 79) S.1 S.2.1 dX3_passAnHour_47 (by decide) (fun c9 => absurd c9 (nI_ge hk2 (by omega))) (fun cz_47 => ?_)
      refine lv_aload_n S.1 S.2.1 dX3_passAnHour_50 rfl (lv_at hl 1 rfl) ?_
      refine lv_iload_n S.1 S.2.1 dX3_passAnHour_51 rfl (lv_at hl 3 rfl) ?_
      refine a_PA S hI hk2 dX3_passAnHour_52 ?_
      refine lv_astore (lv' := [(4, .ref (gB G (9 + k))), (0, .ref (gB G 0)), (1, .ref (gB G 2)), (2, .int (nI 20)), (3, .int (nI k))]) S.1 S.2.1 dX3_passAnHour_53 hl (by decide) rfl (fun ls hl => ?_)
      refine lv_aload S.1 S.2.1 dX3_passAnHour_55 (lv_at hl 0 rfl) ?_
      refine cl_i hI (rnVN (As := []) (rest := []) S hI (c_P_hour l G (xH σ 5 k 0) (i := k) (by omega) (by rw [hgk]; exact (hok k hk2).1)) (cw_X3_X0_liveAnHour S.2.2.2.2 hI.1.2.2.2.2.2.2.2 ⟨Nat.le_of_ble_eq_true rfl, Nat.le_of_ble_eq_true rfl⟩) (rcP hI (by omega)) rfl hl.1 (Nat.le_of_ble_eq_true rfl) dX3_passAnHour_57 ⟨Nat.le_of_ble_eq_true rfl, Nat.le_of_ble_eq_true rfl⟩) (fun r1 σ1 H locs hq1 hI => ?_)
      rw [show (xH σ 5 k 0) = xH σ 5 k 0 from rfl, hgk] at hq1
      obtain ⟨hr1, hs1⟩ := hq1
      have hr1 : r1 = xR σ k := hr1
      have hx1 : gX σ1 = ((gX σ).1, (gX σ).2.1 + sumN (xR σ) k, (gX σ).2.2.1 + 0, (gX σ).2.2.2) := by rw [hs1]; rfl
      refine lv_if_eq (tgt := 73) S.1 S.2.1 dX3_passAnHour_60 (by decide) (fun cz_60 => ?_) (fun cz_60 => ?_)
      · refine lv_iinc (v := (nI (k + 1))) (lv' := [(3, .int (nI (k + 1))), (4, .ref (gB G (9 + k))), (0, .ref (gB G 0)), (1, .ref (gB G 2)), (2, .int (nI 20))]) S.1 S.2.1 dX3_passAnHour_73 hl (k := 4) rfl (nI_1 k) (by decide) rfl (fun ls hl => ?_)
        refine lv_goto (tgt := 45) S.1 S.2.1 dX3_passAnHour_76 (by decide) ?_
        exact ih (k + 1) (by omega) _ _ (by rw [hs1] at hI; rw [← xH_P0 (hr1.symm.trans cz_60)]; exact hI) ls (lv_sub hl [2, 3, 4, 0] rfl)
      · refine lv_aload_n S.1 S.2.1 dX3_passAnHour_63 rfl (lv_at hl 1 rfl) ?_
        refine lv_dup S.1 S.2.1 dX3_passAnHour_64 rfl ?_
        refine g_X3_X_alarmsRung S hI hx1 dX3_passAnHour_65 ?_
        refine lv_iconst (v := 1) S.1 S.2.1 dX3_passAnHour_68 (by decide) ?_
        refine lv_iadd S.1 S.2.1 dX3_passAnHour_69 ?_
        refine p_X3_X_alarmsRung S hI hx1 dX3_passAnHour_70 (fun σ2 H locs ey2 hz2 hI => ?_)
        refine lv_iinc (v := (nI (k + 1))) (lv' := [(3, .int (nI (k + 1))), (4, .ref (gB G (9 + k))), (0, .ref (gB G 0)), (1, .ref (gB G 2)), (2, .int (nI 20))]) S.1 S.2.1 dX3_passAnHour_73 hl (k := 4) rfl (nI_1 k) (by decide) rfl (fun ls hl => ?_)
        refine lv_goto (tgt := 45) S.1 S.2.1 dX3_passAnHour_76 (by decide) ?_
        exact ih (k + 1) (by omega) _ _ (by rw [ey2, hs1] at hI; rw [← xH_P1 ((xR_01 σ k).resolve_left (fun z9 => cz_60 (hr1.trans z9)))]; exact hI) ls (lv_sub hl [2, 3, 4, 0] rfl)
  have loop1 : ∀ (n : Nat) (k : Nat), k + n = 5 → ∀ (H : Heap) (locs : List Loc), Iv G (xH σ k 0 0) s H locs → ∀ ls : Array Slot, lv_has ls 5 [(0, .ref (gB G 0)), (1, .ref (gB G 1)), (2, .int (nI 5)), (3, .int (nI k))] → W p l e (rm 3 0 0) s m ([.ref (gB G 0)] : List Value).toArray below meth c H locs 0 0 (MQ below (Qv G (fun σ' => σ' = hourX σ)) ([.ref (gB G 0)] : List Value).toArray s 0 0 (gA G)) (F0 m 10 ls []) := by
    intro n
    induction n with
    | zero =>
      intro k hk H locs hI ls hl
      obtain rfl : k = 5 := by omega
      refine lv_iload_n S.1 S.2.1 dX3_passAnHour_10 rfl (lv_at hl 3 rfl) ?_
      refine lv_iload_n S.1 S.2.1 dX3_passAnHour_11 rfl (lv_at hl 2 rfl) ?_
      refine lv_icmp_ge (tgt := 35) S.1 S.2.1 dX3_passAnHour_12 (by decide) (fun cz_12 => ?_) (fun c9 => absurd (nI_le (Nat.le_refl 5) (by omega)) c9)
      refine lv_aload_n S.1 S.2.1 dX3_passAnHour_35 rfl (lv_at hl 0 rfl) ?_
      refine g_X3_X_promises S hI dX3_passAnHour_36 ?_
      refine lv_astore_n (lv' := [(1, .ref (gB G 2)), (0, .ref (gB G 0)), (2, .int (nI 5)), (3, .int (nI 5))]) S.1 S.2.1 dX3_passAnHour_39 rfl hl (by decide) rfl (fun ls hl => ?_)
      refine lv_aload_n S.1 S.2.1 dX3_passAnHour_40 rfl (lv_at hl 0 rfl) ?_
      refine n_PA S hI dX3_passAnHour_41 ?_
      refine lv_istore_n (lv' := [(2, .int (nI 20)), (1, .ref (gB G 2)), (0, .ref (gB G 0)), (3, .int (nI 5))]) S.1 S.2.1 dX3_passAnHour_42 rfl hl (by decide) rfl (fun ls hl => ?_)
      refine lv_iconst (v := (nI 0)) S.1 S.2.1 dX3_passAnHour_43 (by rfl) ?_
      refine lv_istore_n (lv' := [(3, .int (nI 0)), (2, .int (nI 20)), (1, .ref (gB G 2)), (0, .ref (gB G 0))]) S.1 S.2.1 dX3_passAnHour_44 rfl hl (by decide) rfl (fun ls hl => ?_)
      exact loop2 20 0 rfl _ _ hI ls (lv_sub hl [3, 2, 1, 0] rfl)
    | succ n ih =>
      intro k hk H locs hI ls hl
      have hk2 : k < 5 := by omega
      have hgk : gS (xH σ k 0 0) k = ((gS σ k).1, (gS σ k).2) := xS_ge σ (Nat.le_refl k)
      refine lv_iload_n S.1 S.2.1 dX3_passAnHour_10 rfl (lv_at hl 3 rfl) ?_
      refine lv_iload_n S.1 S.2.1 dX3_passAnHour_11 rfl (lv_at hl 2 rfl) ?_
      refine lv_icmp_ge (tgt := 35) S.1 S.2.1 dX3_passAnHour_12 (by decide) (fun c9 => absurd c9 (nI_ge hk2 (by omega))) (fun cz_12 => ?_)
      refine lv_aload_n S.1 S.2.1 dX3_passAnHour_15 rfl (lv_at hl 1 rfl) ?_
      refine lv_iload_n S.1 S.2.1 dX3_passAnHour_16 rfl (lv_at hl 3 rfl) ?_
      refine a_SA S hI hk2 dX3_passAnHour_17 ?_
      refine lv_astore (lv' := [(4, .ref (gB G (3 + k))), (0, .ref (gB G 0)), (1, .ref (gB G 1)), (2, .int (nI 5)), (3, .int (nI k))]) S.1 S.2.1 dX3_passAnHour_18 hl (by decide) rfl (fun ls hl => ?_)
      refine lv_aload S.1 S.2.1 dX3_passAnHour_20 (lv_at hl 0 rfl) ?_
      refine lv_aload_n S.1 S.2.1 dX3_passAnHour_22 rfl (lv_at hl 1 rfl) ?_
      refine g_X3_X_power S hI rfl dX3_passAnHour_23 ?_
      refine cl_v hI (rnVN (As := [.int ((gX σ).2.2.2)]) (rest := []) S hI (c_S_hour l G (xH σ k 0 0) (i := k) (by omega) hgk (gX σ).2.2.2) (cw_X3_X1_liveAnHour S.2.2.2.2 hI.1.2.2.2.2.2.2.2 ⟨Nat.le_of_ble_eq_true rfl, Nat.le_of_ble_eq_true rfl⟩) (rcS hI (by omega)) rfl hl.1 (Nat.le_of_ble_eq_true rfl) dX3_passAnHour_26 ⟨Nat.le_of_ble_eq_true rfl, Nat.le_of_ble_eq_true rfl⟩) (fun σ1 H locs hq1 hI => ?_)
      have hI : Iv G (xH σ (k + 1) 0 0) s H locs := by rw [hq1] at hI; rw [← xH_S]; exact hI
      refine lv_iinc (v := (nI (k + 1))) (lv' := [(3, .int (nI (k + 1))), (4, .ref (gB G (3 + k))), (0, .ref (gB G 0)), (1, .ref (gB G 1)), (2, .int (nI 5))]) S.1 S.2.1 dX3_passAnHour_29 hl (k := 4) rfl (nI_1 k) (by decide) rfl (fun ls hl => ?_)
      refine lv_goto (tgt := 10) S.1 S.2.1 dX3_passAnHour_32 (by decide) ?_
      exact ih (k + 1) (by omega) _ _ hI ls (lv_sub hl [2, 3, 4, 0] rfl)
  rw [← xH_0 σ] at hI
  refine lv_aload_n S.1 S.2.1 dX3_passAnHour_0 rfl (lv_at hl 0 rfl) ?_
  refine g_X3_X_shelves S hI dX3_passAnHour_1 ?_
  refine lv_astore_n (lv' := [(1, .ref (gB G 1)), (0, .ref (gB G 0))]) S.1 S.2.1 dX3_passAnHour_4 rfl hl (by decide) rfl (fun ls hl => ?_)
  refine lv_aload_n S.1 S.2.1 dX3_passAnHour_5 rfl (lv_at hl 0 rfl) ?_
  refine n_SA S hI dX3_passAnHour_6 ?_
  refine lv_istore_n (lv' := [(2, .int (nI 5)), (1, .ref (gB G 1)), (0, .ref (gB G 0))]) S.1 S.2.1 dX3_passAnHour_7 rfl hl (by decide) rfl (fun ls hl => ?_)
  refine lv_iconst (v := (nI 0)) S.1 S.2.1 dX3_passAnHour_8 (by rfl) ?_
  refine lv_istore_n (lv' := [(3, .int (nI 0)), (2, .int (nI 5)), (1, .ref (gB G 1)), (0, .ref (gB G 0))]) S.1 S.2.1 dX3_passAnHour_9 rfl hl (by decide) rfl (fun ls hl => ?_)
  exact loop1 5 0 rfl _ _ hI ls (lv_sub hl [3, 2, 1, 0] rfl)
set_option maxRecDepth 100000 in
set_option maxHeartbeats 4000000 in
theorem c_pass (l : Launch) (G : Gt) (σ : St) (hok : okP σ) {h : Nat} (h1 : 1 ≤ h) (hh100 : h ≤ 100) : Ct l G yX3_pass cX3_pass 4 (some .int) 4 0 0 [.ref (gB G 0), .int (nI h)] σ (Qi G (fun r σ' => r = (gX (hourXs h σ)).2.1 - (gX σ).2.1 ∧ σ' = hourXs h σ)) := by
  refine mt_intro (by decide +kernel) (Nat.le_of_ble_eq_true rfl) ?_
  intro p e s m below meth c S hr hlk hnm hI ls hl
  have hl : lv_has ls 4 [(0, .ref (gB G 0)), (1, .int (nI h))] := hl
  have loop : ∀ (n : Nat) (k : Nat), k + n = h → ∀ (H : Heap) (locs : List Loc), Iv G (hourXs k σ) s H locs → ∀ ls : Array Slot, lv_has ls 4 [(0, .ref (gB G 0)), (1, .int (nI h)), (2, .int ((gX σ).2.1)), (3, .int (nI k))] → W p l e (rm 4 0 0) s m ([.ref (gB G 0), .int (nI h)] : List Value).toArray below meth c H locs 0 0 (MQ below (Qi G (fun r σ' => r = (gX (hourXs h σ)).2.1 - (gX σ).2.1 ∧ σ' = hourXs h σ)) ([.ref (gB G 0), .int (nI h)] : List Value).toArray s 0 0 (gA G)) (F0 m 11 ls []) := by
    intro n
    induction n with
    | zero =>
      intro k hk H locs hI ls hl
      obtain rfl : k = h := by omega
      refine lv_iload_n S.1 S.2.1 dX3_pass_11 rfl (lv_at hl 3 rfl) ?_
      refine lv_iload_n S.1 S.2.1 dX3_pass_12 rfl (lv_at hl 1 rfl) ?_
      refine lv_icmp_ge (tgt := 26) S.1 S.2.1 dX3_pass_13 (by decide) (fun cz_13 => ?_) (fun c9 => absurd (nI_le (Nat.le_refl k) (by omega)) c9)
      refine lv_aload_n S.1 S.2.1 dX3_pass_26 rfl (lv_at hl 0 rfl) ?_
      refine g_X3_X_alarmsRung S hI (xEta (gX (hourXs k σ))) dX3_pass_27 ?_
      refine lv_iload_n S.1 S.2.1 dX3_pass_30 rfl (lv_at hl 2 rfl) ?_
      refine lv_isub S.1 S.2.1 dX3_pass_31 ?_
      exact xt_i S hI hr hlk (⟨rfl, rfl⟩) (by decide) (by decide) dX3_pass_32
    | succ n ih =>
      intro k hk H locs hI ls hl
      refine lv_iload_n S.1 S.2.1 dX3_pass_11 rfl (lv_at hl 3 rfl) ?_
      refine lv_iload_n S.1 S.2.1 dX3_pass_12 rfl (lv_at hl 1 rfl) ?_
      refine lv_icmp_ge (tgt := 26) S.1 S.2.1 dX3_pass_13 (by decide) (fun c9 => absurd c9 (nI_ge (by omega) (by omega))) (fun cz_13 => ?_)
      refine lv_aload_n S.1 S.2.1 dX3_pass_16 rfl (lv_at hl 0 rfl) ?_
      refine cl_v hI (rnV (As := []) (rest := []) S hI (c_passAnHour l G (hourXs k σ) (hok.hours k)) (cw_X3_X3_passAnHour S.2.2.2.2 ⟨Nat.le_of_ble_eq_true rfl, Nat.le_of_ble_eq_true rfl⟩) (rcX hI) rfl hl.1 (Nat.le_of_ble_eq_true rfl) dX3_pass_17 ⟨Nat.le_of_ble_eq_true rfl, Nat.le_of_ble_eq_true rfl⟩) (fun σ1 H locs hq1 hI => ?_)
      have hI : Iv G (hourXs (k + 1) σ) s H locs := by rw [hq1] at hI; exact hI
      refine lv_iinc (v := (nI (k + 1))) (lv' := [(3, .int (nI (k + 1))), (0, .ref (gB G 0)), (1, .int (nI h)), (2, .int ((gX σ).2.1))]) S.1 S.2.1 dX3_pass_20 hl (k := 3) rfl (nI_1 k) (by decide) rfl (fun ls hl => ?_)
      refine lv_goto (tgt := 11) S.1 S.2.1 dX3_pass_23 (by decide) ?_
      exact ih (k + 1) (by omega) _ _ hI ls (lv_sub hl [1, 2, 3, 0] rfl)
  refine lv_iload_n S.1 S.2.1 dX3_pass_0 rfl (lv_at hl 1 rfl) ?_
  refine cl_v hI (rnS (As := [.int (nI h)]) (rest := []) S hI (c_checkHours l G _ h1 hh100) (cw_X3_X3_checkHours S.2.2.2.2 ⟨Nat.le_of_ble_eq_true rfl, Nat.le_of_ble_eq_true rfl⟩) rfl hl.1 (Nat.le_of_ble_eq_true rfl) dX3_pass_1 ⟨Nat.le_of_ble_eq_true rfl, Nat.le_of_ble_eq_true rfl⟩) (fun σ1 H locs hq1 hI => ?_)
  rw [hq1] at hI
  refine lv_aload_n S.1 S.2.1 dX3_pass_4 rfl (lv_at hl 0 rfl) ?_
  refine g_X3_X_alarmsRung S hI (xEta (gX σ)) dX3_pass_5 ?_
  refine lv_istore_n (lv' := [(2, .int ((gX σ).2.1)), (0, .ref (gB G 0)), (1, .int (nI h))]) S.1 S.2.1 dX3_pass_8 rfl hl (by decide) rfl (fun ls hl => ?_)
  refine lv_iconst (v := (nI 0)) S.1 S.2.1 dX3_pass_9 (by rfl) ?_
  refine lv_istore_n (lv' := [(3, .int (nI 0)), (2, .int ((gX σ).2.1)), (0, .ref (gB G 0)), (1, .int (nI h))]) S.1 S.2.1 dX3_pass_10 rfl hl (by decide) rfl (fun ls hl => ?_)
  exact loop h 0 (by omega) _ _ hI ls (lv_sub hl [2, 3, 1, 0] rfl)
set_option maxRecDepth 100000 in
set_option maxHeartbeats 4000000 in
theorem c_hour (l : Launch) (G : Gt) (σ : St)  : Ct l G yX3_hour cX3_hour 1 (some .int) 1 0 0 [.ref (gB G 0)] σ (Qi G (fun r σ' => r = (gX σ).2.2.1 ∧ σ' = σ)) := by
  refine mt_intro (by decide +kernel) (Nat.le_of_ble_eq_true rfl) ?_
  intro p e s m below meth c S hr hlk hnm hI ls hl
  have hl : lv_has ls 1 [(0, .ref (gB G 0))] := hl
  refine lv_aload_n S.1 S.2.1 dX3_hour_0 rfl (lv_at hl 0 rfl) ?_
  refine g_X3_X_hoursGone S hI (xEta (gX σ)) dX3_hour_1 ?_
  exact xt_i S hI hr hlk (⟨rfl, rfl⟩) (by decide) (by decide) dX3_hour_4
set_option maxRecDepth 100000 in
set_option maxHeartbeats 4000000 in
theorem c_alarms (l : Launch) (G : Gt) (σ : St)  : Ct l G yX3_alarms cX3_alarms 1 (some .int) 1 0 0 [.ref (gB G 0)] σ (Qi G (fun r σ' => r = (gX σ).2.1 ∧ σ' = σ)) := by
  refine mt_intro (by decide +kernel) (Nat.le_of_ble_eq_true rfl) ?_
  intro p e s m below meth c S hr hlk hnm hI ls hl
  have hl : lv_has ls 1 [(0, .ref (gB G 0))] := hl
  refine lv_aload_n S.1 S.2.1 dX3_alarms_0 rfl (lv_at hl 0 rfl) ?_
  refine g_X3_X_alarmsRung S hI (xEta (gX σ)) dX3_alarms_1 ?_
  exact xt_i S hI hr hlk (⟨rfl, rfl⟩) (by decide) (by decide) dX3_alarms_4
set_option maxRecDepth 100000 in
set_option maxHeartbeats 4000000 in
theorem c_promises (l : Launch) (G : Gt) (σ : St)  : Ct l G yX3_promises cX3_promises 1 (some .int) 1 0 0 [.ref (gB G 0)] σ (Qi G (fun r σ' => r = (gX σ).1 ∧ σ' = σ)) := by
  refine mt_intro (by decide +kernel) (Nat.le_of_ble_eq_true rfl) ?_
  intro p e s m below meth c S hr hlk hnm hI ls hl
  have hl : lv_has ls 1 [(0, .ref (gB G 0))] := hl
  refine lv_aload_n S.1 S.2.1 dX3_promises_0 rfl (lv_at hl 0 rfl) ?_
  refine g_X3_X_made S hI (xEta (gX σ)) dX3_promises_1 ?_
  exact xt_i S hI hr hlk (⟨rfl, rfl⟩) (by decide) (by decide) dX3_promises_4
set_option maxRecDepth 100000 in
set_option maxHeartbeats 4000000 in
theorem c_hasPower (l : Launch) (G : Gt) (σ : St) (hw : (gX σ).2.2.2 = 0 ∨ (gX σ).2.2.2 = 1) : Ct l G yX3_hasPower cX3_hasPower 1 (some .boolean) 1 0 0 [.ref (gB G 0)] σ (Qi G (fun r σ' => r = (gX σ).2.2.2 ∧ σ' = σ)) := by
  refine mt_intro (by decide +kernel) (Nat.le_of_ble_eq_true rfl) ?_
  intro p e s m below meth c S hr hlk hnm hI ls hl
  have hl : lv_has ls 1 [(0, .ref (gB G 0))] := hl
  refine lv_aload_n S.1 S.2.1 dX3_hasPower_0 rfl (lv_at hl 0 rfl) ?_
  refine g_X3_X_power S hI (xEta (gX σ)) dX3_hasPower_1 ?_
  exact xt_z S hI hr hlk (by rcases hw with e9 | e9 <;> rw [e9] <;> rfl) (⟨rfl, rfl⟩) (by decide) (by decide) dX3_hasPower_4
set_option maxRecDepth 100000 in
set_option maxHeartbeats 4000000 in
theorem c_settingOf (l : Launch) (G : Gt) (σ : St) {k : Nat} (hk : k < 5) : Ct l G yX3_settingOf cX3_settingOf 2 (some .int) 2 0 0 [.ref (gB G 0), .int (nI k)] σ (Qi G (fun r σ' => r = (gS σ k).1 ∧ σ' = σ)) := by
  refine mt_intro (by decide +kernel) (Nat.le_of_ble_eq_true rfl) ?_
  intro p e s m below meth c S hr hlk hnm hI ls hl
  have hl : lv_has ls 2 [(0, .ref (gB G 0)), (1, .int (nI k))] := hl
  refine lv_aload_n S.1 S.2.1 dX3_settingOf_0 rfl (lv_at hl 0 rfl) ?_
  refine lv_iload_n S.1 S.2.1 dX3_settingOf_1 rfl (lv_at hl 1 rfl) ?_
  refine cl_q hI (rnV (As := [.int (nI k)]) (rest := []) S hI (c_findShelf l G _ hk) (cw_X3_X3_findShelf S.2.2.2.2 ⟨Nat.le_of_ble_eq_true rfl, Nat.le_of_ble_eq_true rfl⟩) (rcX hI) rfl hl.1 (Nat.le_of_ble_eq_true rfl) dX3_settingOf_2 ⟨Nat.le_of_ble_eq_true rfl, Nat.le_of_ble_eq_true rfl⟩) (fun r1 σ1 H locs hq1 hI => ?_)
  obtain ⟨hr1, hs1⟩ := hq1
  rw [hs1] at hI
  rw [hr1]
  show W _ _ _ _ _ _ _ _ _ _ _ _ _ _ _ (F0 _ _ _ (.ref (gB G (3 + k)) :: _))
  refine g_X3_S_setting S hI (by omega) (sEta (gS σ k)) dX3_settingOf_5 ?_
  exact xt_i S hI hr hlk (⟨rfl, rfl⟩) (by decide) (by decide) dX3_settingOf_8
set_option maxRecDepth 100000 in
set_option maxHeartbeats 4000000 in
theorem c_heatOn (l : Launch) (G : Gt) (σ : St) {k : Nat} (hk : k < 5) : Ct l G yX3_heatOn cX3_heatOn 2 (some .int) 2 0 0 [.ref (gB G 0), .int (nI k)] σ (Qi G (fun r σ' => r = (gS σ k).2 ∧ σ' = σ)) := by
  refine mt_intro (by decide +kernel) (Nat.le_of_ble_eq_true rfl) ?_
  intro p e s m below meth c S hr hlk hnm hI ls hl
  have hl : lv_has ls 2 [(0, .ref (gB G 0)), (1, .int (nI k))] := hl
  refine lv_aload_n S.1 S.2.1 dX3_heatOn_0 rfl (lv_at hl 0 rfl) ?_
  refine lv_iload_n S.1 S.2.1 dX3_heatOn_1 rfl (lv_at hl 1 rfl) ?_
  refine cl_q hI (rnV (As := [.int (nI k)]) (rest := []) S hI (c_findShelf l G _ hk) (cw_X3_X3_findShelf S.2.2.2.2 ⟨Nat.le_of_ble_eq_true rfl, Nat.le_of_ble_eq_true rfl⟩) (rcX hI) rfl hl.1 (Nat.le_of_ble_eq_true rfl) dX3_heatOn_2 ⟨Nat.le_of_ble_eq_true rfl, Nat.le_of_ble_eq_true rfl⟩) (fun r1 σ1 H locs hq1 hI => ?_)
  obtain ⟨hr1, hs1⟩ := hq1
  rw [hs1] at hI
  rw [hr1]
  show W _ _ _ _ _ _ _ _ _ _ _ _ _ _ _ (F0 _ _ _ (.ref (gB G (3 + k)) :: _))
  refine g_X3_S_heat S hI (by omega) (sEta (gS σ k)) dX3_heatOn_5 ?_
  exact xt_i S hI hr hlk (⟨rfl, rfl⟩) (by decide) (by decide) dX3_heatOn_8
set_option maxRecDepth 100000 in
set_option maxHeartbeats 4000000 in
theorem c_makerOf (l : Launch) (G : Gt) (σ : St) {i n : Nat} (hi : i < n) (hn : n ≤ 20) {ar hh pw : Int32} (hX : gX σ = (nI n, ar, hh, pw)) : Ct l G yX3_makerOf cX3_makerOf 2 (some .int) 2 0 0 [.ref (gB G 0), .int (nI i)] σ (Qi G (fun r σ' => r = (gP σ i).2.2.1 ∧ σ' = σ)) := by
  refine mt_intro (by decide +kernel) (Nat.le_of_ble_eq_true rfl) ?_
  intro p e s m below meth c S hr hlk hnm hI ls hl
  have hl : lv_has ls 2 [(0, .ref (gB G 0)), (1, .int (nI i))] := hl
  refine lv_aload_n S.1 S.2.1 dX3_makerOf_0 rfl (lv_at hl 0 rfl) ?_
  refine lv_iload_n S.1 S.2.1 dX3_makerOf_1 rfl (lv_at hl 1 rfl) ?_
  refine cl_q hI (rnV (As := [.int (nI i)]) (rest := []) S hI (c_findPromise l G _ hi hn hX) (cw_X3_X3_findPromise S.2.2.2.2 ⟨Nat.le_of_ble_eq_true rfl, Nat.le_of_ble_eq_true rfl⟩) (rcX hI) rfl hl.1 (Nat.le_of_ble_eq_true rfl) dX3_makerOf_2 ⟨Nat.le_of_ble_eq_true rfl, Nat.le_of_ble_eq_true rfl⟩) (fun r1 σ1 H locs hq1 hI => ?_)
  obtain ⟨hr1, hs1⟩ := hq1
  rw [hs1] at hI
  rw [hr1]
  show W _ _ _ _ _ _ _ _ _ _ _ _ _ _ _ (F0 _ _ _ (.ref (gB G (9 + i)) :: _))
  refine g_X3_P_maker S hI (by omega) (pEta (gP σ i)) dX3_makerOf_5 ?_
  exact xt_i S hI hr hlk (⟨rfl, rfl⟩) (by decide) (by decide) dX3_makerOf_8
set_option maxRecDepth 100000 in
set_option maxHeartbeats 4000000 in
theorem c_heatOf (l : Launch) (G : Gt) (σ : St) {i n : Nat} (hi : i < n) (hn : n ≤ 20) {ar hh pw : Int32} (hX : gX σ = (nI n, ar, hh, pw)) : Ct l G yX3_heatOf cX3_heatOf 2 (some .int) 2 0 0 [.ref (gB G 0), .int (nI i)] σ (Qi G (fun r σ' => r = (gP σ i).2.2.2.2.2 ∧ σ' = σ)) := by
  refine mt_intro (by decide +kernel) (Nat.le_of_ble_eq_true rfl) ?_
  intro p e s m below meth c S hr hlk hnm hI ls hl
  have hl : lv_has ls 2 [(0, .ref (gB G 0)), (1, .int (nI i))] := hl
  refine lv_aload_n S.1 S.2.1 dX3_heatOf_0 rfl (lv_at hl 0 rfl) ?_
  refine lv_iload_n S.1 S.2.1 dX3_heatOf_1 rfl (lv_at hl 1 rfl) ?_
  refine cl_q hI (rnV (As := [.int (nI i)]) (rest := []) S hI (c_findPromise l G _ hi hn hX) (cw_X3_X3_findPromise S.2.2.2.2 ⟨Nat.le_of_ble_eq_true rfl, Nat.le_of_ble_eq_true rfl⟩) (rcX hI) rfl hl.1 (Nat.le_of_ble_eq_true rfl) dX3_heatOf_2 ⟨Nat.le_of_ble_eq_true rfl, Nat.le_of_ble_eq_true rfl⟩) (fun r1 σ1 H locs hq1 hI => ?_)
  obtain ⟨hr1, hs1⟩ := hq1
  rw [hs1] at hI
  rw [hr1]
  show W _ _ _ _ _ _ _ _ _ _ _ _ _ _ _ (F0 _ _ _ (.ref (gB G (9 + i)) :: _))
  refine g_X3_P_heat S hI (by omega) (pEta (gP σ i)) dX3_heatOf_5 ?_
  exact xt_i S hI hr hlk (⟨rfl, rfl⟩) (by decide) (by decide) dX3_heatOf_8
set_option maxRecDepth 100000 in
set_option maxHeartbeats 4000000 in
theorem c_ageOf (l : Launch) (G : Gt) (σ : St) {i n : Nat} (hi : i < n) (hn : n ≤ 20) {ar hh pw : Int32} (hX : gX σ = (nI n, ar, hh, pw)) : Ct l G yX3_ageOf cX3_ageOf 2 (some .int) 2 0 0 [.ref (gB G 0), .int (nI i)] σ (Qi G (fun r σ' => r = (gP σ i).2.2.2.2.1 ∧ σ' = σ)) := by
  refine mt_intro (by decide +kernel) (Nat.le_of_ble_eq_true rfl) ?_
  intro p e s m below meth c S hr hlk hnm hI ls hl
  have hl : lv_has ls 2 [(0, .ref (gB G 0)), (1, .int (nI i))] := hl
  refine lv_aload_n S.1 S.2.1 dX3_ageOf_0 rfl (lv_at hl 0 rfl) ?_
  refine lv_iload_n S.1 S.2.1 dX3_ageOf_1 rfl (lv_at hl 1 rfl) ?_
  refine cl_q hI (rnV (As := [.int (nI i)]) (rest := []) S hI (c_findPromise l G _ hi hn hX) (cw_X3_X3_findPromise S.2.2.2.2 ⟨Nat.le_of_ble_eq_true rfl, Nat.le_of_ble_eq_true rfl⟩) (rcX hI) rfl hl.1 (Nat.le_of_ble_eq_true rfl) dX3_ageOf_2 ⟨Nat.le_of_ble_eq_true rfl, Nat.le_of_ble_eq_true rfl⟩) (fun r1 σ1 H locs hq1 hI => ?_)
  obtain ⟨hr1, hs1⟩ := hq1
  rw [hs1] at hI
  rw [hr1]
  show W _ _ _ _ _ _ _ _ _ _ _ _ _ _ _ (F0 _ _ _ (.ref (gB G (9 + i)) :: _))
  refine g_X3_P_age S hI (by omega) (pEta (gP σ i)) dX3_ageOf_5 ?_
  exact xt_i S hI hr hlk (⟨rfl, rfl⟩) (by decide) (by decide) dX3_ageOf_8
set_option maxRecDepth 100000 in
set_option maxHeartbeats 4000000 in
theorem c_hoursLeft (l : Launch) (G : Gt) (σ : St) {i n : Nat} (hi : i < n) (hn : n ≤ 20) {ar hh pw : Int32} (hX : gX σ = (nI n, ar, hh, pw)) : Ct l G yX3_hoursLeft cX3_hoursLeft 3 (some .int) 2 0 0 [.ref (gB G 0), .int (nI i)] σ (Qi G (fun r σ' => r = (gP σ i).2.2.2.1 - (gP σ i).2.2.2.2.1 ∧ σ' = σ)) := by
  refine mt_intro (by decide +kernel) (Nat.le_of_ble_eq_true rfl) ?_
  intro p e s m below meth c S hr hlk hnm hI ls hl
  have hl : lv_has ls 3 [(0, .ref (gB G 0)), (1, .int (nI i))] := hl
  refine lv_aload_n S.1 S.2.1 dX3_hoursLeft_0 rfl (lv_at hl 0 rfl) ?_
  refine lv_iload_n S.1 S.2.1 dX3_hoursLeft_1 rfl (lv_at hl 1 rfl) ?_
  refine cl_q hI (rnV (As := [.int (nI i)]) (rest := []) S hI (c_findPromise l G _ hi hn hX) (cw_X3_X3_findPromise S.2.2.2.2 ⟨Nat.le_of_ble_eq_true rfl, Nat.le_of_ble_eq_true rfl⟩) (rcX hI) rfl hl.1 (Nat.le_of_ble_eq_true rfl) dX3_hoursLeft_2 ⟨Nat.le_of_ble_eq_true rfl, Nat.le_of_ble_eq_true rfl⟩) (fun r1 σ1 H locs hq1 hI => ?_)
  obtain ⟨hr1, hs1⟩ := hq1
  rw [hs1] at hI
  rw [hr1]
  show W _ _ _ _ _ _ _ _ _ _ _ _ _ _ _ (F0 _ _ _ (.ref (gB G (9 + i)) :: _))
  refine lv_astore_n (lv' := [(2, .ref (gB G (9 + i))), (0, .ref (gB G 0)), (1, .int (nI i))]) S.1 S.2.1 dX3_hoursLeft_5 rfl hl (by decide) rfl (fun ls hl => ?_)
  refine lv_aload_n S.1 S.2.1 dX3_hoursLeft_6 rfl (lv_at hl 0 rfl) ?_
  refine g_X3_P_life S hI (by omega) (pEta (gP σ i)) dX3_hoursLeft_7 ?_
  refine lv_aload_n S.1 S.2.1 dX3_hoursLeft_10 rfl (lv_at hl 0 rfl) ?_
  refine g_X3_P_age S hI (by omega) (pEta (gP σ i)) dX3_hoursLeft_11 ?_
  refine lv_isub S.1 S.2.1 dX3_hoursLeft_14 ?_
  exact xt_i S hI hr hlk (⟨rfl, rfl⟩) (by decide) (by decide) dX3_hoursLeft_15
set_option maxRecDepth 100000 in
set_option maxHeartbeats 4000000 in
theorem c_isFrozen (l : Launch) (G : Gt) (σ : St) (hok : okP σ) {i n : Nat} (hi : i < n) (hn : n ≤ 20) {ar hh pw : Int32} (hX : gX σ = (nI n, ar, hh, pw)) : Ct l G yX3_isFrozen cX3_isFrozen 2 (some .boolean) 2 0 0 [.ref (gB G 0), .int (nI i)] σ (Qi G (fun r σ' => r = (if (gP σ i).1 = 2 then 1 else 0) ∧ σ' = σ)) := by
  refine mt_intro (by decide +kernel) (Nat.le_of_ble_eq_true rfl) ?_
  intro p e s m below meth c S hr hlk hnm hI ls hl
  have hl : lv_has ls 2 [(0, .ref (gB G 0)), (1, .int (nI i))] := hl
  refine lv_aload_n S.1 S.2.1 dX3_isFrozen_0 rfl (lv_at hl 0 rfl) ?_
  refine lv_iload_n S.1 S.2.1 dX3_isFrozen_1 rfl (lv_at hl 1 rfl) ?_
  refine cl_q hI (rnV (As := [.int (nI i)]) (rest := []) S hI (c_findPromise l G _ hi hn hX) (cw_X3_X3_findPromise S.2.2.2.2 ⟨Nat.le_of_ble_eq_true rfl, Nat.le_of_ble_eq_true rfl⟩) (rcX hI) rfl hl.1 (Nat.le_of_ble_eq_true rfl) dX3_isFrozen_2 ⟨Nat.le_of_ble_eq_true rfl, Nat.le_of_ble_eq_true rfl⟩) (fun r1 σ1 H locs hq1 hI => ?_)
  obtain ⟨hr1, hs1⟩ := hq1
  rw [hs1] at hI
  rw [hr1]
  show W _ _ _ _ _ _ _ _ _ _ _ _ _ _ _ (F0 _ _ _ (.ref (gB G (9 + i)) :: _))
  refine g_X3_P_stage S hI (by omega) (pEta (gP σ i)) dX3_isFrozen_5 ?_
  refine gs_X3_FROZEN S hI dX3_isFrozen_8 ?_
  refine ag_ne S hI (hok i (by omega)).1 (by decide) (tgt := 18) dX3_isFrozen_11 (by decide) (fun cz_11 => ?_) (fun cz_11 => ?_)
  · refine lv_iconst (v := 0) S.1 S.2.1 dX3_isFrozen_18 (by decide) ?_
    exact xt_z S hI hr hlk rfl (⟨(if_neg cz_11).symm, rfl⟩) (by decide) (by decide) dX3_isFrozen_19
  · refine lv_iconst (v := 1) S.1 S.2.1 dX3_isFrozen_14 (by decide) ?_
    refine lv_goto (tgt := 19) S.1 S.2.1 dX3_isFrozen_15 (by decide) ?_
    exact xt_z S hI hr hlk rfl (⟨(if_pos cz_11).symm, rfl⟩) (by decide) (by decide) dX3_isFrozen_19
set_option maxRecDepth 100000 in
set_option maxHeartbeats 4000000 in
theorem c_isThawed (l : Launch) (G : Gt) (σ : St) (hok : okP σ) {i n : Nat} (hi : i < n) (hn : n ≤ 20) {ar hh pw : Int32} (hX : gX σ = (nI n, ar, hh, pw)) : Ct l G yX3_isThawed cX3_isThawed 2 (some .boolean) 2 0 0 [.ref (gB G 0), .int (nI i)] σ (Qi G (fun r σ' => r = (if (gP σ i).1 = 3 then 1 else 0) ∧ σ' = σ)) := by
  refine mt_intro (by decide +kernel) (Nat.le_of_ble_eq_true rfl) ?_
  intro p e s m below meth c S hr hlk hnm hI ls hl
  have hl : lv_has ls 2 [(0, .ref (gB G 0)), (1, .int (nI i))] := hl
  refine lv_aload_n S.1 S.2.1 dX3_isThawed_0 rfl (lv_at hl 0 rfl) ?_
  refine lv_iload_n S.1 S.2.1 dX3_isThawed_1 rfl (lv_at hl 1 rfl) ?_
  refine cl_q hI (rnV (As := [.int (nI i)]) (rest := []) S hI (c_findPromise l G _ hi hn hX) (cw_X3_X3_findPromise S.2.2.2.2 ⟨Nat.le_of_ble_eq_true rfl, Nat.le_of_ble_eq_true rfl⟩) (rcX hI) rfl hl.1 (Nat.le_of_ble_eq_true rfl) dX3_isThawed_2 ⟨Nat.le_of_ble_eq_true rfl, Nat.le_of_ble_eq_true rfl⟩) (fun r1 σ1 H locs hq1 hI => ?_)
  obtain ⟨hr1, hs1⟩ := hq1
  rw [hs1] at hI
  rw [hr1]
  show W _ _ _ _ _ _ _ _ _ _ _ _ _ _ _ (F0 _ _ _ (.ref (gB G (9 + i)) :: _))
  refine g_X3_P_stage S hI (by omega) (pEta (gP σ i)) dX3_isThawed_5 ?_
  refine gs_X3_THAWED S hI dX3_isThawed_8 ?_
  refine ag_ne S hI (hok i (by omega)).1 (by decide) (tgt := 18) dX3_isThawed_11 (by decide) (fun cz_11 => ?_) (fun cz_11 => ?_)
  · refine lv_iconst (v := 0) S.1 S.2.1 dX3_isThawed_18 (by decide) ?_
    exact xt_z S hI hr hlk rfl (⟨(if_neg cz_11).symm, rfl⟩) (by decide) (by decide) dX3_isThawed_19
  · refine lv_iconst (v := 1) S.1 S.2.1 dX3_isThawed_14 (by decide) ?_
    refine lv_goto (tgt := 19) S.1 S.2.1 dX3_isThawed_15 (by decide) ?_
    exact xt_z S hI hr hlk rfl (⟨(if_pos cz_11).symm, rfl⟩) (by decide) (by decide) dX3_isThawed_19
set_option maxRecDepth 100000 in
set_option maxHeartbeats 4000000 in
theorem c_isKept (l : Launch) (G : Gt) (σ : St) (hok : okP σ) {i n : Nat} (hi : i < n) (hn : n ≤ 20) {ar hh pw : Int32} (hX : gX σ = (nI n, ar, hh, pw)) : Ct l G yX3_isKept cX3_isKept 2 (some .boolean) 2 0 0 [.ref (gB G 0), .int (nI i)] σ (Qi G (fun r σ' => r = (if (gP σ i).1 = 4 then 1 else 0) ∧ σ' = σ)) := by
  refine mt_intro (by decide +kernel) (Nat.le_of_ble_eq_true rfl) ?_
  intro p e s m below meth c S hr hlk hnm hI ls hl
  have hl : lv_has ls 2 [(0, .ref (gB G 0)), (1, .int (nI i))] := hl
  refine lv_aload_n S.1 S.2.1 dX3_isKept_0 rfl (lv_at hl 0 rfl) ?_
  refine lv_iload_n S.1 S.2.1 dX3_isKept_1 rfl (lv_at hl 1 rfl) ?_
  refine cl_q hI (rnV (As := [.int (nI i)]) (rest := []) S hI (c_findPromise l G _ hi hn hX) (cw_X3_X3_findPromise S.2.2.2.2 ⟨Nat.le_of_ble_eq_true rfl, Nat.le_of_ble_eq_true rfl⟩) (rcX hI) rfl hl.1 (Nat.le_of_ble_eq_true rfl) dX3_isKept_2 ⟨Nat.le_of_ble_eq_true rfl, Nat.le_of_ble_eq_true rfl⟩) (fun r1 σ1 H locs hq1 hI => ?_)
  obtain ⟨hr1, hs1⟩ := hq1
  rw [hs1] at hI
  rw [hr1]
  show W _ _ _ _ _ _ _ _ _ _ _ _ _ _ _ (F0 _ _ _ (.ref (gB G (9 + i)) :: _))
  refine g_X3_P_stage S hI (by omega) (pEta (gP σ i)) dX3_isKept_5 ?_
  refine gs_X3_KEPT S hI dX3_isKept_8 ?_
  refine ag_ne S hI (hok i (by omega)).1 (by decide) (tgt := 18) dX3_isKept_11 (by decide) (fun cz_11 => ?_) (fun cz_11 => ?_)
  · refine lv_iconst (v := 0) S.1 S.2.1 dX3_isKept_18 (by decide) ?_
    exact xt_z S hI hr hlk rfl (⟨(if_neg cz_11).symm, rfl⟩) (by decide) (by decide) dX3_isKept_19
  · refine lv_iconst (v := 1) S.1 S.2.1 dX3_isKept_14 (by decide) ?_
    refine lv_goto (tgt := 19) S.1 S.2.1 dX3_isKept_15 (by decide) ?_
    exact xt_z S hI hr hlk rfl (⟨(if_pos cz_11).symm, rfl⟩) (by decide) (by decide) dX3_isKept_19
set_option maxRecDepth 100000 in
set_option maxHeartbeats 4000000 in
theorem c_isExpired (l : Launch) (G : Gt) (σ : St) (hok : okP σ) {i n : Nat} (hi : i < n) (hn : n ≤ 20) {ar hh pw : Int32} (hX : gX σ = (nI n, ar, hh, pw)) : Ct l G yX3_isExpired cX3_isExpired 2 (some .boolean) 2 0 0 [.ref (gB G 0), .int (nI i)] σ (Qi G (fun r σ' => r = (if (gP σ i).1 = 5 then 1 else 0) ∧ σ' = σ)) := by
  refine mt_intro (by decide +kernel) (Nat.le_of_ble_eq_true rfl) ?_
  intro p e s m below meth c S hr hlk hnm hI ls hl
  have hl : lv_has ls 2 [(0, .ref (gB G 0)), (1, .int (nI i))] := hl
  refine lv_aload_n S.1 S.2.1 dX3_isExpired_0 rfl (lv_at hl 0 rfl) ?_
  refine lv_iload_n S.1 S.2.1 dX3_isExpired_1 rfl (lv_at hl 1 rfl) ?_
  refine cl_q hI (rnV (As := [.int (nI i)]) (rest := []) S hI (c_findPromise l G _ hi hn hX) (cw_X3_X3_findPromise S.2.2.2.2 ⟨Nat.le_of_ble_eq_true rfl, Nat.le_of_ble_eq_true rfl⟩) (rcX hI) rfl hl.1 (Nat.le_of_ble_eq_true rfl) dX3_isExpired_2 ⟨Nat.le_of_ble_eq_true rfl, Nat.le_of_ble_eq_true rfl⟩) (fun r1 σ1 H locs hq1 hI => ?_)
  obtain ⟨hr1, hs1⟩ := hq1
  rw [hs1] at hI
  rw [hr1]
  show W _ _ _ _ _ _ _ _ _ _ _ _ _ _ _ (F0 _ _ _ (.ref (gB G (9 + i)) :: _))
  refine g_X3_P_stage S hI (by omega) (pEta (gP σ i)) dX3_isExpired_5 ?_
  refine gs_X3_EXPIRED S hI dX3_isExpired_8 ?_
  refine ag_ne S hI (hok i (by omega)).1 (by decide) (tgt := 18) dX3_isExpired_11 (by decide) (fun cz_11 => ?_) (fun cz_11 => ?_)
  · refine lv_iconst (v := 0) S.1 S.2.1 dX3_isExpired_18 (by decide) ?_
    exact xt_z S hI hr hlk rfl (⟨(if_neg cz_11).symm, rfl⟩) (by decide) (by decide) dX3_isExpired_19
  · refine lv_iconst (v := 1) S.1 S.2.1 dX3_isExpired_14 (by decide) ?_
    refine lv_goto (tgt := 19) S.1 S.2.1 dX3_isExpired_15 (by decide) ?_
    exact xt_z S hI hr hlk rfl (⟨(if_pos cz_11).symm, rfl⟩) (by decide) (by decide) dX3_isExpired_19
set_option maxRecDepth 100000 in
set_option maxHeartbeats 4000000 in
theorem c_shelfOf (l : Launch) (G : Gt) (σ : St) (hok : okP σ) {i n : Nat} (hi : i < n) (hn : n ≤ 20) {ar hh pw : Int32} (hX : gX σ = (nI n, ar, hh, pw)) : Ct l G yX3_shelfOf cX3_shelfOf 3 (some .int) 2 0 0 [.ref (gB G 0), .int (nI i)] σ (Qi G (fun r σ' => r = (if (gP σ i).2.1 < 5 then nI (gP σ i).2.1 else -1) ∧ σ' = σ)) := by
  refine mt_intro (by decide +kernel) (Nat.le_of_ble_eq_true rfl) ?_
  intro p e s m below meth c S hr hlk hnm hI ls hl
  have hl : lv_has ls 3 [(0, .ref (gB G 0)), (1, .int (nI i))] := hl
  have hs5 := (hok i (by omega)).2
  by_cases hs : (gP σ i).2.1 < 6
  · skip
    refine lv_aload_n S.1 S.2.1 dX3_shelfOf_0 rfl (lv_at hl 0 rfl) ?_
    refine lv_iload_n S.1 S.2.1 dX3_shelfOf_1 rfl (lv_at hl 1 rfl) ?_
    refine cl_q hI (rnV (As := [.int (nI i)]) (rest := []) S hI (c_findPromise l G _ hi hn hX) (cw_X3_X3_findPromise S.2.2.2.2 ⟨Nat.le_of_ble_eq_true rfl, Nat.le_of_ble_eq_true rfl⟩) (rcX hI) rfl hl.1 (Nat.le_of_ble_eq_true rfl) dX3_shelfOf_2 ⟨Nat.le_of_ble_eq_true rfl, Nat.le_of_ble_eq_true rfl⟩) (fun r1 σ1 H locs hq1 hI => ?_)
    obtain ⟨hr1, hs1⟩ := hq1
    rw [hs1] at hI
    rw [hr1]
    show W _ _ _ _ _ _ _ _ _ _ _ _ _ _ _ (F0 _ _ _ (.ref (gB G (9 + i)) :: _))
    refine g_X3_P_shelf_s S hI (by omega) (pEta (gP σ i)) hs dX3_shelfOf_5 ?_
    refine lv_astore_n (lv' := [(2, .ref (gB G (3 + (gP σ i).2.1))), (0, .ref (gB G 0)), (1, .int (nI i))]) S.1 S.2.1 dX3_shelfOf_8 rfl hl (by decide) rfl (fun ls hl => ?_)
    refine lv_aload_n S.1 S.2.1 dX3_shelfOf_9 rfl (lv_at hl 0 rfl) ?_
    refine lv_ifnonnull (tgt := 17) S.1 S.2.1 dX3_shelfOf_10 (by decide) ?_
    refine lv_aload_n S.1 S.2.1 dX3_shelfOf_17 rfl (lv_at hl 0 rfl) ?_
    refine g_X3_S_number S hI (by omega) (sEta (gS σ ((gP σ i).2.1))) dX3_shelfOf_18 ?_
    exact xt_i S hI hr hlk (⟨rfl, rfl⟩) (by decide) (by decide) dX3_shelfOf_21
  · skip
    refine lv_aload_n S.1 S.2.1 dX3_shelfOf_0 rfl (lv_at hl 0 rfl) ?_
    refine lv_iload_n S.1 S.2.1 dX3_shelfOf_1 rfl (lv_at hl 1 rfl) ?_
    refine cl_q hI (rnV (As := [.int (nI i)]) (rest := []) S hI (c_findPromise l G _ hi hn hX) (cw_X3_X3_findPromise S.2.2.2.2 ⟨Nat.le_of_ble_eq_true rfl, Nat.le_of_ble_eq_true rfl⟩) (rcX hI) rfl hl.1 (Nat.le_of_ble_eq_true rfl) dX3_shelfOf_2 ⟨Nat.le_of_ble_eq_true rfl, Nat.le_of_ble_eq_true rfl⟩) (fun r1 σ1 H locs hq1 hI => ?_)
    obtain ⟨hr1, hs1⟩ := hq1
    rw [hs1] at hI
    rw [hr1]
    show W _ _ _ _ _ _ _ _ _ _ _ _ _ _ _ (F0 _ _ _ (.ref (gB G (9 + i)) :: _))
    refine g_X3_P_shelf_n S hI (by omega) (pEta (gP σ i)) hs dX3_shelfOf_5 ?_
    refine lv_astore_nN (lv' := [(2, .null), (0, .ref (gB G 0)), (1, .int (nI i))]) S.1 S.2.1 dX3_shelfOf_8 rfl hl (by decide) rfl (fun ls hl => ?_)
    refine lv_aload_nN S.1 S.2.1 dX3_shelfOf_9 rfl (lv_at hl 0 rfl) ?_
    refine lv_ifnonnullN S.1 S.2.1 dX3_shelfOf_10 ?_
    refine lv_iconst (v := (-1)) S.1 S.2.1 dX3_shelfOf_13 (by decide) ?_
    refine lv_goto (tgt := 21) S.1 S.2.1 dX3_shelfOf_14 (by decide) ?_
    exact xt_i S hI hr hlk (⟨(if_neg (by omega)).symm, rfl⟩) (by decide) (by decide) dX3_shelfOf_21
