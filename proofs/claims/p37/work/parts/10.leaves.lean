set_option maxRecDepth 100000 in
set_option maxHeartbeats 4000000 in
theorem c_openDoor (l : Launch) (G : Gt) (σ : St) {i : Nat} (hi : i < 6) {st ht : Int32} (hp : gS σ i = (st, ht)) : Ct l G yX1_openDoor cX1_openDoor 1 none 1 0 0 [.ref (gB G (3 + i))] σ (Qv G (fun σ' => σ' = setS σ i (st, openH ht))) := by
  refine mt_intro (by decide +kernel) (Nat.le_of_ble_eq_true rfl) ?_
  intro p e s m below meth c S hr hlk hnm hI ls hl
  have hl : lv_has ls 1 [(0, .ref (gB G (3 + i)))] := hl
  refine lv_aload_n S.1 S.2.1 dX1_openDoor_0 rfl (lv_at hl 0 rfl) ?_
  refine lv_aload_n S.1 S.2.1 dX1_openDoor_1 rfl (lv_at hl 0 rfl) ?_
  refine g_X1_S_heat S hI hi hp dX1_openDoor_2 ?_
  refine lv_iconst (v := 2) S.1 S.2.1 dX1_openDoor_5 (by decide) ?_
  refine lv_iadd S.1 S.2.1 dX1_openDoor_6 ?_
  refine lv_bipush (v := 20) S.1 S.2.1 dX1_openDoor_7 (by decide) ?_
  refine mt_X1_min S hl.1 ⟨Nat.le_of_ble_eq_true rfl, Nat.le_of_ble_eq_true rfl⟩ ⟨Nat.le_of_ble_eq_true rfl, Nat.le_of_ble_eq_true rfl⟩ dX1_openDoor_9 ?_
  refine p_X1_S_heat S hI hi hp dX1_openDoor_12 (fun σ1 H locs ey1 hz1 hI => ?_)
  exact xt_v S hI hr hlk (by rw [ey1]; rfl) (by decide) (by decide) dX1_openDoor_15
set_option maxRecDepth 100000 in
set_option maxHeartbeats 4000000 in
theorem c_S_hour (l : Launch) (G : Gt) (σ : St) {i : Nat} (hi : i < 6) {st ht : Int32} (hp : gS σ i = (st, ht)) (pw : Int32) : Ct l G yX1_liveAnHour cX1_liveAnHour 2 none 1 0 0 [.ref (gB G (3 + i)), .int pw] σ (Qv G (fun σ' => σ' = setS σ i (hourS pw (st, ht)))) := by
  refine mt_intro (by decide +kernel) (Nat.le_of_ble_eq_true rfl) ?_
  intro p e s m below meth c S hr hlk hnm hI ls hl
  have hl : lv_has ls 2 [(0, .ref (gB G (3 + i))), (1, .int pw)] := hl
  refine lv_iload_n S.1 S.2.1 dX1_liveAnHour_0 rfl (lv_at hl 1 rfl) ?_
  refine lv_if_ne (tgt := 22) S.1 S.2.1 dX1_liveAnHour_1 (by decide) (fun cz_1 => ?_) (fun cz_1 => ?_)
  · refine lv_aload_n S.1 S.2.1 dX1_liveAnHour_22 rfl (lv_at hl 0 rfl) ?_
    refine g_X1_S_heat S hI hi hp dX1_liveAnHour_23 ?_
    refine lv_aload_n S.1 S.2.1 dX1_liveAnHour_26 rfl (lv_at hl 0 rfl) ?_
    refine g_X1_S_setting S hI hi hp dX1_liveAnHour_27 ?_
    refine lv_icmp_ge (tgt := 53) S.1 S.2.1 dX1_liveAnHour_30 (by decide) (fun cz_30 => ?_) (fun cz_30 => ?_)
    · refine lv_aload_n S.1 S.2.1 dX1_liveAnHour_53 rfl (lv_at hl 0 rfl) ?_
      refine lv_aload_n S.1 S.2.1 dX1_liveAnHour_54 rfl (lv_at hl 0 rfl) ?_
      refine g_X1_S_heat S hI hi hp dX1_liveAnHour_55 ?_
      refine lv_iconst (v := 2) S.1 S.2.1 dX1_liveAnHour_58 (by decide) ?_
      refine lv_isub S.1 S.2.1 dX1_liveAnHour_59 ?_
      refine lv_aload_n S.1 S.2.1 dX1_liveAnHour_60 rfl (lv_at hl 0 rfl) ?_
      refine g_X1_S_setting S hI hi hp dX1_liveAnHour_61 ?_
      refine mt_X1_max S hl.1 ⟨Nat.le_of_ble_eq_true rfl, Nat.le_of_ble_eq_true rfl⟩ ⟨Nat.le_of_ble_eq_true rfl, Nat.le_of_ble_eq_true rfl⟩ dX1_liveAnHour_64 ?_
      refine p_X1_S_heat S hI hi hp dX1_liveAnHour_67 (fun σ1 H locs ey1 hz1 hI => ?_)
      exact xt_v S hI hr hlk (by rw [ey1]; simp only [hourS, cz_1, cz_30, if_true, if_false]; rfl) (by decide) (by decide) dX1_liveAnHour_70
    · refine lv_aload_n S.1 S.2.1 dX1_liveAnHour_33 rfl (lv_at hl 0 rfl) ?_
      refine lv_aload_n S.1 S.2.1 dX1_liveAnHour_34 rfl (lv_at hl 0 rfl) ?_
      refine g_X1_S_heat S hI hi hp dX1_liveAnHour_35 ?_
      refine lv_iconst (v := 2) S.1 S.2.1 dX1_liveAnHour_38 (by decide) ?_
      refine lv_iadd S.1 S.2.1 dX1_liveAnHour_39 ?_
      refine lv_aload_n S.1 S.2.1 dX1_liveAnHour_40 rfl (lv_at hl 0 rfl) ?_
      refine g_X1_S_setting S hI hi hp dX1_liveAnHour_41 ?_
      refine mt_X1_min S hl.1 ⟨Nat.le_of_ble_eq_true rfl, Nat.le_of_ble_eq_true rfl⟩ ⟨Nat.le_of_ble_eq_true rfl, Nat.le_of_ble_eq_true rfl⟩ dX1_liveAnHour_44 ?_
      refine p_X1_S_heat S hI hi hp dX1_liveAnHour_47 (fun σ2 H locs ey2 hz2 hI => ?_)
      refine lv_goto (tgt := 70) S.1 S.2.1 dX1_liveAnHour_50 (by decide) ?_
      exact xt_v S hI hr hlk (by rw [ey2]; simp only [hourS, cz_1, cz_30, if_true, if_false]; rfl) (by decide) (by decide) dX1_liveAnHour_70
  · refine lv_aload_n S.1 S.2.1 dX1_liveAnHour_4 rfl (lv_at hl 0 rfl) ?_
    refine lv_aload_n S.1 S.2.1 dX1_liveAnHour_5 rfl (lv_at hl 0 rfl) ?_
    refine g_X1_S_heat S hI hi hp dX1_liveAnHour_6 ?_
    refine lv_iconst (v := 1) S.1 S.2.1 dX1_liveAnHour_9 (by decide) ?_
    refine lv_iadd S.1 S.2.1 dX1_liveAnHour_10 ?_
    refine lv_bipush (v := 20) S.1 S.2.1 dX1_liveAnHour_11 (by decide) ?_
    refine mt_X1_min S hl.1 ⟨Nat.le_of_ble_eq_true rfl, Nat.le_of_ble_eq_true rfl⟩ ⟨Nat.le_of_ble_eq_true rfl, Nat.le_of_ble_eq_true rfl⟩ dX1_liveAnHour_13 ?_
    refine p_X1_S_heat S hI hi hp dX1_liveAnHour_16 (fun σ3 H locs ey3 hz3 hI => ?_)
    refine lv_goto (tgt := 70) S.1 S.2.1 dX1_liveAnHour_19 (by decide) ?_
    exact xt_v S hI hr hlk (by rw [ey3]; simp only [hourS, cz_1, if_true, if_false]; rfl) (by decide) (by decide) dX1_liveAnHour_70
set_option maxRecDepth 100000 in
set_option maxHeartbeats 4000000 in
theorem c_S_like (l : Launch) (G : Gt) (σ : St) {i j : Nat} (hi : i < 6) (hj : j < 6) (hij : j ≠ i) {st ht st2 ht2 : Int32} (hp : gS σ i = (st, ht)) (hp2 : gS σ j = (st2, ht2)) : Ct l G yX1_becomeLike cX1_becomeLike 2 none 1 0 0 [.ref (gB G (3 + i)), .ref (gB G (3 + j))] σ (Qv G (fun σ' => σ' = setS σ i (st2, ht2))) := by
  refine mt_intro (by decide +kernel) (Nat.le_of_ble_eq_true rfl) ?_
  intro p e s m below meth c S hr hlk hnm hI ls hl
  have hl : lv_has ls 2 [(0, .ref (gB G (3 + i))), (1, .ref (gB G (3 + j)))] := hl
  refine lv_aload_n S.1 S.2.1 dX1_becomeLike_0 rfl (lv_at hl 0 rfl) ?_
  refine lv_aload_n S.1 S.2.1 dX1_becomeLike_1 rfl (lv_at hl 1 rfl) ?_
  refine g_X1_S_setting S hI hj hp2 dX1_becomeLike_2 ?_
  refine p_X1_S_setting S hI hi hp dX1_becomeLike_5 (fun σ1 H locs ey1 hz1 hI => ?_)
  have hp2__2 : gS σ1 j = (st2, ht2) := by rw [ey1, gS_setS_ne _ _ hij]; exact hp2
  refine lv_aload_n S.1 S.2.1 dX1_becomeLike_8 rfl (lv_at hl 0 rfl) ?_
  refine lv_aload_n S.1 S.2.1 dX1_becomeLike_9 rfl (lv_at hl 1 rfl) ?_
  refine g_X1_S_heat S hI hj hp2__2 dX1_becomeLike_10 ?_
  refine p_X1_S_heat S hI hi hz1 dX1_becomeLike_13 (fun σ3 H locs ey3 hz3 hI => ?_)
  have hp2__4 : gS σ3 j = (st2, ht2) := by rw [ey3, gS_setS_ne _ _ hij]; exact hp2__2
  exact xt_v S hI hr hlk (by rw [ey3, ey1]; simp only [setS_setS]) (by decide) (by decide) dX1_becomeLike_16
set_option maxRecDepth 100000 in
set_option maxHeartbeats 4000000 in
theorem c_P_lay (l : Launch) (G : Gt) (σ : St) {i : Nat} (hi : i < 21) {g sh : Nat} {mk lf ag ht : Int32} (hp : gP σ i = (g, sh, mk, lf, ag, ht)) (a b : Int32) {k : Nat} (hk : k < 6) : Ct l G yX0_layAnew cX0_layAnew 4 none 1 0 0 [.ref (gB G (9 + i)), .int a, .int b, .ref (gB G (3 + k))] σ (Qv G (fun σ' => σ' = setP σ i (1, k, a, b, 0, 20))) := by
  refine mt_intro (by decide +kernel) (Nat.le_of_ble_eq_true rfl) ?_
  intro p e s m below meth c S hr hlk hnm hI ls hl
  have hl : lv_has ls 4 [(0, .ref (gB G (9 + i))), (1, .int a), (2, .int b), (3, .ref (gB G (3 + k)))] := hl
  refine lv_aload_n S.1 S.2.1 dX0_layAnew_0 rfl (lv_at hl 0 rfl) ?_
  refine gs_X0_FRESH S hI dX0_layAnew_1 ?_
  refine p_X0_P_stage S hI hi hp dX0_layAnew_4 (fun σ1 H locs ey1 hz1 hI => ?_)
  refine lv_aload_n S.1 S.2.1 dX0_layAnew_7 rfl (lv_at hl 0 rfl) ?_
  refine lv_aload_n S.1 S.2.1 dX0_layAnew_8 rfl (lv_at hl 3 rfl) ?_
  refine p_X0_P_shelf_s S hI hi hz1 hk dX0_layAnew_9 (fun σ2 H locs ey2 hz2 hI => ?_)
  refine lv_aload_n S.1 S.2.1 dX0_layAnew_12 rfl (lv_at hl 0 rfl) ?_
  refine lv_iload_n S.1 S.2.1 dX0_layAnew_13 rfl (lv_at hl 1 rfl) ?_
  refine p_X0_P_maker S hI hi hz2 dX0_layAnew_14 (fun σ3 H locs ey3 hz3 hI => ?_)
  refine lv_aload_n S.1 S.2.1 dX0_layAnew_17 rfl (lv_at hl 0 rfl) ?_
  refine lv_iload_n S.1 S.2.1 dX0_layAnew_18 rfl (lv_at hl 2 rfl) ?_
  refine p_X0_P_life S hI hi hz3 dX0_layAnew_19 (fun σ4 H locs ey4 hz4 hI => ?_)
  refine lv_aload_n S.1 S.2.1 dX0_layAnew_22 rfl (lv_at hl 0 rfl) ?_
  refine lv_iconst (v := 0) S.1 S.2.1 dX0_layAnew_23 (by decide) ?_
  refine p_X0_P_age S hI hi hz4 dX0_layAnew_24 (fun σ5 H locs ey5 hz5 hI => ?_)
  refine lv_aload_n S.1 S.2.1 dX0_layAnew_27 rfl (lv_at hl 0 rfl) ?_
  refine lv_bipush (v := 20) S.1 S.2.1 dX0_layAnew_28 (by decide) ?_
  refine p_X0_P_heat S hI hi hz5 dX0_layAnew_30 (fun σ6 H locs ey6 hz6 hI => ?_)
  exact xt_v S hI hr hlk (by rw [ey6, ey5, ey4, ey3, ey2, ey1]; simp only [setP_setP]) (by decide) (by decide) dX0_layAnew_33
set_option maxRecDepth 100000 in
set_option maxHeartbeats 4000000 in
theorem c_P_like (l : Launch) (G : Gt) (σ : St) {i j : Nat} (hi : i < 21) (hj : j < 21) (hij : j ≠ i) {g sh : Nat} {mk lf ag ht : Int32} (hp : gP σ i = (g, sh, mk, lf, ag, ht)) {g2 sh2 : Nat} {mk2 lf2 ag2 ht2 : Int32} (hp2 : gP σ j = (g2, sh2, mk2, lf2, ag2, ht2)) {k : Nat} (hk : k < 6) : Ct l G yX0_becomeLike cX0_becomeLike 3 none 1 0 0 [.ref (gB G (9 + i)), .ref (gB G (9 + j)), .ref (gB G (3 + k))] σ (Qv G (fun σ' => σ' = setP σ i (g2, k, mk2, lf2, ag2, ht2))) := by
  refine mt_intro (by decide +kernel) (Nat.le_of_ble_eq_true rfl) ?_
  intro p e s m below meth c S hr hlk hnm hI ls hl
  have hl : lv_has ls 3 [(0, .ref (gB G (9 + i))), (1, .ref (gB G (9 + j))), (2, .ref (gB G (3 + k)))] := hl
  refine lv_aload_n S.1 S.2.1 dX0_becomeLike_0 rfl (lv_at hl 0 rfl) ?_
  refine lv_aload_n S.1 S.2.1 dX0_becomeLike_1 rfl (lv_at hl 1 rfl) ?_
  refine g_X0_P_stage S hI hj hp2 dX0_becomeLike_2 ?_
  refine p_X0_P_stage S hI hi hp dX0_becomeLike_5 (fun σ1 H locs ey1 hz1 hI => ?_)
  have hp2__2 : gP σ1 j = (g2, sh2, mk2, lf2, ag2, ht2) := by rw [ey1, gP_setP_ne _ _ hij]; exact hp2
  refine lv_aload_n S.1 S.2.1 dX0_becomeLike_8 rfl (lv_at hl 0 rfl) ?_
  refine lv_aload_n S.1 S.2.1 dX0_becomeLike_9 rfl (lv_at hl 2 rfl) ?_
  refine p_X0_P_shelf_s S hI hi hz1 hk dX0_becomeLike_10 (fun σ3 H locs ey3 hz3 hI => ?_)
  have hp2__4 : gP σ3 j = (g2, sh2, mk2, lf2, ag2, ht2) := by rw [ey3, gP_setP_ne _ _ hij]; exact hp2__2
  refine lv_aload_n S.1 S.2.1 dX0_becomeLike_13 rfl (lv_at hl 0 rfl) ?_
  refine lv_aload_n S.1 S.2.1 dX0_becomeLike_14 rfl (lv_at hl 1 rfl) ?_
  refine g_X0_P_maker S hI hj hp2__4 dX0_becomeLike_15 ?_
  refine p_X0_P_maker S hI hi hz3 dX0_becomeLike_18 (fun σ5 H locs ey5 hz5 hI => ?_)
  have hp2__6 : gP σ5 j = (g2, sh2, mk2, lf2, ag2, ht2) := by rw [ey5, gP_setP_ne _ _ hij]; exact hp2__4
  refine lv_aload_n S.1 S.2.1 dX0_becomeLike_21 rfl (lv_at hl 0 rfl) ?_
  refine lv_aload_n S.1 S.2.1 dX0_becomeLike_22 rfl (lv_at hl 1 rfl) ?_
  refine g_X0_P_life S hI hj hp2__6 dX0_becomeLike_23 ?_
  refine p_X0_P_life S hI hi hz5 dX0_becomeLike_26 (fun σ7 H locs ey7 hz7 hI => ?_)
  have hp2__8 : gP σ7 j = (g2, sh2, mk2, lf2, ag2, ht2) := by rw [ey7, gP_setP_ne _ _ hij]; exact hp2__6
  refine lv_aload_n S.1 S.2.1 dX0_becomeLike_29 rfl (lv_at hl 0 rfl) ?_
  refine lv_aload_n S.1 S.2.1 dX0_becomeLike_30 rfl (lv_at hl 1 rfl) ?_
  refine g_X0_P_age S hI hj hp2__8 dX0_becomeLike_31 ?_
  refine p_X0_P_age S hI hi hz7 dX0_becomeLike_34 (fun σ9 H locs ey9 hz9 hI => ?_)
  have hp2__10 : gP σ9 j = (g2, sh2, mk2, lf2, ag2, ht2) := by rw [ey9, gP_setP_ne _ _ hij]; exact hp2__8
  refine lv_aload_n S.1 S.2.1 dX0_becomeLike_37 rfl (lv_at hl 0 rfl) ?_
  refine lv_aload_n S.1 S.2.1 dX0_becomeLike_38 rfl (lv_at hl 1 rfl) ?_
  refine g_X0_P_heat S hI hj hp2__10 dX0_becomeLike_39 ?_
  refine p_X0_P_heat S hI hi hz9 dX0_becomeLike_42 (fun σ11 H locs ey11 hz11 hI => ?_)
  have hp2__12 : gP σ11 j = (g2, sh2, mk2, lf2, ag2, ht2) := by rw [ey11, gP_setP_ne _ _ hij]; exact hp2__10
  exact xt_v S hI hr hlk (by rw [ey11, ey9, ey7, ey5, ey3, ey1]; simp only [setP_setP]) (by decide) (by decide) dX0_becomeLike_45
set_option maxRecDepth 100000 in
set_option maxHeartbeats 4000000 in
theorem c_P_leave (l : Launch) (G : Gt) (σ : St) {i : Nat} (hi : i < 21) {g sh : Nat} {mk lf ag ht : Int32} (hp : gP σ i = (g, sh, mk, lf, ag, ht)) (k : Nat) : Ct l G yX0_leaveAs cX0_leaveAs 2 none 1 0 0 [.ref (gB G (9 + i)), .ref (gE G k)] σ (Qv G (fun σ' => σ' = setP σ i (k, 6, mk, lf, ag, ht))) := by
  refine mt_intro (by decide +kernel) (Nat.le_of_ble_eq_true rfl) ?_
  intro p e s m below meth c S hr hlk hnm hI ls hl
  have hl : lv_has ls 2 [(0, .ref (gB G (9 + i))), (1, .ref (gE G k))] := hl
  refine lv_aload_n S.1 S.2.1 dX0_leaveAs_0 rfl (lv_at hl 0 rfl) ?_
  refine lv_aload_n S.1 S.2.1 dX0_leaveAs_1 rfl (lv_at hl 1 rfl) ?_
  refine p_X0_P_stage S hI hi hp dX0_leaveAs_2 (fun σ1 H locs ey1 hz1 hI => ?_)
  refine lv_aload_n S.1 S.2.1 dX0_leaveAs_5 rfl (lv_at hl 0 rfl) ?_
  refine lv_null S.1 S.2.1 dX0_leaveAs_6 ?_
  refine p_X0_P_shelf_n S hI hi hz1 dX0_leaveAs_7 (fun σ2 H locs ey2 hz2 hI => ?_)
  exact xt_v S hI hr hlk (by rw [ey2, ey1]; simp only [setP_setP]) (by decide) (by decide) dX0_leaveAs_10
set_option maxRecDepth 100000 in
set_option maxHeartbeats 4000000 in
theorem c_P_draw (l : Launch) (G : Gt) (σ : St) {i : Nat} (hi : i < 21) {g sh : Nat} {mk lf ag ht : Int32} (hp : gP σ i = (g, sh, mk, lf, ag, ht)) (to : Int32) : Ct l G yX0_drawNearTo cX0_drawNearTo 4 none 1 0 0 [.ref (gB G (9 + i)), .int to] σ (Qv G (fun σ' => σ' = setP σ i (g, sh, mk, lf, ag, draw to ht))) := by
  refine mt_intro (by decide +kernel) (Nat.le_of_ble_eq_true rfl) ?_
  intro p e s m below meth c S hr hlk hnm hI ls hl
  have hl : lv_has ls 4 [(0, .ref (gB G (9 + i))), (1, .int to)] := hl
  refine lv_iload_n S.1 S.2.1 dX0_drawNearTo_0 rfl (lv_at hl 1 rfl) ?_
  refine lv_aload_n S.1 S.2.1 dX0_drawNearTo_1 rfl (lv_at hl 0 rfl) ?_
  refine g_X0_P_heat S hI hi hp dX0_drawNearTo_2 ?_
  refine lv_isub S.1 S.2.1 dX0_drawNearTo_5 ?_
  refine lv_istore_n (lv' := [(2, .int (to - ht)), (0, .ref (gB G (9 + i))), (1, .int to)]) S.1 S.2.1 dX0_drawNearTo_6 rfl hl (by decide) rfl (fun ls hl => ?_)
  refine lv_iload_n S.1 S.2.1 dX0_drawNearTo_7 rfl (lv_at hl 0 rfl) ?_
  refine lv_iconst (v := 2) S.1 S.2.1 dX0_drawNearTo_8 (by decide) ?_
  refine lv_idiv S.1 S.2.1 dX0_drawNearTo_9 (by decide) ?_
  refine lv_istore_n (lv' := [(3, .int ((to - ht) / 2)), (2, .int (to - ht)), (0, .ref (gB G (9 + i))), (1, .int to)]) S.1 S.2.1 dX0_drawNearTo_10 rfl hl (by decide) rfl (fun ls hl => ?_)
  refine lv_aload_n S.1 S.2.1 dX0_drawNearTo_11 rfl (lv_at hl 2 rfl) ?_
  refine lv_dup S.1 S.2.1 dX0_drawNearTo_12 rfl ?_
  refine g_X0_P_heat S hI hi hp dX0_drawNearTo_13 ?_
  refine lv_iload_n S.1 S.2.1 dX0_drawNearTo_16 rfl (lv_at hl 0 rfl) ?_
  refine lv_if_ne (tgt := 24) S.1 S.2.1 dX0_drawNearTo_17 (by decide) (fun cz_17 => ?_) (fun cz_17 => ?_)
  · refine lv_iload_n S.1 S.2.1 dX0_drawNearTo_24 rfl (lv_at hl 0 rfl) ?_
    refine lv_iadd S.1 S.2.1 dX0_drawNearTo_25 ?_
    refine p_X0_P_heat S hI hi hp dX0_drawNearTo_26 (fun σ1 H locs ey1 hz1 hI => ?_)
    exact xt_v S hI hr hlk (by rw [ey1]; simp only [draw, cz_17, if_true, if_false]) (by decide) (by decide) dX0_drawNearTo_29
  · refine lv_iload_n S.1 S.2.1 dX0_drawNearTo_20 rfl (lv_at hl 1 rfl) ?_
    refine lv_goto (tgt := 25) S.1 S.2.1 dX0_drawNearTo_21 (by decide) ?_
    refine lv_iadd S.1 S.2.1 dX0_drawNearTo_25 ?_
    refine p_X0_P_heat S hI hi hp dX0_drawNearTo_26 (fun σ2 H locs ey2 hz2 hI => ?_)
    exact xt_v S hI hr hlk (by rw [ey2]; simp only [draw, cz_17, if_true, if_false]) (by decide) (by decide) dX0_drawNearTo_29
set_option maxRecDepth 100000 in
set_option maxHeartbeats 4000000 in
theorem c_P_hour_s (l : Launch) (G : Gt) (σ : St) {i : Nat} (hi : i < 21) {g sh : Nat} {mk lf ag ht : Int32} (hp : gP σ i = (g, sh, mk, lf, ag, ht)) (hg : g < 6) (hs : sh < 6) {st to : Int32} (hq : gS σ sh = (st, to)) : Ct l G yX0_liveAnHour cX0_liveAnHour 2 (some .boolean) 2 0 0 [.ref (gB G (9 + i))] σ (Qi G (fun r σ' => r = ringP to (g, sh, mk, lf, ag, ht) ∧ σ' = setP σ i (hourP to (g, sh, mk, lf, ag, ht)))) := by
  refine mt_intro (by decide +kernel) (Nat.le_of_ble_eq_true rfl) ?_
  intro p e s m below meth c S hr hlk hnm hI ls hl
  have hl : lv_has ls 2 [(0, .ref (gB G (9 + i)))] := hl
  refine lv_aload_n S.1 S.2.1 dX0_liveAnHour_0 rfl (lv_at hl 0 rfl) ?_
  refine g_X0_P_shelf_s S hI hi hp hs dX0_liveAnHour_1 ?_
  refine lv_ifnonnull (tgt := 9) S.1 S.2.1 dX0_liveAnHour_4 (by decide) ?_
  refine lv_aload_n S.1 S.2.1 dX0_liveAnHour_9 rfl (lv_at hl 0 rfl) ?_
  refine lv_aload_n S.1 S.2.1 dX0_liveAnHour_10 rfl (lv_at hl 0 rfl) ?_
  refine g_X0_P_shelf_s S hI hi hp hs dX0_liveAnHour_11 ?_
  refine g_X0_S_heat S hI hs hq dX0_liveAnHour_14 ?_
  refine cl_v hI (rnV (As := [.int to]) (rest := []) S hI (c_P_draw l G _ hi hp _) (cw_X0_X0_drawNearTo S.2.2.2.2 ⟨Nat.le_of_ble_eq_true rfl, Nat.le_of_ble_eq_true rfl⟩) (rcP hI hi) rfl hl.1 (Nat.le_of_ble_eq_true rfl) dX0_liveAnHour_17 ⟨Nat.le_of_ble_eq_true rfl, Nat.le_of_ble_eq_true rfl⟩) (fun σ1 H locs hq1 hI => ?_)
  have ez1 := hq1
  have hP1 : gP σ1 i = (g, sh, mk, lf, ag, (draw to ht)) := by rw [ez1]; exact gP_setP _ _ _
  have hq__2 : gS σ1 sh = (st, to) := by rw [ez1]; exact hq
  refine lv_aload_n S.1 S.2.1 dX0_liveAnHour_20 rfl (lv_at hl 0 rfl) ?_
  refine g_X0_P_stage S hI hi hP1 dX0_liveAnHour_21 ?_
  refine gs_X0_FROZEN S hI dX0_liveAnHour_24 ?_
  refine ag_ne S hI hg (by decide) (tgt := 43) dX0_liveAnHour_27 (by decide) (fun cz_27 => ?_) (fun cz_27 => ?_)
  · refine lv_iconst (v := 0) S.1 S.2.1 dX0_liveAnHour_43 (by decide) ?_
    refine lv_istore_n (lv' := [(1, .int 0), (0, .ref (gB G (9 + i)))]) S.1 S.2.1 dX0_liveAnHour_44 rfl hl (by decide) rfl (fun ls hl => ?_)
    refine lv_iload_n S.1 S.2.1 dX0_liveAnHour_45 rfl (lv_at hl 0 rfl) ?_
    refine lv_if_eq (tgt := 59) S.1 S.2.1 dX0_liveAnHour_46 (by decide) (fun _ => ?_) (fun c9 => absurd c9 (by decide))
    refine lv_aload_n S.1 S.2.1 dX0_liveAnHour_59 rfl (lv_at hl 1 rfl) ?_
    refine g_X0_P_stage S hI hi hP1 dX0_liveAnHour_60 ?_
    refine gs_X0_FRESH S hI dX0_liveAnHour_63 ?_
    refine ag_ne S hI hg (by decide) (tgt := 85) dX0_liveAnHour_66 (by decide) (fun cz_66 => ?_) (fun cz_66 => ?_)
    · refine lv_aload_n S.1 S.2.1 dX0_liveAnHour_85 rfl (lv_at hl 1 rfl) ?_
      refine g_X0_P_stage S hI hi hP1 dX0_liveAnHour_86 ?_
      refine gs_X0_FROZEN S hI dX0_liveAnHour_89 ?_
      refine ag_eq S hI hg (by decide) (tgt := 123) dX0_liveAnHour_92 (by decide) (fun cz_92 => ?_) (fun cz_92 => ?_)
      · refine lv_iload_n S.1 S.2.1 dX0_liveAnHour_123 rfl (lv_at hl 0 rfl) ?_
        exact xt_z S hI hr hlk rfl (absurd cz_92 cz_27) (by decide) (by decide) dX0_liveAnHour_124
      · refine lv_aload_n S.1 S.2.1 dX0_liveAnHour_95 rfl (lv_at hl 1 rfl) ?_
        refine lv_dup S.1 S.2.1 dX0_liveAnHour_96 rfl ?_
        refine g_X0_P_age S hI hi hP1 dX0_liveAnHour_97 ?_
        refine lv_iconst (v := 1) S.1 S.2.1 dX0_liveAnHour_100 (by decide) ?_
        refine lv_iadd S.1 S.2.1 dX0_liveAnHour_101 ?_
        refine p_X0_P_age S hI hi hP1 dX0_liveAnHour_102 (fun σ3 H locs ey3 hz3 hI => ?_)
        have hq__4 : gS σ3 sh = (st, to) := by rw [ey3]; exact hq__2
        refine lv_aload_n S.1 S.2.1 dX0_liveAnHour_105 rfl (lv_at hl 1 rfl) ?_
        refine g_X0_P_age S hI hi hz3 dX0_liveAnHour_106 ?_
        refine lv_aload_n S.1 S.2.1 dX0_liveAnHour_109 rfl (lv_at hl 1 rfl) ?_
        refine g_X0_P_life S hI hi hz3 dX0_liveAnHour_110 ?_
        refine lv_icmp_lt (tgt := 123) S.1 S.2.1 dX0_liveAnHour_113 (by decide) (fun cz_113 => ?_) (fun cz_113 => ?_)
        · refine lv_iload_n S.1 S.2.1 dX0_liveAnHour_123 rfl (lv_at hl 0 rfl) ?_
          exact xt_z S hI hr hlk rfl (by rw [ey3, ez1]; simp [ringP, hourP, cool, older, setP_setP, hs, cz_27, cz_66, cz_92, cz_113]) (by decide) (by decide) dX0_liveAnHour_124
        · refine lv_aload_n S.1 S.2.1 dX0_liveAnHour_116 rfl (lv_at hl 1 rfl) ?_
          refine gs_X0_EXPIRED S hI dX0_liveAnHour_117 ?_
          refine cl_v hI (rnV (As := [.ref (gE G 5)]) (rest := []) S hI (c_P_leave l G _ hi hz3 _) (cw_X0_X0_leaveAs S.2.2.2.2 ⟨Nat.le_of_ble_eq_true rfl, Nat.le_of_ble_eq_true rfl⟩) (rcP hI hi) rfl hl.1 (Nat.le_of_ble_eq_true rfl) dX0_liveAnHour_120 ⟨Nat.le_of_ble_eq_true rfl, Nat.le_of_ble_eq_true rfl⟩) (fun σ5 H locs hq5 hI => ?_)
          have ez5 := hq5
          have hP5 : gP σ5 i = (5, 6, mk, lf, (ag + 1), (draw to ht)) := by rw [ez5]; exact gP_setP _ _ _
          have hq__6 : gS σ5 sh = (st, to) := by rw [ez5]; exact hq__4
          refine lv_iload_n S.1 S.2.1 dX0_liveAnHour_123 rfl (lv_at hl 0 rfl) ?_
          exact xt_z S hI hr hlk rfl (by rw [ez5, ey3, ez1]; simp [ringP, hourP, cool, older, setP_setP, hs, cz_27, cz_66, cz_92, cz_113]) (by decide) (by decide) dX0_liveAnHour_124
    · refine lv_aload_n S.1 S.2.1 dX0_liveAnHour_69 rfl (lv_at hl 1 rfl) ?_
      refine g_X0_P_heat S hI hi hP1 dX0_liveAnHour_70 ?_
      refine lv_bipush (v := (-10)) S.1 S.2.1 dX0_liveAnHour_73 (by decide) ?_
      refine lv_icmp_gt (tgt := 85) S.1 S.2.1 dX0_liveAnHour_75 (by decide) (fun cz_75 => ?_) (fun cz_75 => ?_)
      · refine lv_aload_n S.1 S.2.1 dX0_liveAnHour_85 rfl (lv_at hl 1 rfl) ?_
        refine g_X0_P_stage S hI hi hP1 dX0_liveAnHour_86 ?_
        refine gs_X0_FROZEN S hI dX0_liveAnHour_89 ?_
        refine ag_eq S hI hg (by decide) (tgt := 123) dX0_liveAnHour_92 (by decide) (fun cz_92 => ?_) (fun cz_92 => ?_)
        · refine lv_iload_n S.1 S.2.1 dX0_liveAnHour_123 rfl (lv_at hl 0 rfl) ?_
          exact xt_z S hI hr hlk rfl (absurd cz_92 cz_27) (by decide) (by decide) dX0_liveAnHour_124
        · refine lv_aload_n S.1 S.2.1 dX0_liveAnHour_95 rfl (lv_at hl 1 rfl) ?_
          refine lv_dup S.1 S.2.1 dX0_liveAnHour_96 rfl ?_
          refine g_X0_P_age S hI hi hP1 dX0_liveAnHour_97 ?_
          refine lv_iconst (v := 1) S.1 S.2.1 dX0_liveAnHour_100 (by decide) ?_
          refine lv_iadd S.1 S.2.1 dX0_liveAnHour_101 ?_
          refine p_X0_P_age S hI hi hP1 dX0_liveAnHour_102 (fun σ7 H locs ey7 hz7 hI => ?_)
          have hq__8 : gS σ7 sh = (st, to) := by rw [ey7]; exact hq__2
          refine lv_aload_n S.1 S.2.1 dX0_liveAnHour_105 rfl (lv_at hl 1 rfl) ?_
          refine g_X0_P_age S hI hi hz7 dX0_liveAnHour_106 ?_
          refine lv_aload_n S.1 S.2.1 dX0_liveAnHour_109 rfl (lv_at hl 1 rfl) ?_
          refine g_X0_P_life S hI hi hz7 dX0_liveAnHour_110 ?_
          refine lv_icmp_lt (tgt := 123) S.1 S.2.1 dX0_liveAnHour_113 (by decide) (fun cz_113 => ?_) (fun cz_113 => ?_)
          · refine lv_iload_n S.1 S.2.1 dX0_liveAnHour_123 rfl (lv_at hl 0 rfl) ?_
            exact xt_z S hI hr hlk rfl (by rw [ey7, ez1]; simp [ringP, hourP, cool, older, setP_setP, hs, cz_27, cz_66, cz_75, cz_92, cz_113]) (by decide) (by decide) dX0_liveAnHour_124
          · refine lv_aload_n S.1 S.2.1 dX0_liveAnHour_116 rfl (lv_at hl 1 rfl) ?_
            refine gs_X0_EXPIRED S hI dX0_liveAnHour_117 ?_
            refine cl_v hI (rnV (As := [.ref (gE G 5)]) (rest := []) S hI (c_P_leave l G _ hi hz7 _) (cw_X0_X0_leaveAs S.2.2.2.2 ⟨Nat.le_of_ble_eq_true rfl, Nat.le_of_ble_eq_true rfl⟩) (rcP hI hi) rfl hl.1 (Nat.le_of_ble_eq_true rfl) dX0_liveAnHour_120 ⟨Nat.le_of_ble_eq_true rfl, Nat.le_of_ble_eq_true rfl⟩) (fun σ9 H locs hq9 hI => ?_)
            have ez9 := hq9
            have hP9 : gP σ9 i = (5, 6, mk, lf, (ag + 1), (draw to ht)) := by rw [ez9]; exact gP_setP _ _ _
            have hq__10 : gS σ9 sh = (st, to) := by rw [ez9]; exact hq__8
            refine lv_iload_n S.1 S.2.1 dX0_liveAnHour_123 rfl (lv_at hl 0 rfl) ?_
            exact xt_z S hI hr hlk rfl (by rw [ez9, ey7, ez1]; simp [ringP, hourP, cool, older, setP_setP, hs, cz_27, cz_66, cz_75, cz_92, cz_113]) (by decide) (by decide) dX0_liveAnHour_124
      · refine lv_aload_n S.1 S.2.1 dX0_liveAnHour_78 rfl (lv_at hl 1 rfl) ?_
        refine gs_X0_FROZEN S hI dX0_liveAnHour_79 ?_
        refine p_X0_P_stage S hI hi hP1 dX0_liveAnHour_82 (fun σ11 H locs ey11 hz11 hI => ?_)
        have hq__12 : gS σ11 sh = (st, to) := by rw [ey11]; exact hq__2
        refine lv_aload_n S.1 S.2.1 dX0_liveAnHour_85 rfl (lv_at hl 1 rfl) ?_
        refine g_X0_P_stage S hI hi hz11 dX0_liveAnHour_86 ?_
        refine gs_X0_FROZEN S hI dX0_liveAnHour_89 ?_
        refine ag_eq S hI (by decide) (by decide) (tgt := 123) dX0_liveAnHour_92 (by decide) (fun _ => ?_) (fun c9 => absurd c9 (by decide))
        refine lv_iload_n S.1 S.2.1 dX0_liveAnHour_123 rfl (lv_at hl 0 rfl) ?_
        exact xt_z S hI hr hlk rfl (by rw [ey11, ez1]; simp [ringP, hourP, cool, older, setP_setP, hs, cz_27, cz_66, cz_75]) (by decide) (by decide) dX0_liveAnHour_124
  · refine lv_aload_n S.1 S.2.1 dX0_liveAnHour_30 rfl (lv_at hl 0 rfl) ?_
    refine g_X0_P_heat S hI hi hP1 dX0_liveAnHour_31 ?_
    refine lv_bipush (v := (-4)) S.1 S.2.1 dX0_liveAnHour_34 (by decide) ?_
    refine lv_icmp_le (tgt := 43) S.1 S.2.1 dX0_liveAnHour_36 (by decide) (fun cz_36 => ?_) (fun cz_36 => ?_)
    · refine lv_iconst (v := 0) S.1 S.2.1 dX0_liveAnHour_43 (by decide) ?_
      refine lv_istore_n (lv' := [(1, .int 0), (0, .ref (gB G (9 + i)))]) S.1 S.2.1 dX0_liveAnHour_44 rfl hl (by decide) rfl (fun ls hl => ?_)
      refine lv_iload_n S.1 S.2.1 dX0_liveAnHour_45 rfl (lv_at hl 0 rfl) ?_
      refine lv_if_eq (tgt := 59) S.1 S.2.1 dX0_liveAnHour_46 (by decide) (fun _ => ?_) (fun c9 => absurd c9 (by decide))
      refine lv_aload_n S.1 S.2.1 dX0_liveAnHour_59 rfl (lv_at hl 1 rfl) ?_
      refine g_X0_P_stage S hI hi hP1 dX0_liveAnHour_60 ?_
      refine gs_X0_FRESH S hI dX0_liveAnHour_63 ?_
      refine ag_ne S hI hg (by decide) (tgt := 85) dX0_liveAnHour_66 (by decide) (fun cz_66 => ?_) (fun cz_66 => ?_)
      · refine lv_aload_n S.1 S.2.1 dX0_liveAnHour_85 rfl (lv_at hl 1 rfl) ?_
        refine g_X0_P_stage S hI hi hP1 dX0_liveAnHour_86 ?_
        refine gs_X0_FROZEN S hI dX0_liveAnHour_89 ?_
        refine ag_eq S hI hg (by decide) (tgt := 123) dX0_liveAnHour_92 (by decide) (fun cz_92 => ?_) (fun cz_92 => ?_)
        · refine lv_iload_n S.1 S.2.1 dX0_liveAnHour_123 rfl (lv_at hl 0 rfl) ?_
          exact xt_z S hI hr hlk rfl (by rw [ez1]; simp [ringP, hourP, cool, older, setP_setP, hs, cz_27, cz_36, cz_66, cz_92]) (by decide) (by decide) dX0_liveAnHour_124
        · refine lv_aload_n S.1 S.2.1 dX0_liveAnHour_95 rfl (lv_at hl 1 rfl) ?_
          refine lv_dup S.1 S.2.1 dX0_liveAnHour_96 rfl ?_
          refine g_X0_P_age S hI hi hP1 dX0_liveAnHour_97 ?_
          refine lv_iconst (v := 1) S.1 S.2.1 dX0_liveAnHour_100 (by decide) ?_
          refine lv_iadd S.1 S.2.1 dX0_liveAnHour_101 ?_
          refine p_X0_P_age S hI hi hP1 dX0_liveAnHour_102 (fun σ13 H locs ey13 hz13 hI => ?_)
          have hq__14 : gS σ13 sh = (st, to) := by rw [ey13]; exact hq__2
          refine lv_aload_n S.1 S.2.1 dX0_liveAnHour_105 rfl (lv_at hl 1 rfl) ?_
          refine g_X0_P_age S hI hi hz13 dX0_liveAnHour_106 ?_
          refine lv_aload_n S.1 S.2.1 dX0_liveAnHour_109 rfl (lv_at hl 1 rfl) ?_
          refine g_X0_P_life S hI hi hz13 dX0_liveAnHour_110 ?_
          refine lv_icmp_lt (tgt := 123) S.1 S.2.1 dX0_liveAnHour_113 (by decide) (fun cz_113 => ?_) (fun cz_113 => ?_)
          · refine lv_iload_n S.1 S.2.1 dX0_liveAnHour_123 rfl (lv_at hl 0 rfl) ?_
            exact xt_z S hI hr hlk rfl (absurd (by assumption) cz_92) (by decide) (by decide) dX0_liveAnHour_124
          · refine lv_aload_n S.1 S.2.1 dX0_liveAnHour_116 rfl (lv_at hl 1 rfl) ?_
            refine gs_X0_EXPIRED S hI dX0_liveAnHour_117 ?_
            refine cl_v hI (rnV (As := [.ref (gE G 5)]) (rest := []) S hI (c_P_leave l G _ hi hz13 _) (cw_X0_X0_leaveAs S.2.2.2.2 ⟨Nat.le_of_ble_eq_true rfl, Nat.le_of_ble_eq_true rfl⟩) (rcP hI hi) rfl hl.1 (Nat.le_of_ble_eq_true rfl) dX0_liveAnHour_120 ⟨Nat.le_of_ble_eq_true rfl, Nat.le_of_ble_eq_true rfl⟩) (fun σ15 H locs hq15 hI => ?_)
            have ez15 := hq15
            have hP15 : gP σ15 i = (5, 6, mk, lf, (ag + 1), (draw to ht)) := by rw [ez15]; exact gP_setP _ _ _
            have hq__16 : gS σ15 sh = (st, to) := by rw [ez15]; exact hq__14
            refine lv_iload_n S.1 S.2.1 dX0_liveAnHour_123 rfl (lv_at hl 0 rfl) ?_
            exact xt_z S hI hr hlk rfl (absurd (by assumption) cz_92) (by decide) (by decide) dX0_liveAnHour_124
      · refine lv_aload_n S.1 S.2.1 dX0_liveAnHour_69 rfl (lv_at hl 1 rfl) ?_
        refine g_X0_P_heat S hI hi hP1 dX0_liveAnHour_70 ?_
        refine lv_bipush (v := (-10)) S.1 S.2.1 dX0_liveAnHour_73 (by decide) ?_
        refine lv_icmp_gt (tgt := 85) S.1 S.2.1 dX0_liveAnHour_75 (by decide) (fun cz_75 => ?_) (fun cz_75 => ?_)
        · refine lv_aload_n S.1 S.2.1 dX0_liveAnHour_85 rfl (lv_at hl 1 rfl) ?_
          refine g_X0_P_stage S hI hi hP1 dX0_liveAnHour_86 ?_
          refine gs_X0_FROZEN S hI dX0_liveAnHour_89 ?_
          refine ag_eq S hI hg (by decide) (tgt := 123) dX0_liveAnHour_92 (by decide) (fun cz_92 => ?_) (fun cz_92 => ?_)
          · refine lv_iload_n S.1 S.2.1 dX0_liveAnHour_123 rfl (lv_at hl 0 rfl) ?_
            exact xt_z S hI hr hlk rfl (absurd (cz_27.symm.trans cz_66) (by decide)) (by decide) (by decide) dX0_liveAnHour_124
          · refine lv_aload_n S.1 S.2.1 dX0_liveAnHour_95 rfl (lv_at hl 1 rfl) ?_
            refine lv_dup S.1 S.2.1 dX0_liveAnHour_96 rfl ?_
            refine g_X0_P_age S hI hi hP1 dX0_liveAnHour_97 ?_
            refine lv_iconst (v := 1) S.1 S.2.1 dX0_liveAnHour_100 (by decide) ?_
            refine lv_iadd S.1 S.2.1 dX0_liveAnHour_101 ?_
            refine p_X0_P_age S hI hi hP1 dX0_liveAnHour_102 (fun σ17 H locs ey17 hz17 hI => ?_)
            have hq__18 : gS σ17 sh = (st, to) := by rw [ey17]; exact hq__2
            refine lv_aload_n S.1 S.2.1 dX0_liveAnHour_105 rfl (lv_at hl 1 rfl) ?_
            refine g_X0_P_age S hI hi hz17 dX0_liveAnHour_106 ?_
            refine lv_aload_n S.1 S.2.1 dX0_liveAnHour_109 rfl (lv_at hl 1 rfl) ?_
            refine g_X0_P_life S hI hi hz17 dX0_liveAnHour_110 ?_
            refine lv_icmp_lt (tgt := 123) S.1 S.2.1 dX0_liveAnHour_113 (by decide) (fun cz_113 => ?_) (fun cz_113 => ?_)
            · refine lv_iload_n S.1 S.2.1 dX0_liveAnHour_123 rfl (lv_at hl 0 rfl) ?_
              exact xt_z S hI hr hlk rfl (absurd (cz_27.symm.trans cz_66) (by decide)) (by decide) (by decide) dX0_liveAnHour_124
            · refine lv_aload_n S.1 S.2.1 dX0_liveAnHour_116 rfl (lv_at hl 1 rfl) ?_
              refine gs_X0_EXPIRED S hI dX0_liveAnHour_117 ?_
              refine cl_v hI (rnV (As := [.ref (gE G 5)]) (rest := []) S hI (c_P_leave l G _ hi hz17 _) (cw_X0_X0_leaveAs S.2.2.2.2 ⟨Nat.le_of_ble_eq_true rfl, Nat.le_of_ble_eq_true rfl⟩) (rcP hI hi) rfl hl.1 (Nat.le_of_ble_eq_true rfl) dX0_liveAnHour_120 ⟨Nat.le_of_ble_eq_true rfl, Nat.le_of_ble_eq_true rfl⟩) (fun σ19 H locs hq19 hI => ?_)
              have ez19 := hq19
              have hP19 : gP σ19 i = (5, 6, mk, lf, (ag + 1), (draw to ht)) := by rw [ez19]; exact gP_setP _ _ _
              have hq__20 : gS σ19 sh = (st, to) := by rw [ez19]; exact hq__18
              refine lv_iload_n S.1 S.2.1 dX0_liveAnHour_123 rfl (lv_at hl 0 rfl) ?_
              exact xt_z S hI hr hlk rfl (absurd (cz_27.symm.trans cz_66) (by decide)) (by decide) (by decide) dX0_liveAnHour_124
        · refine lv_aload_n S.1 S.2.1 dX0_liveAnHour_78 rfl (lv_at hl 1 rfl) ?_
          refine gs_X0_FROZEN S hI dX0_liveAnHour_79 ?_
          refine p_X0_P_stage S hI hi hP1 dX0_liveAnHour_82 (fun σ21 H locs ey21 hz21 hI => ?_)
          have hq__22 : gS σ21 sh = (st, to) := by rw [ey21]; exact hq__2
          refine lv_aload_n S.1 S.2.1 dX0_liveAnHour_85 rfl (lv_at hl 1 rfl) ?_
          refine g_X0_P_stage S hI hi hz21 dX0_liveAnHour_86 ?_
          refine gs_X0_FROZEN S hI dX0_liveAnHour_89 ?_
          refine ag_eq S hI (by decide) (by decide) (tgt := 123) dX0_liveAnHour_92 (by decide) (fun _ => ?_) (fun c9 => absurd c9 (by decide))
          refine lv_iload_n S.1 S.2.1 dX0_liveAnHour_123 rfl (lv_at hl 0 rfl) ?_
          exact xt_z S hI hr hlk rfl (absurd (cz_27.symm.trans cz_66) (by decide)) (by decide) (by decide) dX0_liveAnHour_124
    · refine lv_iconst (v := 1) S.1 S.2.1 dX0_liveAnHour_39 (by decide) ?_
      refine lv_goto (tgt := 44) S.1 S.2.1 dX0_liveAnHour_40 (by decide) ?_
      refine lv_istore_n (lv' := [(1, .int 1), (0, .ref (gB G (9 + i)))]) S.1 S.2.1 dX0_liveAnHour_44 rfl hl (by decide) rfl (fun ls hl => ?_)
      refine lv_iload_n S.1 S.2.1 dX0_liveAnHour_45 rfl (lv_at hl 0 rfl) ?_
      refine lv_if_eq (tgt := 59) S.1 S.2.1 dX0_liveAnHour_46 (by decide) (fun c9 => absurd c9 (by decide)) (fun _ => ?_)
      refine lv_aload_n S.1 S.2.1 dX0_liveAnHour_49 rfl (lv_at hl 1 rfl) ?_
      refine gs_X0_THAWED S hI dX0_liveAnHour_50 ?_
      refine p_X0_P_stage S hI hi hP1 dX0_liveAnHour_53 (fun σ23 H locs ey23 hz23 hI => ?_)
      have hq__24 : gS σ23 sh = (st, to) := by rw [ey23]; exact hq__2
      refine lv_goto (tgt := 85) S.1 S.2.1 dX0_liveAnHour_56 (by decide) ?_
      refine lv_aload_n S.1 S.2.1 dX0_liveAnHour_85 rfl (lv_at hl 1 rfl) ?_
      refine g_X0_P_stage S hI hi hz23 dX0_liveAnHour_86 ?_
      refine gs_X0_FROZEN S hI dX0_liveAnHour_89 ?_
      refine ag_eq S hI (by decide) (by decide) (tgt := 123) dX0_liveAnHour_92 (by decide) (fun c9 => absurd c9 (by decide)) (fun _ => ?_)
      refine lv_aload_n S.1 S.2.1 dX0_liveAnHour_95 rfl (lv_at hl 1 rfl) ?_
      refine lv_dup S.1 S.2.1 dX0_liveAnHour_96 rfl ?_
      refine g_X0_P_age S hI hi hz23 dX0_liveAnHour_97 ?_
      refine lv_iconst (v := 1) S.1 S.2.1 dX0_liveAnHour_100 (by decide) ?_
      refine lv_iadd S.1 S.2.1 dX0_liveAnHour_101 ?_
      refine p_X0_P_age S hI hi hz23 dX0_liveAnHour_102 (fun σ25 H locs ey25 hz25 hI => ?_)
      have hq__26 : gS σ25 sh = (st, to) := by rw [ey25]; exact hq__24
      refine lv_aload_n S.1 S.2.1 dX0_liveAnHour_105 rfl (lv_at hl 1 rfl) ?_
      refine g_X0_P_age S hI hi hz25 dX0_liveAnHour_106 ?_
      refine lv_aload_n S.1 S.2.1 dX0_liveAnHour_109 rfl (lv_at hl 1 rfl) ?_
      refine g_X0_P_life S hI hi hz25 dX0_liveAnHour_110 ?_
      refine lv_icmp_lt (tgt := 123) S.1 S.2.1 dX0_liveAnHour_113 (by decide) (fun cz_113 => ?_) (fun cz_113 => ?_)
      · refine lv_iload_n S.1 S.2.1 dX0_liveAnHour_123 rfl (lv_at hl 0 rfl) ?_
        exact xt_z S hI hr hlk rfl (by rw [ey25, ey23, ez1]; simp [ringP, hourP, cool, older, setP_setP, hs, cz_27, cz_36, cz_113]) (by decide) (by decide) dX0_liveAnHour_124
      · refine lv_aload_n S.1 S.2.1 dX0_liveAnHour_116 rfl (lv_at hl 1 rfl) ?_
        refine gs_X0_EXPIRED S hI dX0_liveAnHour_117 ?_
        refine cl_v hI (rnV (As := [.ref (gE G 5)]) (rest := []) S hI (c_P_leave l G _ hi hz25 _) (cw_X0_X0_leaveAs S.2.2.2.2 ⟨Nat.le_of_ble_eq_true rfl, Nat.le_of_ble_eq_true rfl⟩) (rcP hI hi) rfl hl.1 (Nat.le_of_ble_eq_true rfl) dX0_liveAnHour_120 ⟨Nat.le_of_ble_eq_true rfl, Nat.le_of_ble_eq_true rfl⟩) (fun σ27 H locs hq27 hI => ?_)
        have ez27 := hq27
        have hP27 : gP σ27 i = (5, 6, mk, lf, (ag + 1), (draw to ht)) := by rw [ez27]; exact gP_setP _ _ _
        have hq__28 : gS σ27 sh = (st, to) := by rw [ez27]; exact hq__26
        refine lv_iload_n S.1 S.2.1 dX0_liveAnHour_123 rfl (lv_at hl 0 rfl) ?_
        exact xt_z S hI hr hlk rfl (by rw [ez27, ey25, ey23, ez1]; simp [ringP, hourP, cool, older, setP_setP, hs, cz_27, cz_36, cz_113]) (by decide) (by decide) dX0_liveAnHour_124
set_option maxRecDepth 100000 in
set_option maxHeartbeats 4000000 in
theorem c_P_hour_n (l : Launch) (G : Gt) (σ : St) {i : Nat} (hi : i < 21) {g sh : Nat} {mk lf ag ht : Int32} (hp : gP σ i = (g, sh, mk, lf, ag, ht)) (hs : ¬ sh < 6) : Ct l G yX0_liveAnHour cX0_liveAnHour 2 (some .boolean) 2 0 0 [.ref (gB G (9 + i))] σ (Qi G (fun r σ' => r = 0 ∧ σ' = σ)) := by
  refine mt_intro (by decide +kernel) (Nat.le_of_ble_eq_true rfl) ?_
  intro p e s m below meth c S hr hlk hnm hI ls hl
  have hl : lv_has ls 2 [(0, .ref (gB G (9 + i)))] := hl
  refine lv_aload_n S.1 S.2.1 dX0_liveAnHour_0 rfl (lv_at hl 0 rfl) ?_
  refine g_X0_P_shelf_n S hI hi hp hs dX0_liveAnHour_1 ?_
  refine lv_ifnonnullN S.1 S.2.1 dX0_liveAnHour_4 ?_
  refine lv_iconst (v := 0) S.1 S.2.1 dX0_liveAnHour_7 (by decide) ?_
  exact xt_z S hI hr hlk rfl (⟨rfl, rfl⟩) (by decide) (by decide) dX0_liveAnHour_8
