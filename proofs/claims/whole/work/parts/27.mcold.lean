theorem any_sum (β : St) (k : Nat) (hk : k < 2 ^ 30) : ∃ m1, m1 ≤ k ∧ sumN (xR β) k = nI m1 ∧ (0 < m1 ↔ (List.range k).any (fun q => xR β q == 1) = true) := by
  induction k with
  | zero => exact ⟨0, Nat.le_refl 0, rfl, by simp⟩
  | succ k ih =>
    obtain ⟨m1, h1, h2, h3⟩ := ih (by omega)
    rw [sumN_s, h2, List.range_succ, List.any_append]
    rcases xR_01 β k with e | e
    · refine ⟨m1, by omega, by rw [e, Int32.add_zero], ?_⟩
      rw [h3]
      simp [e]
    · refine ⟨m1 + 1, by omega, by rw [e]; exact nI_1 m1, ?_⟩
      simp [e]
theorem any_no {β : St} (h : sumN (xR β) 20 ≤ 0) : (List.range 20).any (fun q => xR β q == 1) = false := by
  obtain ⟨m1, h1, h2, h3⟩ := any_sum β 20 (by omega)
  rw [h2, Int32.le_iff_toInt_le, nI_toInt (by omega)] at h
  have e : (0 : Int32).toInt = 0 := by decide
  cases hc : (List.range 20).any (fun q => xR β q == 1)
  · rfl
  · have := h3.mpr hc
    omega
theorem any_yes {β : St} (h : ¬ sumN (xR β) 20 ≤ 0) : (List.range 20).any (fun q => xR β q == 1) = true := by
  obtain ⟨m1, h1, h2, h3⟩ := any_sum β 20 (by omega)
  rw [h2, Int32.le_iff_toInt_le, nI_toInt (by omega)] at h
  have e : (0 : Int32).toInt = 0 := by decide
  exact h3.mp (by omega)
def offX (α : St) : St := setX α ((gX α).1, (gX α).2.1, (gX α).2.2.1, 0)
theorem ocF_off (α : St) (k : Nat) : ocF (offX α) k = ocF α k := by
  induction k with
  | zero => rfl
  | succ k ih =>
    show (if sooner _ (ocF (offX α) k) = true then _ else ocF (offX α) k) = _
    rw [ih]
    rfl
theorem Pic.pw0 {α : St} {n : Nat} {mk lf nw : Nat → Int32} (h : Pic α n mk lf nw) : Pic (offX α) n mk lf (va_up nw 1 0) :=
  h.X (Or.inl rfl) ⟨by rw [va_up_ne _ _ (by decide)]; exact h.2.1.1, va_up_self _ _ _, by rw [va_up_ne _ _ (by decide)]; exact h.2.1.2.2⟩ (fun j hj => va_up_ne _ _ (by omega))
theorem inI_yes {v lo hi : Int32} (h1 : ¬ v < lo) (h2 : ¬ hi < v) : inI v lo hi = 1 := if_pos ⟨h1, h2⟩
theorem inI_no {v lo hi : Int32} (h : v < lo ∨ hi < v) : inI v lo hi = 0 := if_neg (fun q => by rcases h with e | e; exact q.1 e; exact q.2 e)
theorem inI_p {k n : Nat} (h : k < n) (hn : n ≤ 20) : inI (nI k) 0 (nI n - 1) = 1 := by
  refine inI_yes (nI_pos (by omega)) ?_
  obtain ⟨m1, rfl⟩ : ∃ m1, n = m1 + 1 := ⟨n - 1, by omega⟩
  rw [nI_pred]
  exact nI_nlt (by omega) (by omega)
theorem inI_np {v : Int32} {n : Nat} (hn : n ≤ 20) (h : v < 0 ∨ nI n ≤ v) : inI v 0 (nI n - 1) = 0 := by
  rcases h with e | e
  · exact inI_no (Or.inl e)
  · refine inI_no (Or.inr ?_)
    rw [Int32.le_iff_toInt_le, nI_toInt (by omega)] at e
    rw [Int32.lt_iff_toInt_lt]
    have e2 : (nI n - 1).toInt = (n : Int) - 1 := pk_sub_toInt (a := n) (b := 1) (by omega) (by omega)
    omega
set_option maxRecDepth 100000 in
set_option maxHeartbeats 4000000 in
theorem c_cold (l : Launch) (G : Gt) (σ : St) {α : St} {n : Nat} {th : Int32} {mk lf nw kp : Nat → Int32} (hm : gM σ = (th, nI n, mk, lf, nw, kp)) (hpic : Pic α n mk lf nw) : Ct l G yX4_cold cX4_cold 3 (some .int) 5 0 0 [.ref (gB G 3)] σ (Qi G (fun r σ' => r = ocF α 20 ∧ Mq σ α th n σ')) := by
  refine mt_intro (by decide +kernel) (Nat.le_of_ble_eq_true rfl) ?_
  intro p e s m below meth c S hr hlk hnm hI ls hl
  have hl : lv_has ls 3 [(0, .ref (gB G 3))] := hl
  have hU9 : fst1 (anyP (offX α) 20) 200 1 = ocF α 20 := by rw [← cold_eq (α := offX α) hpic.pw0.ok rfl (Nat.le_refl 20), ocF_off]
  have done : ∀ (kk : Nat) (nwz : Nat → Int32) (T9 : Int32), kk ≤ 201 → T9 = fst1 (anyP (offX α) 20) 200 1 → (¬ T9 = -1 ∨ 200 < kk) → ∀ (H : Heap) (locs : List Loc), Iv G (setM σ (th, nI n, mk, lf, nwz, (cpyA nw kp))) s H locs → ∀ ls : Array Slot, lv_has ls 3 [(0, .ref (gB G 3)), (1, .int T9), (2, .int (nI kk))] → W p l e (rm 5 0 0) s m ([.ref (gB G 3)] : List Value).toArray below meth c H locs 0 0 (MQ below (Qi G (fun r σ' => r = ocF α 20 ∧ Mq σ α th n σ')) ([.ref (gB G 3)] : List Value).toArray s 0 0 (gA G)) (F0 m 15 ls []) := by
    intro kk nwz T9 hk1 hT9 h39 H locs hI ls hl
    rcases h39 with h39 | h39
    · skip
      refine lv_iload_n S.1 S.2.1 dX4_cold_15 rfl (lv_at hl 2 rfl) ?_
      refine lv_sipush (v := 200) S.1 S.2.1 dX4_cold_16 (by decide) ?_
      refine lv_icmp_gt (tgt := 42) S.1 S.2.1 dX4_cold_19 (by decide) (fun cz_19 => ?_) (fun cz_19 => ?_)
      · refine lv_aload_n S.1 S.2.1 dX4_cold_42 rfl (lv_at hl 0 rfl) ?_
        refine cl_v hI (rnV (As := []) (rest := []) S hI (c_bringBack l G _ (show gM (setM σ (th, nI n, mk, lf, nwz, (cpyA nw kp))) = (th, (nI n), mk, lf, nwz, (cpyA nw kp)) from rfl)) (cw_X4_X4_bringBack S.2.2.2.2 ⟨Nat.le_of_ble_eq_true rfl, Nat.le_of_ble_eq_true rfl⟩) (rcM hI) rfl hl.1 (Nat.le_of_ble_eq_true rfl) dX4_cold_43 ⟨Nat.le_of_ble_eq_true rfl, Nat.le_of_ble_eq_true rfl⟩) (fun σ1 H locs hq1 hI => ?_)
        have ez1 := hq1
        refine lv_iload_n S.1 S.2.1 dX4_cold_46 rfl (lv_at hl 1 rfl) ?_
        exact xt_i S hI hr hlk (⟨hT9.trans hU9, mk, lf, _, _, ez1, hpic.back (fun _ _ => rfl) (fun _ _ => rfl)⟩) (by decide) (by decide) dX4_cold_47
      · refine lv_iload_n S.1 S.2.1 dX4_cold_22 rfl (lv_at hl 1 rfl) ?_
        refine lv_iconst (v := (-1)) S.1 S.2.1 dX4_cold_23 (by decide) ?_
        refine lv_icmp_ne (tgt := 42) S.1 S.2.1 dX4_cold_24 (by decide) (fun cz_24 => ?_) (fun c9 => absurd c9 h39)
        refine lv_aload_n S.1 S.2.1 dX4_cold_42 rfl (lv_at hl 0 rfl) ?_
        refine cl_v hI (rnV (As := []) (rest := []) S hI (c_bringBack l G _ (show gM (setM σ (th, nI n, mk, lf, nwz, (cpyA nw kp))) = (th, (nI n), mk, lf, nwz, (cpyA nw kp)) from rfl)) (cw_X4_X4_bringBack S.2.2.2.2 ⟨Nat.le_of_ble_eq_true rfl, Nat.le_of_ble_eq_true rfl⟩) (rcM hI) rfl hl.1 (Nat.le_of_ble_eq_true rfl) dX4_cold_43 ⟨Nat.le_of_ble_eq_true rfl, Nat.le_of_ble_eq_true rfl⟩) (fun σ2 H locs hq2 hI => ?_)
        have ez2 := hq2
        refine lv_iload_n S.1 S.2.1 dX4_cold_46 rfl (lv_at hl 1 rfl) ?_
        exact xt_i S hI hr hlk (⟨hT9.trans hU9, mk, lf, _, _, ez2, hpic.back (fun _ _ => rfl) (fun _ _ => rfl)⟩) (by decide) (by decide) dX4_cold_47
    · skip
      refine lv_iload_n S.1 S.2.1 dX4_cold_15 rfl (lv_at hl 2 rfl) ?_
      refine lv_sipush (v := 200) S.1 S.2.1 dX4_cold_16 (by decide) ?_
      refine lv_icmp_gt (tgt := 42) S.1 S.2.1 dX4_cold_19 (by decide) (fun cz_19 => ?_) (fun c9 => absurd (nI_lt (a := 200) h39 (by omega)) c9)
      refine lv_aload_n S.1 S.2.1 dX4_cold_42 rfl (lv_at hl 0 rfl) ?_
      refine cl_v hI (rnV (As := []) (rest := []) S hI (c_bringBack l G _ (show gM (setM σ (th, nI n, mk, lf, nwz, (cpyA nw kp))) = (th, (nI n), mk, lf, nwz, (cpyA nw kp)) from rfl)) (cw_X4_X4_bringBack S.2.2.2.2 ⟨Nat.le_of_ble_eq_true rfl, Nat.le_of_ble_eq_true rfl⟩) (rcM hI) rfl hl.1 (Nat.le_of_ble_eq_true rfl) dX4_cold_43 ⟨Nat.le_of_ble_eq_true rfl, Nat.le_of_ble_eq_true rfl⟩) (fun σ1 H locs hq1 hI => ?_)
      have ez1 := hq1
      refine lv_iload_n S.1 S.2.1 dX4_cold_46 rfl (lv_at hl 1 rfl) ?_
      exact xt_i S hI hr hlk (⟨hT9.trans hU9, mk, lf, _, _, ez1, hpic.back (fun _ _ => rfl) (fun _ _ => rfl)⟩) (by decide) (by decide) dX4_cold_47
  have loop : ∀ (n1 : Nat) (k : Nat) (nwk : Nat → Int32), k + n1 = 200 → Pic (hourXs k (offX α)) n mk lf nwk → fst1 (anyP (offX α) 20) 200 1 = fst1 (anyP (offX α) 20) n1 (k + 1) → ∀ (H : Heap) (locs : List Loc), Iv G (setM σ (th, nI n, mk, lf, nwk, (cpyA nw kp))) s H locs → ∀ ls : Array Slot, lv_has ls 3 [(0, .ref (gB G 3)), (1, .int (-1)), (2, .int (nI (k + 1)))] → W p l e (rm 5 0 0) s m ([.ref (gB G 3)] : List Value).toArray below meth c H locs 0 0 (MQ below (Qi G (fun r σ' => r = ocF α 20 ∧ Mq σ α th n σ')) ([.ref (gB G 3)] : List Value).toArray s 0 0 (gA G)) (F0 m 15 ls []) := by
    intro n1
    induction n1 with
    | zero =>
      intro k nwk hk0 hpk hF9 H locs hI ls hl
      exact done (k + 1) nwk (-1) (by omega) hF9.symm (Or.inr (by omega)) _ _ hI ls hl
    | succ n1 ih =>
      intro k nwk hk0 hpk hF9 H locs hI ls hl
      refine lv_iload_n S.1 S.2.1 dX4_cold_15 rfl (lv_at hl 2 rfl) ?_
      refine lv_sipush (v := 200) S.1 S.2.1 dX4_cold_16 (by decide) ?_
      refine lv_icmp_gt (tgt := 42) S.1 S.2.1 dX4_cold_19 (by decide) (fun c9 => absurd c9 (nI_nlt (b := k + 1) (a := 200) (by omega) (by omega))) (fun cz_19 => ?_)
      refine lv_iload_n S.1 S.2.1 dX4_cold_22 rfl (lv_at hl 1 rfl) ?_
      refine lv_iconst (v := (-1)) S.1 S.2.1 dX4_cold_23 (by decide) ?_
      refine lv_icmp_ne (tgt := 42) S.1 S.2.1 dX4_cold_24 (by decide) (fun c9 => absurd c9 (by decide)) (fun _ => ?_)
      refine lv_aload_n S.1 S.2.1 dX4_cold_27 rfl (lv_at hl 0 rfl) ?_
      refine cl_i hI (rnV (As := []) (rest := []) S hI (c_hourOn l G _ (show gM (setM σ (th, nI n, mk, lf, nwk, (cpyA nw kp))) = (th, (nI n), mk, lf, nwk, (cpyA nw kp)) from rfl) hpk) (cw_X4_X4_hourOn S.2.2.2.2 ⟨Nat.le_of_ble_eq_true rfl, Nat.le_of_ble_eq_true rfl⟩) (rcM hI) rfl hl.1 (Nat.le_of_ble_eq_true rfl) dX4_cold_28 ⟨Nat.le_of_ble_eq_true rfl, Nat.le_of_ble_eq_true rfl⟩) (fun r1 σ1 H locs hq1 hI => ?_)
      obtain ⟨nwz, ez1, hpz, hr1⟩ := hq1
      have hI : Iv G (setM σ (th, nI n, mk, lf, nwz, (cpyA nw kp))) s H locs := by rw [ez1] at hI; exact hI
      rw [hr1]
      refine lv_if_le (tgt := 36) S.1 S.2.1 dX4_cold_31 (by decide) (fun cz_31 => ?_) (fun cz_31 => ?_)
      · refine lv_iinc (v := (nI (k + 1 + 1))) (lv' := [(2, .int (nI (k + 1 + 1))), (0, .ref (gB G 3)), (1, .int (-1))]) S.1 S.2.1 dX4_cold_36 hl (k := 2) rfl (nI_1 (k + 1)) (by decide) rfl (fun ls hl => ?_)
        refine lv_goto (tgt := 15) S.1 S.2.1 dX4_cold_39 (by decide) ?_
        exact ih (k + 1) nwz (by omega) hpz (hF9.trans (if_neg (by rw [show anyP (offX α) 20 (k + 1) = false from any_no cz_31]; decide))) _ _ hI ls (lv_sub hl [1, 2, 0] rfl)
      · refine lv_iload_n S.1 S.2.1 dX4_cold_34 rfl (lv_at hl 2 rfl) ?_
        refine lv_istore_n (lv' := [(1, .int (nI (k + 1))), (0, .ref (gB G 3)), (2, .int (nI (k + 1)))]) S.1 S.2.1 dX4_cold_35 rfl hl (by decide) rfl (fun ls hl => ?_)
        refine lv_iinc (v := (nI (k + 1 + 1))) (lv' := [(2, .int (nI (k + 1 + 1))), (1, .int (nI (k + 1))), (0, .ref (gB G 3))]) S.1 S.2.1 dX4_cold_36 hl (k := 2) rfl (nI_1 (k + 1)) (by decide) rfl (fun ls hl => ?_)
        refine lv_goto (tgt := 15) S.1 S.2.1 dX4_cold_39 (by decide) ?_
        exact done (k + 1 + 1) nwz (nI (k + 1)) (by omega) (by rw [hF9]; exact (if_pos (show anyP (offX α) 20 (k + 1) = true from any_yes cz_31)).symm) (Or.inl (nI_m1 (by omega))) _ _ hI ls (lv_sub hl [2, 1, 0] rfl)
  refine lv_aload_n S.1 S.2.1 dX4_cold_0 rfl (lv_at hl 0 rfl) ?_
  refine cl_v hI (rnV (As := []) (rest := []) S hI (c_keepAll l G _ hm) (cw_X4_X4_keepAll S.2.2.2.2 ⟨Nat.le_of_ble_eq_true rfl, Nat.le_of_ble_eq_true rfl⟩) (rcM hI) rfl hl.1 (Nat.le_of_ble_eq_true rfl) dX4_cold_1 ⟨Nat.le_of_ble_eq_true rfl, Nat.le_of_ble_eq_true rfl⟩) (fun σ1 H locs hq1 hI => ?_)
  have hI : Iv G (setM σ (th, nI n, mk, lf, nw, (cpyA nw kp))) s H locs := by rw [hq1] at hI; exact hI
  refine lv_aload_n S.1 S.2.1 dX4_cold_4 rfl (lv_at hl 0 rfl) ?_
  refine g_X4_M_now S hI dX4_cold_5 ?_
  refine lv_iconst (v := (nI 1)) S.1 S.2.1 dX4_cold_8 (by rfl) ?_
  refine lv_iconst (v := 0) S.1 S.2.1 dX4_cold_9 (by decide) ?_
  refine s_nw S hI (show gM (setM σ (th, nI n, mk, lf, nw, (cpyA nw kp))) = (th, (nI n), mk, lf, nw, (cpyA nw kp)) from rfl) (j := 1) (by omega) dX4_cold_10 (fun σ2 H locs ey2 hz2 hI => ?_)
  refine lv_iconst (v := (-1)) S.1 S.2.1 dX4_cold_11 (by decide) ?_
  refine lv_istore_n (lv' := [(1, .int (-1)), (0, .ref (gB G 3))]) S.1 S.2.1 dX4_cold_12 rfl hl (by decide) rfl (fun ls hl => ?_)
  refine lv_iconst (v := (nI (0 + 1))) S.1 S.2.1 dX4_cold_13 (by rfl) ?_
  refine lv_istore_n (lv' := [(2, .int (nI (0 + 1))), (1, .int (-1)), (0, .ref (gB G 3))]) S.1 S.2.1 dX4_cold_14 rfl hl (by decide) rfl (fun ls hl => ?_)
  exact loop 200 0 (va_up nw 1 0) rfl hpic.pw0 rfl _ _ (by rw [ey2] at hI; exact hI) ls (lv_sub hl [2, 1, 0] rfl)
