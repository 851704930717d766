theorem Pic.back {α : St} {n : Nat} {mk lf nw kp nwz mk2 lf2 : Nat → Int32} (h : Pic α n mk lf nw) (h1 : ∀ q, q < n → mk2 q = mk q) (h2 : ∀ q, q < n → lf2 q = lf q) : Pic α n mk2 lf2 (cpyA (cpyA nw kp) nwz) := by
  have h3 := h.row (nw2 := cpyA (cpyA nw kp) nwz) (fun j hj => by rw [cpyA_lt _ _ hj, cpyA_lt _ _ hj])
  obtain ⟨a0, a1, a2, a3, a4, a5⟩ := h3
  exact ⟨a0, a1, a2, a3, fun q hq => by rw [h1 q hq, h2 q hq]; exact a4 q hq, a5⟩
theorem nI_11 {g : Nat} (hg : g = 2 ∨ g = 3) : ¬ nI (g - 1) = 11 := fun q => by
  have := (nI_eq (a := g - 1) (b := 11) (by omega) (by omega)).mp q
  omega
set_option maxRecDepth 100000 in
set_option maxHeartbeats 4000000 in
theorem c_until (l : Launch) (G : Gt) (σ : St) {α : St} {n : Nat} {th : Int32} {mk lf nw kp : Nat → Int32} (hm : gM σ = (th, nI n, mk, lf, nw, kp)) (hpic : Pic α n mk lf nw) {q : Nat} (hq : q < n) {g : Nat} (hg : g = 2 ∨ g = 3) : Ct l G yX4_until cX4_until 6 (some .int) 5 0 0 [.ref (gB G 3), .int (nI q), .int (nI (g - 1))] σ (Qi G (fun r σ' => r = hUntil (gX α).2.2.2 (gS α (gP α q).2.1) (gP α q) g ∧ Mq σ α th n σ')) := by
  refine mt_intro (by decide +kernel) (Nat.le_of_ble_eq_true rfl) ?_
  intro p e s m below meth c S hr hlk hnm hI ls hl
  have hl : lv_has ls 6 [(0, .ref (gB G 3)), (1, .int (nI q)), (2, .int (nI (g - 1)))] := hl
  have hn20 := hpic.1
  have hU9 := until_eq hpic.ok (q := q) (by omega) g
  have done : ∀ (kk : Nat) (nwz : Nat → Int32) (T9 : Int32), kk ≤ 201 → T9 = fst1 (fun j9 => decide ((gP (hourXs j9 α) q).1 = g)) 201 0 → (¬ T9 = -1 ∨ 200 < kk) → ∀ (H : Heap) (locs : List Loc), Iv G (setM σ (th, nI n, mk, lf, nwz, (cpyA nw kp))) s H locs → ∀ ls : Array Slot, lv_has ls 6 [(0, .ref (gB G 3)), (1, .int (nI q)), (2, .int (nI (g - 1))), (3, .int T9), (4, .int (nI kk))] → W p l e (rm 5 0 0) s m ([.ref (gB G 3), .int (nI q), .int (nI (g - 1))] : List Value).toArray below meth c H locs 0 0 (MQ below (Qi G (fun r σ' => r = hUntil (gX α).2.2.2 (gS α (gP α q).2.1) (gP α q) g ∧ Mq σ α th n σ')) ([.ref (gB G 3), .int (nI q), .int (nI (g - 1))] : List Value).toArray s 0 0 (gA G)) (F0 m 9 ls []) := by
    intro kk nwz T9 hk1 hT9 h39 H locs hI ls hl
    rcases h39 with h39 | h39
    · skip
      refine lv_iload S.1 S.2.1 dX4_until_9 (lv_at hl 4 rfl) ?_
      refine lv_sipush (v := 200) S.1 S.2.1 dX4_until_11 (by decide) ?_
      refine lv_icmp_gt (tgt := 77) S.1 S.2.1 dX4_until_14 (by decide) (fun cz_14 => ?_) (fun cz_14 => ?_)
      · refine lv_aload_n S.1 S.2.1 dX4_until_77 rfl (lv_at hl 0 rfl) ?_
        refine cl_v hI (rnV (As := []) (rest := []) S hI (c_bringBack l G _ (show gM (setM σ (th, nI n, mk, lf, nwz, (cpyA nw kp))) = (th, (nI n), mk, lf, nwz, (cpyA nw kp)) from rfl)) (cw_X4_X4_bringBack S.2.2.2.2 ⟨Nat.le_of_ble_eq_true rfl, Nat.le_of_ble_eq_true rfl⟩) (rcM hI) rfl hl.1 (Nat.le_of_ble_eq_true rfl) dX4_until_78 ⟨Nat.le_of_ble_eq_true rfl, Nat.le_of_ble_eq_true rfl⟩) (fun σ1 H locs hq1 hI => ?_)
        have ez1 := hq1
        refine lv_iload_n S.1 S.2.1 dX4_until_81 rfl (lv_at hl 3 rfl) ?_
        exact xt_i S hI hr hlk (⟨hT9.trans hU9, mk, lf, _, _, ez1, hpic.back (fun _ _ => rfl) (fun _ _ => rfl)⟩) (by decide) (by decide) dX4_until_82
      · refine lv_iload_n S.1 S.2.1 dX4_until_17 rfl (lv_at hl 3 rfl) ?_
        refine lv_iconst (v := (-1)) S.1 S.2.1 dX4_until_18 (by decide) ?_
        refine lv_icmp_ne (tgt := 77) S.1 S.2.1 dX4_until_19 (by decide) (fun cz_19 => ?_) (fun c9 => absurd c9 h39)
        refine lv_aload_n S.1 S.2.1 dX4_until_77 rfl (lv_at hl 0 rfl) ?_
        refine cl_v hI (rnV (As := []) (rest := []) S hI (c_bringBack l G _ (show gM (setM σ (th, nI n, mk, lf, nwz, (cpyA nw kp))) = (th, (nI n), mk, lf, nwz, (cpyA nw kp)) from rfl)) (cw_X4_X4_bringBack S.2.2.2.2 ⟨Nat.le_of_ble_eq_true rfl, Nat.le_of_ble_eq_true rfl⟩) (rcM hI) rfl hl.1 (Nat.le_of_ble_eq_true rfl) dX4_until_78 ⟨Nat.le_of_ble_eq_true rfl, Nat.le_of_ble_eq_true rfl⟩) (fun σ2 H locs hq2 hI => ?_)
        have ez2 := hq2
        refine lv_iload_n S.1 S.2.1 dX4_until_81 rfl (lv_at hl 3 rfl) ?_
        exact xt_i S hI hr hlk (⟨hT9.trans hU9, mk, lf, _, _, ez2, hpic.back (fun _ _ => rfl) (fun _ _ => rfl)⟩) (by decide) (by decide) dX4_until_82
    · skip
      refine lv_iload S.1 S.2.1 dX4_until_9 (lv_at hl 4 rfl) ?_
      refine lv_sipush (v := 200) S.1 S.2.1 dX4_until_11 (by decide) ?_
      refine lv_icmp_gt (tgt := 77) S.1 S.2.1 dX4_until_14 (by decide) (fun cz_14 => ?_) (fun c9 => absurd (nI_lt (a := 200) h39 (by omega)) c9)
      refine lv_aload_n S.1 S.2.1 dX4_until_77 rfl (lv_at hl 0 rfl) ?_
      refine cl_v hI (rnV (As := []) (rest := []) S hI (c_bringBack l G _ (show gM (setM σ (th, nI n, mk, lf, nwz, (cpyA nw kp))) = (th, (nI n), mk, lf, nwz, (cpyA nw kp)) from rfl)) (cw_X4_X4_bringBack S.2.2.2.2 ⟨Nat.le_of_ble_eq_true rfl, Nat.le_of_ble_eq_true rfl⟩) (rcM hI) rfl hl.1 (Nat.le_of_ble_eq_true rfl) dX4_until_78 ⟨Nat.le_of_ble_eq_true rfl, Nat.le_of_ble_eq_true rfl⟩) (fun σ1 H locs hq1 hI => ?_)
      have ez1 := hq1
      refine lv_iload_n S.1 S.2.1 dX4_until_81 rfl (lv_at hl 3 rfl) ?_
      exact xt_i S hI hr hlk (⟨hT9.trans hU9, mk, lf, _, _, ez1, hpic.back (fun _ _ => rfl) (fun _ _ => rfl)⟩) (by decide) (by decide) dX4_until_82
  have loop : ∀ (n1 : Nat) (k : Nat) (nwk : Nat → Int32), k + n1 = 201 → Pic (hourXs k α) n mk lf nwk → fst1 (fun j9 => decide ((gP (hourXs j9 α) q).1 = g)) 201 0 = fst1 (fun j9 => decide ((gP (hourXs j9 α) q).1 = g)) n1 k → ∀ (H : Heap) (locs : List Loc), Iv G (setM σ (th, nI n, mk, lf, nwk, (cpyA nw kp))) s H locs → ∀ ls : Array Slot, lv_has ls 6 [(0, .ref (gB G 3)), (1, .int (nI q)), (2, .int (nI (g - 1))), (3, .int (-1)), (4, .int (nI k))] → W p l e (rm 5 0 0) s m ([.ref (gB G 3), .int (nI q), .int (nI (g - 1))] : List Value).toArray below meth c H locs 0 0 (MQ below (Qi G (fun r σ' => r = hUntil (gX α).2.2.2 (gS α (gP α q).2.1) (gP α q) g ∧ Mq σ α th n σ')) ([.ref (gB G 3), .int (nI q), .int (nI (g - 1))] : List Value).toArray s 0 0 (gA G)) (F0 m 9 ls []) := by
    intro n1
    induction n1 with
    | zero =>
      intro k nwk hk0 hpk hF9 H locs hI ls hl
      exact done k nwk (-1) (by omega) hF9.symm (Or.inr (by omega)) _ _ hI ls hl
    | succ n1 ih =>
      intro k nwk hk0 hpk hF9 H locs hI ls hl
      have hw9 := nI_11 hg
      refine lv_iload S.1 S.2.1 dX4_until_9 (lv_at hl 4 rfl) ?_
      refine lv_sipush (v := 200) S.1 S.2.1 dX4_until_11 (by decide) ?_
      refine lv_icmp_gt (tgt := 77) S.1 S.2.1 dX4_until_14 (by decide) (fun c9 => absurd c9 (nI_nlt (b := k) (a := 200) (by omega) (by omega))) (fun cz_14 => ?_)
      refine lv_iload_n S.1 S.2.1 dX4_until_17 rfl (lv_at hl 3 rfl) ?_
      refine lv_iconst (v := (-1)) S.1 S.2.1 dX4_until_18 (by decide) ?_
      refine lv_icmp_ne (tgt := 77) S.1 S.2.1 dX4_until_19 (by decide) (fun c9 => absurd c9 (by decide)) (fun _ => ?_)
      refine lv_iload_n S.1 S.2.1 dX4_until_22 rfl (lv_at hl 2 rfl) ?_
      refine lv_bipush (v := 11) S.1 S.2.1 dX4_until_23 (by decide) ?_
      refine lv_icmp_ne (tgt := 50) S.1 S.2.1 dX4_until_25 (by decide) (fun cz_25 => ?_) (fun c9 => absurd c9 hw9)
      refine lv_aload_n S.1 S.2.1 dX4_until_50 rfl (lv_at hl 0 rfl) ?_
      refine lv_iload_n S.1 S.2.1 dX4_until_51 rfl (lv_at hl 1 rfl) ?_
      refine lv_iload_n S.1 S.2.1 dX4_until_52 rfl (lv_at hl 2 rfl) ?_
      refine cl_i hI (rnV (As := [.int (nI q), .int (nI (g - 1))]) (rest := []) S hI (c_isSo l G _ (show gM (setM σ (th, nI n, mk, lf, nwk, (cpyA nw kp))) = (th, (nI n), mk, lf, nwk, (cpyA nw kp)) from rfl) hpk (q := q) hq (g := g) hg) (cw_X4_X4_isSo S.2.2.2.2 ⟨Nat.le_of_ble_eq_true rfl, Nat.le_of_ble_eq_true rfl⟩) (rcM hI) rfl hl.1 (Nat.le_of_ble_eq_true rfl) dX4_until_53 ⟨Nat.le_of_ble_eq_true rfl, Nat.le_of_ble_eq_true rfl⟩) (fun r1 σ1 H locs hq1 hI => ?_)
      obtain ⟨hr1, hs1⟩ := hq1
      rw [hs1] at hI
      rw [hr1]
      refine lv_istore (lv' := [(5, .int (isI (gP (hourXs k α) q) g)), (0, .ref (gB G 3)), (1, .int (nI q)), (2, .int (nI (g - 1))), (3, .int (-1)), (4, .int (nI k))]) S.1 S.2.1 dX4_until_56 hl (by decide) rfl (fun ls hl => ?_)
      refine lv_iload S.1 S.2.1 dX4_until_58 (lv_at hl 0 rfl) ?_
      refine lv_if_eq (tgt := 66) S.1 S.2.1 dX4_until_60 (by decide) (fun cz_60 => ?_) (fun cz_60 => ?_)
      · refine lv_aload_n S.1 S.2.1 dX4_until_66 rfl (lv_at hl 1 rfl) ?_
        refine cl_i hI (rnV (As := []) (rest := []) S hI (c_hourOn l G _ (show gM (setM σ (th, nI n, mk, lf, nwk, (cpyA nw kp))) = (th, (nI n), mk, lf, nwk, (cpyA nw kp)) from rfl) hpk) (cw_X4_X4_hourOn S.2.2.2.2 ⟨Nat.le_of_ble_eq_true rfl, Nat.le_of_ble_eq_true rfl⟩) (rcM hI) rfl hl.1 (Nat.le_of_ble_eq_true rfl) dX4_until_67 ⟨Nat.le_of_ble_eq_true rfl, Nat.le_of_ble_eq_true rfl⟩) (fun r2 σ2 H locs hq2 hI => ?_)
        obtain ⟨nwz, ez2, hpz, hr2⟩ := hq2
        have hI : Iv G (setM σ (th, nI n, mk, lf, nwz, (cpyA nw kp))) s H locs := by rw [ez2] at hI; exact hI
        refine lv_pop S.1 S.2.1 dX4_until_70 rfl ?_
        refine lv_iinc (v := (nI (k + 1))) (lv' := [(4, .int (nI (k + 1))), (5, .int (isI (gP (hourXs k α) q) g)), (0, .ref (gB G 3)), (1, .int (nI q)), (2, .int (nI (g - 1))), (3, .int (-1))]) S.1 S.2.1 dX4_until_71 hl (k := 5) rfl (nI_1 k) (by decide) rfl (fun ls hl => ?_)
        refine lv_goto (tgt := 9) S.1 S.2.1 dX4_until_74 (by decide) ?_
        exact ih (k + 1) nwz (by omega) hpz (hF9.trans (if_neg (by rw [decide_eq_true_eq]; exact (ite01P cz_60)))) _ _ hI ls (lv_sub hl [2, 3, 4, 5, 0] rfl)
      · refine lv_iload S.1 S.2.1 dX4_until_63 (lv_at hl 5 rfl) ?_
        refine lv_istore_n (lv' := [(3, .int (nI k)), (5, .int (isI (gP (hourXs k α) q) g)), (0, .ref (gB G 3)), (1, .int (nI q)), (2, .int (nI (g - 1))), (4, .int (nI k))]) S.1 S.2.1 dX4_until_65 rfl hl (by decide) rfl (fun ls hl => ?_)
        refine lv_aload_n S.1 S.2.1 dX4_until_66 rfl (lv_at hl 2 rfl) ?_
        refine cl_i hI (rnV (As := []) (rest := []) S hI (c_hourOn l G _ (show gM (setM σ (th, nI n, mk, lf, nwk, (cpyA nw kp))) = (th, (nI n), mk, lf, nwk, (cpyA nw kp)) from rfl) hpk) (cw_X4_X4_hourOn S.2.2.2.2 ⟨Nat.le_of_ble_eq_true rfl, Nat.le_of_ble_eq_true rfl⟩) (rcM hI) rfl hl.1 (Nat.le_of_ble_eq_true rfl) dX4_until_67 ⟨Nat.le_of_ble_eq_true rfl, Nat.le_of_ble_eq_true rfl⟩) (fun r3 σ3 H locs hq3 hI => ?_)
        obtain ⟨nwz, ez3, hpz, hr3⟩ := hq3
        have hI : Iv G (setM σ (th, nI n, mk, lf, nwz, (cpyA nw kp))) s H locs := by rw [ez3] at hI; exact hI
        refine lv_pop S.1 S.2.1 dX4_until_70 rfl ?_
        refine lv_iinc (v := (nI (k + 1))) (lv' := [(4, .int (nI (k + 1))), (3, .int (nI k)), (5, .int (isI (gP (hourXs k α) q) g)), (0, .ref (gB G 3)), (1, .int (nI q)), (2, .int (nI (g - 1)))]) S.1 S.2.1 dX4_until_71 hl (k := 5) rfl (nI_1 k) (by decide) rfl (fun ls hl => ?_)
        refine lv_goto (tgt := 9) S.1 S.2.1 dX4_until_74 (by decide) ?_
        exact done (k + 1) nwz (nI k) (by omega) (by rw [hF9]; exact (if_pos (decide_eq_true (ite01Q cz_60))).symm) (Or.inl (nI_m1 (by omega))) _ _ hI ls (lv_sub hl [3, 4, 5, 1, 0] rfl)
  refine lv_aload_n S.1 S.2.1 dX4_until_0 rfl (lv_at hl 0 rfl) ?_
  refine cl_v hI (rnV (As := []) (rest := []) S hI (c_keepAll l G _ hm) (cw_X4_X4_keepAll S.2.2.2.2 ⟨Nat.le_of_ble_eq_true rfl, Nat.le_of_ble_eq_true rfl⟩) (rcM hI) rfl hl.1 (Nat.le_of_ble_eq_true rfl) dX4_until_1 ⟨Nat.le_of_ble_eq_true rfl, Nat.le_of_ble_eq_true rfl⟩) (fun σ1 H locs hq1 hI => ?_)
  have hI : Iv G (setM σ (th, nI n, mk, lf, nw, (cpyA nw kp))) s H locs := by rw [hq1] at hI; exact hI
  refine lv_iconst (v := (-1)) S.1 S.2.1 dX4_until_4 (by decide) ?_
  refine lv_istore_n (lv' := [(3, .int (-1)), (0, .ref (gB G 3)), (1, .int (nI q)), (2, .int (nI (g - 1)))]) S.1 S.2.1 dX4_until_5 rfl hl (by decide) rfl (fun ls hl => ?_)
  refine lv_iconst (v := (nI 0)) S.1 S.2.1 dX4_until_6 (by rfl) ?_
  refine lv_istore (lv' := [(4, .int (nI 0)), (3, .int (-1)), (0, .ref (gB G 3)), (1, .int (nI q)), (2, .int (nI (g - 1)))]) S.1 S.2.1 dX4_until_7 hl (by decide) rfl (fun ls hl => ?_)
  exact loop 201 0 nw rfl hpic rfl _ _ hI ls (lv_sub hl [2, 3, 4, 1, 0] rfl)
set_option maxRecDepth 100000 in
set_option maxHeartbeats 4000000 in
theorem c_until5 (l : Launch) (G : Gt) (σ : St) {α : St} {n : Nat} {th : Int32} {mk lf nw kp : Nat → Int32} (hm : gM σ = (th, nI n, mk, lf, nw, kp)) (hpic : Pic α n mk lf nw) {q : Nat} (hq : q < n)  : Ct l G yX4_until cX4_until 6 (some .int) 5 0 0 [.ref (gB G 3), .int (nI q), .int 11] σ (Qi G (fun r σ' => r = hUntil (gX α).2.2.2 (gS α (gP α q).2.1) (gP α q) 5 ∧ Mq σ α th n σ')) := by
  refine mt_intro (by decide +kernel) (Nat.le_of_ble_eq_true rfl) ?_
  intro p e s m below meth c S hr hlk hnm hI ls hl
  have hl : lv_has ls 6 [(0, .ref (gB G 3)), (1, .int (nI q)), (2, .int 11)] := hl
  have hn20 := hpic.1
  have hU9 := until_eq hpic.ok (q := q) (by omega) 5
  have done : ∀ (kk : Nat) (nwz : Nat → Int32) (T9 : Int32), kk ≤ 201 → T9 = fst1 (fun j9 => decide ((gP (hourXs j9 α) q).1 = 5)) 201 0 → (¬ T9 = -1 ∨ 200 < kk) → ∀ (H : Heap) (locs : List Loc), Iv G (setM σ (th, nI n, mk, lf, nwz, (cpyA nw kp))) s H locs → ∀ ls : Array Slot, lv_has ls 6 [(0, .ref (gB G 3)), (1, .int (nI q)), (2, .int 11), (3, .int T9), (4, .int (nI kk))] → W p l e (rm 5 0 0) s m ([.ref (gB G 3), .int (nI q), .int 11] : List Value).toArray below meth c H locs 0 0 (MQ below (Qi G (fun r σ' => r = hUntil (gX α).2.2.2 (gS α (gP α q).2.1) (gP α q) 5 ∧ Mq σ α th n σ')) ([.ref (gB G 3), .int (nI q), .int 11] : List Value).toArray s 0 0 (gA G)) (F0 m 9 ls []) := by
    intro kk nwz T9 hk1 hT9 h39 H locs hI ls hl
    rcases h39 with h39 | h39
    · skip
      refine lv_iload S.1 S.2.1 dX4_until_9 (lv_at hl 4 rfl) ?_
      refine lv_sipush (v := 200) S.1 S.2.1 dX4_until_11 (by decide) ?_
      refine lv_icmp_gt (tgt := 77) S.1 S.2.1 dX4_until_14 (by decide) (fun cz_14 => ?_) (fun cz_14 => ?_)
      · refine lv_aload_n S.1 S.2.1 dX4_until_77 rfl (lv_at hl 0 rfl) ?_
        refine cl_v hI (rnV (As := []) (rest := []) S hI (c_bringBack l G _ (show gM (setM σ (th, nI n, mk, lf, nwz, (cpyA nw kp))) = (th, (nI n), mk, lf, nwz, (cpyA nw kp)) from rfl)) (cw_X4_X4_bringBack S.2.2.2.2 ⟨Nat.le_of_ble_eq_true rfl, Nat.le_of_ble_eq_true rfl⟩) (rcM hI) rfl hl.1 (Nat.le_of_ble_eq_true rfl) dX4_until_78 ⟨Nat.le_of_ble_eq_true rfl, Nat.le_of_ble_eq_true rfl⟩) (fun σ1 H locs hq1 hI => ?_)
        have ez1 := hq1
        refine lv_iload_n S.1 S.2.1 dX4_until_81 rfl (lv_at hl 3 rfl) ?_
        exact xt_i S hI hr hlk (⟨hT9.trans hU9, mk, lf, _, _, ez1, hpic.back (fun _ _ => rfl) (fun _ _ => rfl)⟩) (by decide) (by decide) dX4_until_82
      · refine lv_iload_n S.1 S.2.1 dX4_until_17 rfl (lv_at hl 3 rfl) ?_
        refine lv_iconst (v := (-1)) S.1 S.2.1 dX4_until_18 (by decide) ?_
        refine lv_icmp_ne (tgt := 77) S.1 S.2.1 dX4_until_19 (by decide) (fun cz_19 => ?_) (fun c9 => absurd c9 h39)
        refine lv_aload_n S.1 S.2.1 dX4_until_77 rfl (lv_at hl 0 rfl) ?_
        refine cl_v hI (rnV (As := []) (rest := []) S hI (c_bringBack l G _ (show gM (setM σ (th, nI n, mk, lf, nwz, (cpyA nw kp))) = (th, (nI n), mk, lf, nwz, (cpyA nw kp)) from rfl)) (cw_X4_X4_bringBack S.2.2.2.2 ⟨Nat.le_of_ble_eq_true rfl, Nat.le_of_ble_eq_true rfl⟩) (rcM hI) rfl hl.1 (Nat.le_of_ble_eq_true rfl) dX4_until_78 ⟨Nat.le_of_ble_eq_true rfl, Nat.le_of_ble_eq_true rfl⟩) (fun σ2 H locs hq2 hI => ?_)
        have ez2 := hq2
        refine lv_iload_n S.1 S.2.1 dX4_until_81 rfl (lv_at hl 3 rfl) ?_
        exact xt_i S hI hr hlk (⟨hT9.trans hU9, mk, lf, _, _, ez2, hpic.back (fun _ _ => rfl) (fun _ _ => rfl)⟩) (by decide) (by decide) dX4_until_82
    · skip
      refine lv_iload S.1 S.2.1 dX4_until_9 (lv_at hl 4 rfl) ?_
      refine lv_sipush (v := 200) S.1 S.2.1 dX4_until_11 (by decide) ?_
      refine lv_icmp_gt (tgt := 77) S.1 S.2.1 dX4_until_14 (by decide) (fun cz_14 => ?_) (fun c9 => absurd (nI_lt (a := 200) h39 (by omega)) c9)
      refine lv_aload_n S.1 S.2.1 dX4_until_77 rfl (lv_at hl 0 rfl) ?_
      refine cl_v hI (rnV (As := []) (rest := []) S hI (c_bringBack l G _ (show gM (setM σ (th, nI n, mk, lf, nwz, (cpyA nw kp))) = (th, (nI n), mk, lf, nwz, (cpyA nw kp)) from rfl)) (cw_X4_X4_bringBack S.2.2.2.2 ⟨Nat.le_of_ble_eq_true rfl, Nat.le_of_ble_eq_true rfl⟩) (rcM hI) rfl hl.1 (Nat.le_of_ble_eq_true rfl) dX4_until_78 ⟨Nat.le_of_ble_eq_true rfl, Nat.le_of_ble_eq_true rfl⟩) (fun σ1 H locs hq1 hI => ?_)
      have ez1 := hq1
      refine lv_iload_n S.1 S.2.1 dX4_until_81 rfl (lv_at hl 3 rfl) ?_
      exact xt_i S hI hr hlk (⟨hT9.trans hU9, mk, lf, _, _, ez1, hpic.back (fun _ _ => rfl) (fun _ _ => rfl)⟩) (by decide) (by decide) dX4_until_82
  have loop : ∀ (n1 : Nat) (k : Nat) (nwk : Nat → Int32), k + n1 = 201 → Pic (hourXs k α) n mk lf nwk → fst1 (fun j9 => decide ((gP (hourXs j9 α) q).1 = 5)) 201 0 = fst1 (fun j9 => decide ((gP (hourXs j9 α) q).1 = 5)) n1 k → ∀ (H : Heap) (locs : List Loc), Iv G (setM σ (th, nI n, mk, lf, nwk, (cpyA nw kp))) s H locs → ∀ ls : Array Slot, lv_has ls 6 [(0, .ref (gB G 3)), (1, .int (nI q)), (2, .int 11), (3, .int (-1)), (4, .int (nI k))] → W p l e (rm 5 0 0) s m ([.ref (gB G 3), .int (nI q), .int 11] : List Value).toArray below meth c H locs 0 0 (MQ below (Qi G (fun r σ' => r = hUntil (gX α).2.2.2 (gS α (gP α q).2.1) (gP α q) 5 ∧ Mq σ α th n σ')) ([.ref (gB G 3), .int (nI q), .int 11] : List Value).toArray s 0 0 (gA G)) (F0 m 9 ls []) := by
    intro n1
    induction n1 with
    | zero =>
      intro k nwk hk0 hpk hF9 H locs hI ls hl
      exact done k nwk (-1) (by omega) hF9.symm (Or.inr (by omega)) _ _ hI ls hl
    | succ n1 ih =>
      intro k nwk hk0 hpk hF9 H locs hI ls hl
      have hend9 := (hpk.endI hq).2
      refine lv_iload S.1 S.2.1 dX4_until_9 (lv_at hl 4 rfl) ?_
      refine lv_sipush (v := 200) S.1 S.2.1 dX4_until_11 (by decide) ?_
      refine lv_icmp_gt (tgt := 77) S.1 S.2.1 dX4_until_14 (by decide) (fun c9 => absurd c9 (nI_nlt (b := k) (a := 200) (by omega) (by omega))) (fun cz_14 => ?_)
      refine lv_iload_n S.1 S.2.1 dX4_until_17 rfl (lv_at hl 3 rfl) ?_
      refine lv_iconst (v := (-1)) S.1 S.2.1 dX4_until_18 (by decide) ?_
      refine lv_icmp_ne (tgt := 77) S.1 S.2.1 dX4_until_19 (by decide) (fun c9 => absurd c9 (by decide)) (fun _ => ?_)
      refine lv_iload_n S.1 S.2.1 dX4_until_22 rfl (lv_at hl 2 rfl) ?_
      refine lv_bipush (v := 11) S.1 S.2.1 dX4_until_23 (by decide) ?_
      refine lv_icmp_ne (tgt := 50) S.1 S.2.1 dX4_until_25 (by decide) (fun c9 => absurd c9 (by decide)) (fun _ => ?_)
      refine lv_aload_n S.1 S.2.1 dX4_until_28 rfl (lv_at hl 0 rfl) ?_
      refine g_X4_M_now S hI dX4_until_29 ?_
      refine lv_iload_n S.1 S.2.1 dX4_until_32 rfl (lv_at hl 1 rfl) ?_
      refine lv_iconst (v := 4) S.1 S.2.1 dX4_until_33 (by decide) ?_
      refine cl_i hI (rnS (As := [.int (nI q), .int 4]) (rest := [.ref (gB G 6)]) S hI (c_of l G _ q 4) (cw_X4_X4_of S.2.2.2.2 ⟨Nat.le_of_ble_eq_true rfl, Nat.le_of_ble_eq_true rfl⟩) rfl hl.1 (Nat.le_of_ble_eq_true rfl) dX4_until_34 ⟨Nat.le_of_ble_eq_true rfl, Nat.le_of_ble_eq_true rfl⟩) (fun r1 σ1 H locs hq1 hI => ?_)
      obtain ⟨hr1, hs1⟩ := hq1
      rw [hs1] at hI
      rw [hr1]
      refine a_nw S hI (show gM (setM σ (th, nI n, mk, lf, nwk, (cpyA nw kp))) = (th, (nI n), mk, lf, nwk, (cpyA nw kp)) from rfl) (j := (13 + 5 * q + 4)) (by omega) dX4_until_37 ?_
      refine lv_iconst (v := 2) S.1 S.2.1 dX4_until_38 (by decide) ?_
      refine lv_icmp_ne (tgt := 46) S.1 S.2.1 dX4_until_39 (by decide) (fun cz_39 => ?_) (fun cz_39 => ?_)
      · refine lv_iconst (v := 0) S.1 S.2.1 dX4_until_46 (by decide) ?_
        refine lv_goto (tgt := 56) S.1 S.2.1 dX4_until_47 (by decide) ?_
        refine lv_istore (lv' := [(5, .int 0), (0, .ref (gB G 3)), (1, .int (nI q)), (2, .int 11), (3, .int (-1)), (4, .int (nI k))]) S.1 S.2.1 dX4_until_56 hl (by decide) rfl (fun ls hl => ?_)
        refine lv_iload S.1 S.2.1 dX4_until_58 (lv_at hl 0 rfl) ?_
        refine lv_if_eq (tgt := 66) S.1 S.2.1 dX4_until_60 (by decide) (fun _ => ?_) (fun c9 => absurd c9 (by decide))
        refine lv_aload_n S.1 S.2.1 dX4_until_66 rfl (lv_at hl 1 rfl) ?_
        refine cl_i hI (rnV (As := []) (rest := []) S hI (c_hourOn l G _ (show gM (setM σ (th, nI n, mk, lf, nwk, (cpyA nw kp))) = (th, (nI n), mk, lf, nwk, (cpyA nw kp)) from rfl) hpk) (cw_X4_X4_hourOn S.2.2.2.2 ⟨Nat.le_of_ble_eq_true rfl, Nat.le_of_ble_eq_true rfl⟩) (rcM hI) rfl hl.1 (Nat.le_of_ble_eq_true rfl) dX4_until_67 ⟨Nat.le_of_ble_eq_true rfl, Nat.le_of_ble_eq_true rfl⟩) (fun r2 σ2 H locs hq2 hI => ?_)
        obtain ⟨nwz, ez2, hpz, hr2⟩ := hq2
        have hI : Iv G (setM σ (th, nI n, mk, lf, nwz, (cpyA nw kp))) s H locs := by rw [ez2] at hI; exact hI
        refine lv_pop S.1 S.2.1 dX4_until_70 rfl ?_
        refine lv_iinc (v := (nI (k + 1))) (lv' := [(4, .int (nI (k + 1))), (5, .int 0), (0, .ref (gB G 3)), (1, .int (nI q)), (2, .int 11), (3, .int (-1))]) S.1 S.2.1 dX4_until_71 hl (k := 5) rfl (nI_1 k) (by decide) rfl (fun ls hl => ?_)
        refine lv_goto (tgt := 9) S.1 S.2.1 dX4_until_74 (by decide) ?_
        exact ih (k + 1) nwz (by omega) hpz (hF9.trans (if_neg (by rw [decide_eq_true_eq]; exact (fun z => cz_39 (hend9.mpr z))))) _ _ hI ls (lv_sub hl [2, 3, 4, 5, 0] rfl)
      · refine lv_iconst (v := 1) S.1 S.2.1 dX4_until_42 (by decide) ?_
        refine lv_goto (tgt := 56) S.1 S.2.1 dX4_until_43 (by decide) ?_
        refine lv_istore (lv' := [(5, .int 1), (0, .ref (gB G 3)), (1, .int (nI q)), (2, .int 11), (3, .int (-1)), (4, .int (nI k))]) S.1 S.2.1 dX4_until_56 hl (by decide) rfl (fun ls hl => ?_)
        refine lv_iload S.1 S.2.1 dX4_until_58 (lv_at hl 0 rfl) ?_
        refine lv_if_eq (tgt := 66) S.1 S.2.1 dX4_until_60 (by decide) (fun c9 => absurd c9 (by decide)) (fun _ => ?_)
        refine lv_iload S.1 S.2.1 dX4_until_63 (lv_at hl 5 rfl) ?_
        refine lv_istore_n (lv' := [(3, .int (nI k)), (5, .int 1), (0, .ref (gB G 3)), (1, .int (nI q)), (2, .int 11), (4, .int (nI k))]) S.1 S.2.1 dX4_until_65 rfl hl (by decide) rfl (fun ls hl => ?_)
        refine lv_aload_n S.1 S.2.1 dX4_until_66 rfl (lv_at hl 2 rfl) ?_
        refine cl_i hI (rnV (As := []) (rest := []) S hI (c_hourOn l G _ (show gM (setM σ (th, nI n, mk, lf, nwk, (cpyA nw kp))) = (th, (nI n), mk, lf, nwk, (cpyA nw kp)) from rfl) hpk) (cw_X4_X4_hourOn S.2.2.2.2 ⟨Nat.le_of_ble_eq_true rfl, Nat.le_of_ble_eq_true rfl⟩) (rcM hI) rfl hl.1 (Nat.le_of_ble_eq_true rfl) dX4_until_67 ⟨Nat.le_of_ble_eq_true rfl, Nat.le_of_ble_eq_true rfl⟩) (fun r3 σ3 H locs hq3 hI => ?_)
        obtain ⟨nwz, ez3, hpz, hr3⟩ := hq3
        have hI : Iv G (setM σ (th, nI n, mk, lf, nwz, (cpyA nw kp))) s H locs := by rw [ez3] at hI; exact hI
        refine lv_pop S.1 S.2.1 dX4_until_70 rfl ?_
        refine lv_iinc (v := (nI (k + 1))) (lv' := [(4, .int (nI (k + 1))), (3, .int (nI k)), (5, .int 1), (0, .ref (gB G 3)), (1, .int (nI q)), (2, .int 11)]) S.1 S.2.1 dX4_until_71 hl (k := 5) rfl (nI_1 k) (by decide) rfl (fun ls hl => ?_)
        refine lv_goto (tgt := 9) S.1 S.2.1 dX4_until_74 (by decide) ?_
        exact done (k + 1) nwz (nI k) (by omega) (by rw [hF9]; exact (if_pos (decide_eq_true (hend9.mp cz_39))).symm) (Or.inl (nI_m1 (by omega))) _ _ hI ls (lv_sub hl [3, 4, 5, 1, 0] rfl)
  refine lv_aload_n S.1 S.2.1 dX4_until_0 rfl (lv_at hl 0 rfl) ?_
  refine cl_v hI (rnV (As := []) (rest := []) S hI (c_keepAll l G _ hm) (cw_X4_X4_keepAll S.2.2.2.2 ⟨Nat.le_of_ble_eq_true rfl, Nat.le_of_ble_eq_true rfl⟩) (rcM hI) rfl hl.1 (Nat.le_of_ble_eq_true rfl) dX4_until_1 ⟨Nat.le_of_ble_eq_true rfl, Nat.le_of_ble_eq_true rfl⟩) (fun σ1 H locs hq1 hI => ?_)
  have hI : Iv G (setM σ (th, nI n, mk, lf, nw, (cpyA nw kp))) s H locs := by rw [hq1] at hI; exact hI
  refine lv_iconst (v := (-1)) S.1 S.2.1 dX4_until_4 (by decide) ?_
  refine lv_istore_n (lv' := [(3, .int (-1)), (0, .ref (gB G 3)), (1, .int (nI q)), (2, .int 11)]) S.1 S.2.1 dX4_until_5 rfl hl (by decide) rfl (fun ls hl => ?_)
  refine lv_iconst (v := (nI 0)) S.1 S.2.1 dX4_until_6 (by rfl) ?_
  refine lv_istore (lv' := [(4, .int (nI 0)), (3, .int (-1)), (0, .ref (gB G 3)), (1, .int (nI q)), (2, .int 11)]) S.1 S.2.1 dX4_until_7 hl (by decide) rfl (fun ls hl => ?_)
  exact loop 201 0 nw rfl hpic rfl _ _ hI ls (lv_sub hl [2, 3, 4, 1, 0] rfl)
set_option maxRecDepth 100000 in
set_option maxHeartbeats 4000000 in
theorem c_freezesOn (l : Launch) (G : Gt) (σ : St) {α : St} {n : Nat} {th : Int32} {mk lf nw kp : Nat → Int32} (hm : gM σ = (th, nI n, mk, lf, nw, kp)) (hpic : Pic α n mk lf nw) (hn : n < 20) {k9 : Nat} (hk : k9 < 5) : Ct l G yX4_freezesOn cX4_freezesOn 4 (some .int) 5 0 0 [.ref (gB G 3), .int (nI k9)] σ (Qi G (fun r σ' => r = freezeN (gX α).2.2.2 (gS α k9) ∧ Mq σ α th n σ')) := by
  refine mt_intro (by decide +kernel) (Nat.le_of_ble_eq_true rfl) ?_
  intro p e s m below meth c S hr hlk hnm hI ls hl
  have hl : lv_has ls 4 [(0, .ref (gB G 3)), (1, .int (nI k9))] := hl
  have hU9 := freeze_eq α hpic.ok hn hk
  have done : ∀ (kk : Nat) (nwz : Nat → Int32), kk ≤ 201 → (if 200 < kk then -1 else nI kk) = fst1 (fun j9 => decide ((gP (hourXs j9 (layS α n 0 100 k9)) n).1 = 2)) 201 0 → ∀ (H : Heap) (locs : List Loc), Iv G (setM σ (th, nI (n + 1), (va_up mk n 0), (va_up lf n 100), nwz, (cpyA nw kp))) s H locs → ∀ ls : Array Slot, lv_has ls 4 [(0, .ref (gB G 3)), (3, .int (nI kk))] → W p l e (rm 5 0 0) s m ([.ref (gB G 3), .int (nI k9)] : List Value).toArray below meth c H locs 0 0 (MQ below (Qi G (fun r σ' => r = freezeN (gX α).2.2.2 (gS α k9) ∧ Mq σ α th n σ')) ([.ref (gB G 3), .int (nI k9)] : List Value).toArray s 0 0 (gA G)) (F0 m 48 ls []) := by
    intro kk nwz hk1 hT9 H locs hI ls hl
    rcases Nat.lt_or_ge 200 kk with h39 | h39
    · skip
      refine lv_aload_n S.1 S.2.1 dX4_freezesOn_48 rfl (lv_at hl 0 rfl) ?_
      refine lv_dup S.1 S.2.1 dX4_freezesOn_49 rfl ?_
      refine g_X4_M_promises S hI (show gM (setM σ (th, nI (n + 1), (va_up mk n 0), (va_up lf n 100), nwz, (cpyA nw kp))) = (th, (nI (n + 1)), (va_up mk n 0), (va_up lf n 100), nwz, (cpyA nw kp)) from rfl) dX4_freezesOn_50 ?_
      refine lv_iconst (v := 1) S.1 S.2.1 dX4_freezesOn_53 (by decide) ?_
      refine lv_isub S.1 S.2.1 dX4_freezesOn_54 ?_
      rw [show ((nI (n + 1)) - 1) = (nI n) from nI_pred n]
      refine p_X4_M_promises S hI (show gM (setM σ (th, nI (n + 1), (va_up mk n 0), (va_up lf n 100), nwz, (cpyA nw kp))) = (th, (nI (n + 1)), (va_up mk n 0), (va_up lf n 100), nwz, (cpyA nw kp)) from rfl) dX4_freezesOn_55 (fun σ1 H locs ey1 hz1 hI => ?_)
      refine lv_aload_n S.1 S.2.1 dX4_freezesOn_58 rfl (lv_at hl 0 rfl) ?_
      refine cl_v hI (rnV (As := []) (rest := []) S hI (c_bringBack l G _ hz1) (cw_X4_X4_bringBack S.2.2.2.2 ⟨Nat.le_of_ble_eq_true rfl, Nat.le_of_ble_eq_true rfl⟩) (rcM hI) rfl hl.1 (Nat.le_of_ble_eq_true rfl) dX4_freezesOn_59 ⟨Nat.le_of_ble_eq_true rfl, Nat.le_of_ble_eq_true rfl⟩) (fun σ2 H locs hq2 hI => ?_)
      have ez2 := hq2
      refine lv_iload_n S.1 S.2.1 dX4_freezesOn_62 rfl (lv_at hl 1 rfl) ?_
      refine lv_sipush (v := 200) S.1 S.2.1 dX4_freezesOn_63 (by decide) ?_
      refine lv_icmp_le (tgt := 73) S.1 S.2.1 dX4_freezesOn_66 (by decide) (fun c9 => absurd c9 (nI_ge (a := 200) h39 (by omega))) (fun cz_66 => ?_)
      refine lv_iconst (v := (-1)) S.1 S.2.1 dX4_freezesOn_69 (by decide) ?_
      refine lv_goto (tgt := 74) S.1 S.2.1 dX4_freezesOn_70 (by decide) ?_
      exact xt_i S hI hr hlk (⟨((if_pos h39).symm).trans (hT9.trans hU9), (va_up mk n 0), (va_up lf n 100), _, _, (by rw [ez2, ey1]; rfl), hpic.back (fun q9 h9 => va_up_ne _ _ (by omega)) (fun q9 h9 => va_up_ne _ _ (by omega))⟩) (by decide) (by decide) dX4_freezesOn_74
    · skip
      refine lv_aload_n S.1 S.2.1 dX4_freezesOn_48 rfl (lv_at hl 0 rfl) ?_
      refine lv_dup S.1 S.2.1 dX4_freezesOn_49 rfl ?_
      refine g_X4_M_promises S hI (show gM (setM σ (th, nI (n + 1), (va_up mk n 0), (va_up lf n 100), nwz, (cpyA nw kp))) = (th, (nI (n + 1)), (va_up mk n 0), (va_up lf n 100), nwz, (cpyA nw kp)) from rfl) dX4_freezesOn_50 ?_
      refine lv_iconst (v := 1) S.1 S.2.1 dX4_freezesOn_53 (by decide) ?_
      refine lv_isub S.1 S.2.1 dX4_freezesOn_54 ?_
      rw [show ((nI (n + 1)) - 1) = (nI n) from nI_pred n]
      refine p_X4_M_promises S hI (show gM (setM σ (th, nI (n + 1), (va_up mk n 0), (va_up lf n 100), nwz, (cpyA nw kp))) = (th, (nI (n + 1)), (va_up mk n 0), (va_up lf n 100), nwz, (cpyA nw kp)) from rfl) dX4_freezesOn_55 (fun σ1 H locs ey1 hz1 hI => ?_)
      refine lv_aload_n S.1 S.2.1 dX4_freezesOn_58 rfl (lv_at hl 0 rfl) ?_
      refine cl_v hI (rnV (As := []) (rest := []) S hI (c_bringBack l G _ hz1) (cw_X4_X4_bringBack S.2.2.2.2 ⟨Nat.le_of_ble_eq_true rfl, Nat.le_of_ble_eq_true rfl⟩) (rcM hI) rfl hl.1 (Nat.le_of_ble_eq_true rfl) dX4_freezesOn_59 ⟨Nat.le_of_ble_eq_true rfl, Nat.le_of_ble_eq_true rfl⟩) (fun σ2 H locs hq2 hI => ?_)
      have ez2 := hq2
      refine lv_iload_n S.1 S.2.1 dX4_freezesOn_62 rfl (lv_at hl 1 rfl) ?_
      refine lv_sipush (v := 200) S.1 S.2.1 dX4_freezesOn_63 (by decide) ?_
      refine lv_icmp_le (tgt := 73) S.1 S.2.1 dX4_freezesOn_66 (by decide) (fun cz_66 => ?_) (fun c9 => absurd (nI_le (b := 200) h39 (by omega)) c9)
      refine lv_iload_n S.1 S.2.1 dX4_freezesOn_73 rfl (lv_at hl 1 rfl) ?_
      exact xt_i S hI hr hlk (⟨((if_neg (by omega)).symm).trans (hT9.trans hU9), (va_up mk n 0), (va_up lf n 100), _, _, (by rw [ez2, ey1]; rfl), hpic.back (fun q9 h9 => va_up_ne _ _ (by omega)) (fun q9 h9 => va_up_ne _ _ (by omega))⟩) (by decide) (by decide) dX4_freezesOn_74
  have loop : ∀ (n1 : Nat) (k : Nat) (nwk : Nat → Int32), k + n1 = 201 → Pic (hourXs k (layS α n 0 100 k9)) (n + 1) (va_up mk n 0) (va_up lf n 100) nwk → fst1 (fun j9 => decide ((gP (hourXs j9 (layS α n 0 100 k9)) n).1 = 2)) 201 0 = fst1 (fun j9 => decide ((gP (hourXs j9 (layS α n 0 100 k9)) n).1 = 2)) n1 k → ∀ (H : Heap) (locs : List Loc), Iv G (setM σ (th, nI (n + 1), (va_up mk n 0), (va_up lf n 100), nwk, (cpyA nw kp))) s H locs → ∀ ls : Array Slot, lv_has ls 4 [(0, .ref (gB G 3)), (2, .int (nI n)), (3, .int (nI k))] → W p l e (rm 5 0 0) s m ([.ref (gB G 3), .int (nI k9)] : List Value).toArray below meth c H locs 0 0 (MQ below (Qi G (fun r σ' => r = freezeN (gX α).2.2.2 (gS α k9) ∧ Mq σ α th n σ')) ([.ref (gB G 3), .int (nI k9)] : List Value).toArray s 0 0 (gA G)) (F0 m 21 ls []) := by
    intro n1
    induction n1 with
    | zero =>
      intro k nwk hk0 hpk hF9 H locs hI ls hl
      refine lv_iload_n S.1 S.2.1 dX4_freezesOn_21 rfl (lv_at hl 2 rfl) ?_
      refine lv_sipush (v := 200) S.1 S.2.1 dX4_freezesOn_22 (by decide) ?_
      refine lv_icmp_gt (tgt := 48) S.1 S.2.1 dX4_freezesOn_25 (by decide) (fun cz_25 => ?_) (fun c9 => absurd (nI_lt (a := 200) (by omega) (by omega)) c9)
      exact done k nwk (by omega) (by rw [if_pos (by omega)]; exact hF9.symm) _ _ hI ls (lv_sub hl [0, 2] rfl)
    | succ n1 ih =>
      intro k nwk hk0 hpk hF9 H locs hI ls hl
      refine lv_iload_n S.1 S.2.1 dX4_freezesOn_21 rfl (lv_at hl 2 rfl) ?_
      refine lv_sipush (v := 200) S.1 S.2.1 dX4_freezesOn_22 (by decide) ?_
      refine lv_icmp_gt (tgt := 48) S.1 S.2.1 dX4_freezesOn_25 (by decide) (fun c9 => absurd c9 (nI_nlt (b := k) (a := 200) (by omega) (by omega))) (fun cz_25 => ?_)
      refine lv_aload_n S.1 S.2.1 dX4_freezesOn_28 rfl (lv_at hl 0 rfl) ?_
      refine lv_iload_n S.1 S.2.1 dX4_freezesOn_29 rfl (lv_at hl 1 rfl) ?_
      refine lv_iconst (v := 1) S.1 S.2.1 dX4_freezesOn_30 (by decide) ?_
      refine cl_i hI (rnV (As := [.int (nI n), .int 1]) (rest := []) S hI (c_isSo l G _ (show gM (setM σ (th, nI (n + 1), (va_up mk n 0), (va_up lf n 100), nwk, (cpyA nw kp))) = (th, (nI (n + 1)), (va_up mk n 0), (va_up lf n 100), nwk, (cpyA nw kp)) from rfl) hpk (q := n) (by omega) (g := 2) (Or.inl rfl)) (cw_X4_X4_isSo S.2.2.2.2 ⟨Nat.le_of_ble_eq_true rfl, Nat.le_of_ble_eq_true rfl⟩) (rcM hI) rfl hl.1 (Nat.le_of_ble_eq_true rfl) dX4_freezesOn_31 ⟨Nat.le_of_ble_eq_true rfl, Nat.le_of_ble_eq_true rfl⟩) (fun r1 σ1 H locs hq1 hI => ?_)
      obtain ⟨hr1, hs1⟩ := hq1
      rw [hs1] at hI
      rw [hr1]
      refine lv_if_ne (tgt := 48) S.1 S.2.1 dX4_freezesOn_34 (by decide) (fun cz_34 => ?_) (fun cz_34 => ?_)
      · exact done k nwk (by omega) (by rw [if_neg (by omega), hF9]; exact (if_pos (decide_eq_true (ite01Q cz_34))).symm) _ _ hI ls (lv_sub hl [0, 2] rfl)
      · refine lv_aload_n S.1 S.2.1 dX4_freezesOn_37 rfl (lv_at hl 0 rfl) ?_
        refine cl_i hI (rnV (As := []) (rest := []) S hI (c_hourOn l G _ (show gM (setM σ (th, nI (n + 1), (va_up mk n 0), (va_up lf n 100), nwk, (cpyA nw kp))) = (th, (nI (n + 1)), (va_up mk n 0), (va_up lf n 100), nwk, (cpyA nw kp)) from rfl) hpk) (cw_X4_X4_hourOn S.2.2.2.2 ⟨Nat.le_of_ble_eq_true rfl, Nat.le_of_ble_eq_true rfl⟩) (rcM hI) rfl hl.1 (Nat.le_of_ble_eq_true rfl) dX4_freezesOn_38 ⟨Nat.le_of_ble_eq_true rfl, Nat.le_of_ble_eq_true rfl⟩) (fun r2 σ2 H locs hq2 hI => ?_)
        obtain ⟨nwz, ez2, hpz, hr2⟩ := hq2
        have hI : Iv G (setM σ (th, nI (n + 1), (va_up mk n 0), (va_up lf n 100), nwz, (cpyA nw kp))) s H locs := by rw [ez2] at hI; exact hI
        refine lv_pop S.1 S.2.1 dX4_freezesOn_41 rfl ?_
        refine lv_iinc (v := (nI (k + 1))) (lv' := [(3, .int (nI (k + 1))), (0, .ref (gB G 3)), (2, .int (nI n))]) S.1 S.2.1 dX4_freezesOn_42 hl (k := 2) rfl (nI_1 k) (by decide) rfl (fun ls hl => ?_)
        refine lv_goto (tgt := 21) S.1 S.2.1 dX4_freezesOn_45 (by decide) ?_
        exact ih (k + 1) nwz (by omega) hpz (hF9.trans (if_neg (by rw [decide_eq_true_eq]; exact (ite01P cz_34)))) _ _ hI ls (lv_sub hl [1, 2, 0] rfl)
  refine lv_aload_n S.1 S.2.1 dX4_freezesOn_0 rfl (lv_at hl 0 rfl) ?_
  refine cl_v hI (rnV (As := []) (rest := []) S hI (c_keepAll l G _ hm) (cw_X4_X4_keepAll S.2.2.2.2 ⟨Nat.le_of_ble_eq_true rfl, Nat.le_of_ble_eq_true rfl⟩) (rcM hI) rfl hl.1 (Nat.le_of_ble_eq_true rfl) dX4_freezesOn_1 ⟨Nat.le_of_ble_eq_true rfl, Nat.le_of_ble_eq_true rfl⟩) (fun σ1 H locs hq1 hI => ?_)
  have hI : Iv G (setM σ (th, nI n, mk, lf, nw, (cpyA nw kp))) s H locs := by rw [hq1] at hI; exact hI
  have hmz : gM (setM σ (th, nI n, mk, lf, nw, (cpyA nw kp))) = (th, nI n, mk, lf, putZ nw n (nw (13 + 5 * n + 0), nw (13 + 5 * n + 1), nw (13 + 5 * n + 2), nw (13 + 5 * n + 3), nw (13 + 5 * n + 4)), cpyA nw kp) := by rw [putZ_self]; rfl
  refine lv_aload_n S.1 S.2.1 dX4_freezesOn_4 rfl (lv_at hl 0 rfl) ?_
  refine lv_iconst (v := 0) S.1 S.2.1 dX4_freezesOn_5 (by decide) ?_
  refine lv_bipush (v := 100) S.1 S.2.1 dX4_freezesOn_6 (by decide) ?_
  refine lv_iload_n S.1 S.2.1 dX4_freezesOn_8 rfl (lv_at hl 1 rfl) ?_
  refine cl_v hI (rnV (As := [.int 0, .int 100, .int (nI k9)]) (rest := []) S hI (c_lay l G _ hn (k := k9) hk hmz 0 100) (cw_X4_X4_lay S.2.2.2.2 ⟨Nat.le_of_ble_eq_true rfl, Nat.le_of_ble_eq_true rfl⟩) (rcM hI) rfl hl.1 (Nat.le_of_ble_eq_true rfl) dX4_freezesOn_9 ⟨Nat.le_of_ble_eq_true rfl, Nat.le_of_ble_eq_true rfl⟩) (fun σ2 H locs hq2 hI => ?_)
  have hI : Iv G (setM σ (th, nI (n + 1), (va_up mk n 0), (va_up lf n 100), (va_up (putZ nw n (nI k9, 20, 0, 0, 0)) (3 + 2 * k9 + 1) (openH (putZ nw n (nI k9, 20, 0, 0, 0) (3 + 2 * k9 + 1)))), (cpyA nw kp))) s H locs := by rw [hq2] at hI; exact hI
  refine lv_aload_n S.1 S.2.1 dX4_freezesOn_12 rfl (lv_at hl 0 rfl) ?_
  refine g_X4_M_promises S hI (show gM (setM σ (th, nI (n + 1), (va_up mk n 0), (va_up lf n 100), (va_up (putZ nw n (nI k9, 20, 0, 0, 0)) (3 + 2 * k9 + 1) (openH (putZ nw n (nI k9, 20, 0, 0, 0) (3 + 2 * k9 + 1)))), (cpyA nw kp))) = (th, (nI (n + 1)), (va_up mk n 0), (va_up lf n 100), (va_up (putZ nw n (nI k9, 20, 0, 0, 0)) (3 + 2 * k9 + 1) (openH (putZ nw n (nI k9, 20, 0, 0, 0) (3 + 2 * k9 + 1)))), (cpyA nw kp)) from rfl) dX4_freezesOn_13 ?_
  refine lv_iconst (v := 1) S.1 S.2.1 dX4_freezesOn_16 (by decide) ?_
  refine lv_isub S.1 S.2.1 dX4_freezesOn_17 ?_
  rw [show ((nI (n + 1)) - 1) = (nI n) from nI_pred n]
  refine lv_istore_n (lv' := [(2, .int (nI n)), (0, .ref (gB G 3)), (1, .int (nI k9))]) S.1 S.2.1 dX4_freezesOn_18 rfl hl (by decide) rfl (fun ls hl => ?_)
  refine lv_iconst (v := (nI 0)) S.1 S.2.1 dX4_freezesOn_19 (by rfl) ?_
  refine lv_istore_n (lv' := [(3, .int (nI 0)), (2, .int (nI n)), (0, .ref (gB G 3)), (1, .int (nI k9))]) S.1 S.2.1 dX4_freezesOn_20 rfl hl (by decide) rfl (fun ls hl => ?_)
  exact loop 201 0 _ rfl (hpic.lay hn hk 0 100) rfl _ _ hI ls (lv_sub hl [2, 1, 0] rfl)
theorem freezeN_or (pw : Int32) (q : Sh) : freezeN pw q = -1 ∨ ∃ j, 1 ≤ j ∧ j < 201 ∧ freezeN pw q = nI j := fst1_or
def soonI (c9 : Int32) : Int32 := if c9 = -1 then 201 else c9
theorem soon_yes {f9 c9 : Int32} (h1 : ¬ f9 = -1) (h2 : f9 < soonI c9) : sooner f9 c9 = true := by
  unfold soonI at h2
  simp only [sooner, decide_eq_true_eq]
  refine ⟨h1, ?_⟩
  by_cases q : c9 = -1
  · exact Or.inl q
  · rw [if_neg q] at h2
    exact Or.inr (Int32.not_le.mpr h2)
theorem soon_no {f9 c9 : Int32} (h0 : ∃ j, 1 ≤ j ∧ j < 201 ∧ f9 = nI j) (h2 : ¬ f9 < soonI c9) : ¬ sooner f9 c9 = true := by
  unfold soonI at h2
  simp only [sooner, decide_eq_true_eq]
  rintro ⟨-, q | q⟩
  · rw [if_pos q] at h2
    obtain ⟨j, -, hj, rfl⟩ := h0
    exact h2 (nI_lt (b := 201) hj (by omega))
  · have q1 : ¬ c9 = -1 := fun z => by
      obtain ⟨j, -, hj, rfl⟩ := h0
      subst z
      apply q
      rw [Int32.le_iff_toInt_le, nI_toInt (by omega)]
      have e : (-1 : Int32).toInt = -1 := by decide
      omega
    rw [if_neg q1] at h2
    exact q (Int32.not_lt.mp h2)
theorem soon_m (c9 : Int32) : ¬ sooner (-1) c9 = true := by rw [sooner_n]; decide
set_option maxRecDepth 100000 in
set_option maxHeartbeats 4000000 in
theorem c_best (l : Launch) (G : Gt) (σ : St) {α : St} {n : Nat} {th : Int32} {mk lf nw kp : Nat → Int32} (hm : gM σ = (th, nI n, mk, lf, nw, kp)) (hpic : Pic α n mk lf nw) : Ct l G yX4_best cX4_best 5 (some .int) 6 0 0 [.ref (gB G 3)] σ (Qi G (fun r σ' => r = (if n < 20 then (bestF α 5).1 else -1) ∧ Mq σ α th n σ')) := by
  refine mt_intro (by decide +kernel) (Nat.le_of_ble_eq_true rfl) ?_
  intro p e s m below meth c S hr hlk hnm hI ls hl
  have hl : lv_has ls 5 [(0, .ref (gB G 3))] := hl
  rcases Nat.lt_or_ge n 20 with hlt | hge
  · skip
    have loop : ∀ (n1 : Nat) (k : Nat) (mkz lfz nwz kpz : Nat → Int32), k + n1 = 5 → Pic α n mkz lfz nwz → ∀ (H : Heap) (locs : List Loc), Iv G (setM σ (th, nI n, mkz, lfz, nwz, kpz)) s H locs → ∀ ls : Array Slot, lv_has ls 5 [(0, .ref (gB G 3)), (1, .int ((bestF α k).1)), (2, .int (soonI (bestF α k).2)), (3, .int (nI k))] → W p l e (rm 6 0 0) s m ([.ref (gB G 3)] : List Value).toArray below meth c H locs 0 0 (MQ below (Qi G (fun r σ' => r = (if n < 20 then (bestF α 5).1 else -1) ∧ Mq σ α th n σ')) ([.ref (gB G 3)] : List Value).toArray s 0 0 (gA G)) (F0 m 8 ls []) := by
      intro n1
      induction n1 with
      | zero =>
        intro k mkz lfz nwz kpz hk0 hpk H locs hI ls hl
        obtain rfl : k = 5 := by omega
        refine lv_iload_n S.1 S.2.1 dX4_best_8 rfl (lv_at hl 3 rfl) ?_
        refine lv_iconst (v := 5) S.1 S.2.1 dX4_best_9 (by decide) ?_
        refine lv_icmp_ge (tgt := 55) S.1 S.2.1 dX4_best_10 (by decide) (fun cz_10 => ?_) (fun c9 => absurd (nI_le (a := 5) (b := 5) (Nat.le_refl 5) (by omega)) c9)
        refine lv_iload_n S.1 S.2.1 dX4_best_55 rfl (lv_at hl 1 rfl) ?_
        exact xt_i S hI hr hlk (⟨(if_pos hlt).symm, mkz, lfz, nwz, kpz, rfl, hpk⟩) (by decide) (by decide) dX4_best_56
      | succ n1 ih =>
        intro k mkz lfz nwz kpz hk0 hpk H locs hI ls hl
        have hk2 : k < 5 := by omega
        refine lv_iload_n S.1 S.2.1 dX4_best_8 rfl (lv_at hl 3 rfl) ?_
        refine lv_iconst (v := 5) S.1 S.2.1 dX4_best_9 (by decide) ?_
        refine lv_icmp_ge (tgt := 55) S.1 S.2.1 dX4_best_10 (by decide) (fun c9 => absurd c9 (nI_ge (b := 5) hk2 (by omega))) (fun cz_10 => ?_)
        refine lv_aload_n S.1 S.2.1 dX4_best_13 rfl (lv_at hl 0 rfl) ?_
        refine g_X4_M_promises S hI (show gM (setM σ (th, nI n, mkz, lfz, nwz, kpz)) = (th, nI n, mkz, lfz, nwz, kpz) from rfl) dX4_best_14 ?_
        refine lv_bipush (v := 20) S.1 S.2.1 dX4_best_17 (by decide) ?_
        refine lv_icmp_ge (tgt := 55) S.1 S.2.1 dX4_best_19 (by decide) (fun c9 => absurd c9 (nI_ge (b := 20) hlt (by omega))) (fun cz_19 => ?_)
        refine lv_aload_n S.1 S.2.1 dX4_best_22 rfl (lv_at hl 0 rfl) ?_
        refine lv_iload_n S.1 S.2.1 dX4_best_23 rfl (lv_at hl 3 rfl) ?_
        refine cl_i hI (rnV (As := [.int (nI k)]) (rest := []) S hI (c_freezesOn l G _ (show gM (setM σ (th, nI n, mkz, lfz, nwz, kpz)) = (th, nI n, mkz, lfz, nwz, kpz) from rfl) hpk hlt (k9 := k) hk2) (cw_X4_X4_freezesOn S.2.2.2.2 ⟨Nat.le_of_ble_eq_true rfl, Nat.le_of_ble_eq_true rfl⟩) (rcM hI) rfl hl.1 (Nat.le_of_ble_eq_true rfl) dX4_best_24 ⟨Nat.le_of_ble_eq_true rfl, Nat.le_of_ble_eq_true rfl⟩) (fun r1 σ1 H locs hq1 hI => ?_)
        obtain ⟨hr1, mky, lfy, nwy, kpy, ez1, hpy⟩ := hq1
        rw [hr1]
        have hI : Iv G (setM σ (th, nI n, mky, lfy, nwy, kpy)) s H locs := by rw [ez1] at hI; exact hI
        refine lv_istore (lv' := [(4, .int (freezeN (gX α).2.2.2 (gS α k))), (0, .ref (gB G 3)), (1, .int ((bestF α k).1)), (2, .int (soonI (bestF α k).2)), (3, .int (nI k))]) S.1 S.2.1 dX4_best_27 hl (by decide) rfl (fun ls hl => ?_)
        refine lv_iload S.1 S.2.1 dX4_best_29 (lv_at hl 0 rfl) ?_
        refine lv_iconst (v := (-1)) S.1 S.2.1 dX4_best_31 (by decide) ?_
        refine lv_icmp_eq (tgt := 49) S.1 S.2.1 dX4_best_32 (by decide) (fun cz_32 => ?_) (fun cz_32 => ?_)
        · refine lv_iinc (v := (nI (k + 1))) (lv' := [(3, .int (nI (k + 1))), (4, .int (freezeN (gX α).2.2.2 (gS α k))), (0, .ref (gB G 3)), (1, .int ((bestF α k).1)), (2, .int (soonI (bestF α k).2))]) S.1 S.2.1 dX4_best_49 hl (k := 4) rfl (nI_1 k) (by decide) rfl (fun ls hl => ?_)
          refine lv_goto (tgt := 8) S.1 S.2.1 dX4_best_52 (by decide) ?_
          exact ih (k + 1) _ _ _ _ (by omega) hpy _ _ hI ls (by rw [show bestF α (k + 1) = bestF α k from if_neg (by rw [cz_32]; exact soon_m _)]; exact lv_sub hl [2, 3, 4, 0] rfl)
        · refine lv_iload S.1 S.2.1 dX4_best_35 (lv_at hl 0 rfl) ?_
          refine lv_iload_n S.1 S.2.1 dX4_best_37 rfl (lv_at hl 3 rfl) ?_
          refine lv_icmp_lt (tgt := 44) S.1 S.2.1 dX4_best_38 (by decide) (fun cz_38 => ?_) (fun cz_38 => ?_)
          · refine lv_iload_n S.1 S.2.1 dX4_best_44 rfl (lv_at hl 4 rfl) ?_
            refine lv_istore_n (lv' := [(1, .int (nI k)), (4, .int (freezeN (gX α).2.2.2 (gS α k))), (0, .ref (gB G 3)), (2, .int (soonI (bestF α k).2)), (3, .int (nI k))]) S.1 S.2.1 dX4_best_45 rfl hl (by decide) rfl (fun ls hl => ?_)
            refine lv_iload S.1 S.2.1 dX4_best_46 (lv_at hl 1 rfl) ?_
            refine lv_istore_n (lv' := [(2, .int (freezeN (gX α).2.2.2 (gS α k))), (1, .int (nI k)), (4, .int (freezeN (gX α).2.2.2 (gS α k))), (0, .ref (gB G 3)), (3, .int (nI k))]) S.1 S.2.1 dX4_best_48 rfl hl (by decide) rfl (fun ls hl => ?_)
            refine lv_iinc (v := (nI (k + 1))) (lv' := [(3, .int (nI (k + 1))), (2, .int (freezeN (gX α).2.2.2 (gS α k))), (1, .int (nI k)), (4, .int (freezeN (gX α).2.2.2 (gS α k))), (0, .ref (gB G 3))]) S.1 S.2.1 dX4_best_49 hl (k := 4) rfl (nI_1 k) (by decide) rfl (fun ls hl => ?_)
            refine lv_goto (tgt := 8) S.1 S.2.1 dX4_best_52 (by decide) ?_
            exact ih (k + 1) _ _ _ _ (by omega) hpy _ _ hI ls (by rw [show bestF α (k + 1) = (nI k, (freezeN (gX α).2.2.2 (gS α k))) from if_pos (soon_yes cz_32 cz_38)]; rw [show soonI (nI k, (freezeN (gX α).2.2.2 (gS α k))).2 = (freezeN (gX α).2.2.2 (gS α k)) from if_neg cz_32]; exact lv_sub hl [4, 2, 1, 0] rfl)
          · refine lv_goto (tgt := 49) S.1 S.2.1 dX4_best_41 (by decide) ?_
            refine lv_iinc (v := (nI (k + 1))) (lv' := [(3, .int (nI (k + 1))), (4, .int (freezeN (gX α).2.2.2 (gS α k))), (0, .ref (gB G 3)), (1, .int ((bestF α k).1)), (2, .int (soonI (bestF α k).2))]) S.1 S.2.1 dX4_best_49 hl (k := 4) rfl (nI_1 k) (by decide) rfl (fun ls hl => ?_)
            refine lv_goto (tgt := 8) S.1 S.2.1 dX4_best_52 (by decide) ?_
            exact ih (k + 1) _ _ _ _ (by omega) hpy _ _ hI ls (by rw [show bestF α (k + 1) = bestF α k from if_neg (soon_no ((freezeN_or _ _).resolve_left cz_32) cz_38)]; exact lv_sub hl [2, 3, 4, 0] rfl)
    have hI : Iv G (setM σ (th, nI n, mk, lf, nw, kp)) s s.heap [] := by rw [← hm]; exact hI
    refine lv_iconst (v := (-1)) S.1 S.2.1 dX4_best_0 (by decide) ?_
    refine lv_istore_n (lv' := [(1, .int (-1)), (0, .ref (gB G 3))]) S.1 S.2.1 dX4_best_1 rfl hl (by decide) rfl (fun ls hl => ?_)
    refine lv_sipush (v := (soonI (bestF α 0).2)) S.1 S.2.1 dX4_best_2 (by rfl) ?_
    refine lv_istore_n (lv' := [(2, .int (soonI (bestF α 0).2)), (1, .int (-1)), (0, .ref (gB G 3))]) S.1 S.2.1 dX4_best_5 rfl hl (by decide) rfl (fun ls hl => ?_)
    refine lv_iconst (v := (nI 0)) S.1 S.2.1 dX4_best_6 (by rfl) ?_
    refine lv_istore_n (lv' := [(3, .int (nI 0)), (2, .int (soonI (bestF α 0).2)), (1, .int (-1)), (0, .ref (gB G 3))]) S.1 S.2.1 dX4_best_7 rfl hl (by decide) rfl (fun ls hl => ?_)
    exact loop 5 0 mk lf nw kp rfl hpic _ _ hI ls (lv_sub hl [3, 2, 1, 0] rfl)
  · skip
    refine lv_iconst (v := (-1)) S.1 S.2.1 dX4_best_0 (by decide) ?_
    refine lv_istore_n (lv' := [(1, .int (-1)), (0, .ref (gB G 3))]) S.1 S.2.1 dX4_best_1 rfl hl (by decide) rfl (fun ls hl => ?_)
    refine lv_sipush (v := 201) S.1 S.2.1 dX4_best_2 (by decide) ?_
    refine lv_istore_n (lv' := [(2, .int 201), (1, .int (-1)), (0, .ref (gB G 3))]) S.1 S.2.1 dX4_best_5 rfl hl (by decide) rfl (fun ls hl => ?_)
    refine lv_iconst (v := (nI 0)) S.1 S.2.1 dX4_best_6 (by rfl) ?_
    refine lv_istore_n (lv' := [(3, .int (nI 0)), (2, .int 201), (1, .int (-1)), (0, .ref (gB G 3))]) S.1 S.2.1 dX4_best_7 rfl hl (by decide) rfl (fun ls hl => ?_)
    refine lv_iload_n S.1 S.2.1 dX4_best_8 rfl (lv_at hl 0 rfl) ?_
    refine lv_iconst (v := 5) S.1 S.2.1 dX4_best_9 (by decide) ?_
    refine lv_icmp_ge (tgt := 55) S.1 S.2.1 dX4_best_10 (by decide) (fun c9 => absurd c9 (nI_ge (b := 5) (a := 0) (by omega) (by omega))) (fun cz_10 => ?_)
    refine lv_aload_n S.1 S.2.1 dX4_best_13 rfl (lv_at hl 3 rfl) ?_
    refine g_X4_M_promises S hI hm dX4_best_14 ?_
    refine lv_bipush (v := 20) S.1 S.2.1 dX4_best_17 (by decide) ?_
    refine lv_icmp_ge (tgt := 55) S.1 S.2.1 dX4_best_19 (by decide) (fun cz_19 => ?_) (fun c9 => absurd (nI_le (a := 20) hge (by have := hpic.1; omega)) c9)
    refine lv_iload_n S.1 S.2.1 dX4_best_55 rfl (lv_at hl 2 rfl) ?_
    exact xt_i S hI hr hlk (⟨(if_neg (by omega)).symm, mk, lf, nw, kp, by rw [← hm]; rfl, hpic⟩) (by decide) (by decide) dX4_best_56
