set_option maxRecDepth 100000 in
set_option maxHeartbeats 4000000 in
theorem c_left (l : Launch) (G : Gt) (σ : St) {α : St} {n : Nat} {th : Int32} {mk lf nw kp : Nat → Int32} (hm : gM σ = (th, nI n, mk, lf, nw, kp)) (hpic : Pic α n mk lf nw) {q : Nat} (hq : q < n) : Ct l G yX4_left cX4_left 2 (some .int) 2 0 0 [.ref (gB G 3), .int (nI q)] σ (Qi G (fun r σ' => r = (gP α q).2.2.2.1 - (gP α q).2.2.2.2.1 ∧ σ' = σ)) := by
  refine mt_intro (by decide +kernel) (Nat.le_of_ble_eq_true rfl) ?_
  intro p e s m below meth c S hr hlk hnm hI ls hl
  have hl : lv_has ls 2 [(0, .ref (gB G 3)), (1, .int (nI q))] := hl
  have hn20 := hpic.1
  refine lv_aload_n S.1 S.2.1 dX4_left_0 rfl (lv_at hl 0 rfl) ?_
  refine g_X4_M_life S hI dX4_left_1 ?_
  refine lv_iload_n S.1 S.2.1 dX4_left_4 rfl (lv_at hl 1 rfl) ?_
  refine a_lf S hI hm (j := q) (by omega) dX4_left_5 ?_
  refine lv_aload_n S.1 S.2.1 dX4_left_6 rfl (lv_at hl 0 rfl) ?_
  refine g_X4_M_now S hI dX4_left_7 ?_
  refine lv_iload_n S.1 S.2.1 dX4_left_10 rfl (lv_at hl 1 rfl) ?_
  refine lv_iconst (v := 2) S.1 S.2.1 dX4_left_11 (by decide) ?_
  refine cl_i hI (rnS (As := [.int (nI q), .int 2]) (rest := [.ref (gB G 6), .int (lf q)]) S hI (c_of l G _ q 2) (cw_X4_X4_of S.2.2.2.2 ⟨Nat.le_of_ble_eq_true rfl, Nat.le_of_ble_eq_true rfl⟩) rfl hl.1 (Nat.le_of_ble_eq_true rfl) dX4_left_12 ⟨Nat.le_of_ble_eq_true rfl, Nat.le_of_ble_eq_true rfl⟩) (fun r1 σ1 H locs hq1 hI => ?_)
  obtain ⟨hr1, hs1⟩ := hq1
  rw [hs1] at hI
  rw [hr1]
  refine a_nw S hI hm (j := (13 + 5 * q + 2)) (by omega) dX4_left_15 ?_
  refine lv_isub S.1 S.2.1 dX4_left_16 ?_
  exact xt_i S hI hr hlk (⟨by have hz := hpic.2.2.2.2.1 q hq; rw [hz.2.1, show nw (13 + 5 * q + 2) = (gP α q).2.2.2.2.1 from hz.2.2.2.1], rfl⟩) (by decide) (by decide) dX4_left_17
theorem ite01P {c : Prop} [Decidable c] (h : (if c then (1 : Int32) else 0) = 0) : ¬ c := fun q => by rw [if_pos q] at h; exact absurd h (by decide)
theorem ite01Q {c : Prop} [Decidable c] (h : ¬ (if c then (1 : Int32) else 0) = 0) : c := by
  by_cases q : c
  · exact q
  · rw [if_neg q] at h; exact absurd rfl h
set_option maxRecDepth 100000 in
set_option maxHeartbeats 4000000 in
theorem c_isSo (l : Launch) (G : Gt) (σ : St) {α : St} {n : Nat} {th : Int32} {mk lf nw kp : Nat → Int32} (hm : gM σ = (th, nI n, mk, lf, nw, kp)) (hpic : Pic α n mk lf nw) {q : Nat} (hq : q < n) {g : Nat} (hg : g = 2 ∨ g = 3) : Ct l G yX4_isSo cX4_isSo 3 (some .boolean) 3 0 0 [.ref (gB G 3), .int (nI q), .int (nI (g - 1))] σ (Qi G (fun r σ' => r = isI (gP α q) g ∧ σ' = σ)) := by
  refine mt_intro (by decide +kernel) (Nat.le_of_ble_eq_true rfl) ?_
  intro p e s m below meth c S hr hlk hnm hI ls hl
  have hl : lv_has ls 3 [(0, .ref (gB G 3)), (1, .int (nI q)), (2, .int (nI (g - 1)))] := hl
  have hn20 := hpic.1
  refine lv_aload_n S.1 S.2.1 dX4_isSo_0 rfl (lv_at hl 0 rfl) ?_
  refine lv_iload_n S.1 S.2.1 dX4_isSo_1 rfl (lv_at hl 1 rfl) ?_
  refine cl_i hI (rnV (As := [.int (nI q)]) (rest := []) S hI (c_lies l G _ (pq := q) hm (by omega)) (cw_X4_X4_lies S.2.2.2.2 ⟨Nat.le_of_ble_eq_true rfl, Nat.le_of_ble_eq_true rfl⟩) (rcM hI) rfl hl.1 (Nat.le_of_ble_eq_true rfl) dX4_isSo_2 ⟨Nat.le_of_ble_eq_true rfl, Nat.le_of_ble_eq_true rfl⟩) (fun r1 σ1 H locs hq1 hI => ?_)
  obtain ⟨hr1, hs1⟩ := hq1
  rw [hs1] at hI
  rw [hr1, hpic.lieI (q := q) (by omega)]
  refine lv_if_eq (tgt := 26) S.1 S.2.1 dX4_isSo_5 (by decide) (fun cz_5 => ?_) (fun cz_5 => ?_)
  · refine lv_iconst (v := 0) S.1 S.2.1 dX4_isSo_26 (by decide) ?_
    exact xt_z S hI hr hlk rfl (⟨by rw [isI, ← hpic.isI hq hg, if_neg (fun z => ite01P cz_5 z.1)], rfl⟩) (by decide) (by decide) dX4_isSo_27
  · refine lv_aload_n S.1 S.2.1 dX4_isSo_8 rfl (lv_at hl 0 rfl) ?_
    refine g_X4_M_now S hI dX4_isSo_9 ?_
    refine lv_iload_n S.1 S.2.1 dX4_isSo_12 rfl (lv_at hl 1 rfl) ?_
    refine lv_iconst (v := 3) S.1 S.2.1 dX4_isSo_13 (by decide) ?_
    refine cl_i hI (rnS (As := [.int (nI q), .int 3]) (rest := [.ref (gB G 6)]) S hI (c_of l G _ q 3) (cw_X4_X4_of S.2.2.2.2 ⟨Nat.le_of_ble_eq_true rfl, Nat.le_of_ble_eq_true rfl⟩) rfl hl.1 (Nat.le_of_ble_eq_true rfl) dX4_isSo_14 ⟨Nat.le_of_ble_eq_true rfl, Nat.le_of_ble_eq_true rfl⟩) (fun r2 σ2 H locs hq2 hI => ?_)
    obtain ⟨hr2, hs2⟩ := hq2
    rw [hs2] at hI
    rw [hr2]
    refine a_nw S hI hm (j := (13 + 5 * q + 3)) (by omega) dX4_isSo_17 ?_
    refine lv_iload_n S.1 S.2.1 dX4_isSo_18 rfl (lv_at hl 2 rfl) ?_
    refine lv_icmp_ne (tgt := 26) S.1 S.2.1 dX4_isSo_19 (by decide) (fun cz_19 => ?_) (fun cz_19 => ?_)
    · refine lv_iconst (v := 0) S.1 S.2.1 dX4_isSo_26 (by decide) ?_
      exact xt_z S hI hr hlk rfl (⟨by rw [isI, ← hpic.isI hq hg, if_neg (fun z => cz_19 z.2)], rfl⟩) (by decide) (by decide) dX4_isSo_27
    · refine lv_iconst (v := 1) S.1 S.2.1 dX4_isSo_22 (by decide) ?_
      refine lv_goto (tgt := 27) S.1 S.2.1 dX4_isSo_23 (by decide) ?_
      exact xt_z S hI hr hlk rfl (⟨by rw [isI, ← hpic.isI hq hg, if_pos ⟨ite01Q cz_5, cz_19⟩], rfl⟩) (by decide) (by decide) dX4_isSo_27
set_option maxRecDepth 100000 in
set_option maxHeartbeats 4000000 in
theorem c_on (l : Launch) (G : Gt) (σ : St) {α : St} {n : Nat} {th : Int32} {mk lf nw kp : Nat → Int32} (hm : gM σ = (th, nI n, mk, lf, nw, kp)) (hpic : Pic α n mk lf nw) {k9 : Nat} (hk : k9 < 5) : Ct l G yX4_on cX4_on 4 (some .int) 2 0 0 [.ref (gB G 3), .int (nI k9)] σ (Qi G (fun r σ' => r = onF α k9 ∧ σ' = σ)) := by
  refine mt_intro (by decide +kernel) (Nat.le_of_ble_eq_true rfl) ?_
  intro p e s m below meth c S hr hlk hnm hI ls hl
  have hl : lv_has ls 4 [(0, .ref (gB G 3)), (1, .int (nI k9))] := hl
  have hn20 := hpic.1
  have loop : ∀ (n1 : Nat) (k : Nat), k + n1 = n → ∀ (H : Heap) (locs : List Loc), Iv G σ s H locs → ∀ ls : Array Slot, lv_has ls 4 [(0, .ref (gB G 3)), (1, .int (nI k9)), (2, .int (sumN (fun q => if nw (13 + 5 * q + 0) = nI k9 then 1 else 0) k)), (3, .int (nI k))] → W p l e (rm 2 0 0) s m ([.ref (gB G 3), .int (nI k9)] : List Value).toArray below meth c H locs 0 0 (MQ below (Qi G (fun r σ' => r = onF α k9 ∧ σ' = σ)) ([.ref (gB G 3), .int (nI k9)] : List Value).toArray s 0 0 (gA G)) (F0 m 4 ls []) := by
    intro n1
    induction n1 with
    | zero =>
      intro k hk0 H locs hI ls hl
      obtain rfl : k = n := by omega
      refine lv_iload_n S.1 S.2.1 dX4_on_4 rfl (lv_at hl 3 rfl) ?_
      refine lv_aload_n S.1 S.2.1 dX4_on_5 rfl (lv_at hl 0 rfl) ?_
      refine g_X4_M_promises S hI hm dX4_on_6 ?_
      refine lv_icmp_ge (tgt := 40) S.1 S.2.1 dX4_on_9 (by decide) (fun cz_9 => ?_) (fun c9 => absurd (nI_le (Nat.le_refl k) (by omega)) c9)
      refine lv_iload_n S.1 S.2.1 dX4_on_40 rfl (lv_at hl 2 rfl) ?_
      exact xt_i S hI hr hlk (⟨(hpic.on hk).symm, rfl⟩) (by decide) (by decide) dX4_on_41
    | succ n1 ih =>
      intro k hk0 H locs hI ls hl
      have hk2 : k < n := by omega
      refine lv_iload_n S.1 S.2.1 dX4_on_4 rfl (lv_at hl 3 rfl) ?_
      refine lv_aload_n S.1 S.2.1 dX4_on_5 rfl (lv_at hl 0 rfl) ?_
      refine g_X4_M_promises S hI hm dX4_on_6 ?_
      refine lv_icmp_ge (tgt := 40) S.1 S.2.1 dX4_on_9 (by decide) (fun c9 => absurd c9 (nI_ge hk2 (by omega))) (fun cz_9 => ?_)
      refine lv_iload_n S.1 S.2.1 dX4_on_12 rfl (lv_at hl 2 rfl) ?_
      refine lv_aload_n S.1 S.2.1 dX4_on_13 rfl (lv_at hl 0 rfl) ?_
      refine g_X4_M_now S hI dX4_on_14 ?_
      refine lv_iload_n S.1 S.2.1 dX4_on_17 rfl (lv_at hl 3 rfl) ?_
      refine lv_iconst (v := 0) S.1 S.2.1 dX4_on_18 (by decide) ?_
      refine cl_i hI (rnS (As := [.int (nI k), .int 0]) (rest := [.ref (gB G 6), .int (sumN (fun q => if nw (13 + 5 * q + 0) = nI k9 then 1 else 0) k)]) S hI (c_of l G _ k 0) (cw_X4_X4_of S.2.2.2.2 ⟨Nat.le_of_ble_eq_true rfl, Nat.le_of_ble_eq_true rfl⟩) rfl hl.1 (Nat.le_of_ble_eq_true rfl) dX4_on_19 ⟨Nat.le_of_ble_eq_true rfl, Nat.le_of_ble_eq_true rfl⟩) (fun r1 σ1 H locs hq1 hI => ?_)
      obtain ⟨hr1, hs1⟩ := hq1
      rw [hs1] at hI
      rw [hr1]
      refine a_nw S hI hm (j := (13 + 5 * k + 0)) (by omega) dX4_on_22 ?_
      refine lv_iload_n S.1 S.2.1 dX4_on_23 rfl (lv_at hl 1 rfl) ?_
      refine lv_icmp_ne (tgt := 31) S.1 S.2.1 dX4_on_24 (by decide) (fun cz_24 => ?_) (fun cz_24 => ?_)
      · refine lv_iconst (v := 0) S.1 S.2.1 dX4_on_31 (by decide) ?_
        refine lv_iadd S.1 S.2.1 dX4_on_32 ?_
        refine lv_istore_n (lv' := [(2, .int ((sumN (fun q => if nw (13 + 5 * q + 0) = nI k9 then 1 else 0) k) + 0)), (0, .ref (gB G 3)), (1, .int (nI k9)), (3, .int (nI k))]) S.1 S.2.1 dX4_on_33 rfl hl (by decide) rfl (fun ls hl => ?_)
        refine lv_iinc (v := (nI (k + 1))) (lv' := [(3, .int (nI (k + 1))), (2, .int ((sumN (fun q => if nw (13 + 5 * q + 0) = nI k9 then 1 else 0) k) + 0)), (0, .ref (gB G 3)), (1, .int (nI k9))]) S.1 S.2.1 dX4_on_34 hl (k := 3) rfl (nI_1 k) (by decide) rfl (fun ls hl => ?_)
        refine lv_goto (tgt := 4) S.1 S.2.1 dX4_on_37 (by decide) ?_
        exact ih (k + 1) (by omega) _ _ hI ls (by rw [show sumN (fun q => if nw (13 + 5 * q + 0) = nI k9 then 1 else 0) (k + 1) = ((sumN (fun q => if nw (13 + 5 * q + 0) = nI k9 then 1 else 0) k) + 0) from by rw [sumN_s, if_neg cz_24]]; exact lv_sub hl [2, 3, 1, 0] rfl)
      · refine lv_iconst (v := 1) S.1 S.2.1 dX4_on_27 (by decide) ?_
        refine lv_goto (tgt := 32) S.1 S.2.1 dX4_on_28 (by decide) ?_
        refine lv_iadd S.1 S.2.1 dX4_on_32 ?_
        refine lv_istore_n (lv' := [(2, .int ((sumN (fun q => if nw (13 + 5 * q + 0) = nI k9 then 1 else 0) k) + 1)), (0, .ref (gB G 3)), (1, .int (nI k9)), (3, .int (nI k))]) S.1 S.2.1 dX4_on_33 rfl hl (by decide) rfl (fun ls hl => ?_)
        refine lv_iinc (v := (nI (k + 1))) (lv' := [(3, .int (nI (k + 1))), (2, .int ((sumN (fun q => if nw (13 + 5 * q + 0) = nI k9 then 1 else 0) k) + 1)), (0, .ref (gB G 3)), (1, .int (nI k9))]) S.1 S.2.1 dX4_on_34 hl (k := 3) rfl (nI_1 k) (by decide) rfl (fun ls hl => ?_)
        refine lv_goto (tgt := 4) S.1 S.2.1 dX4_on_37 (by decide) ?_
        exact ih (k + 1) (by omega) _ _ hI ls (by rw [show sumN (fun q => if nw (13 + 5 * q + 0) = nI k9 then 1 else 0) (k + 1) = ((sumN (fun q => if nw (13 + 5 * q + 0) = nI k9 then 1 else 0) k) + 1) from by rw [sumN_s, if_pos cz_24]]; exact lv_sub hl [2, 3, 1, 0] rfl)
  refine lv_iconst (v := 0) S.1 S.2.1 dX4_on_0 (by decide) ?_
  refine lv_istore_n (lv' := [(2, .int 0), (0, .ref (gB G 3)), (1, .int (nI k9))]) S.1 S.2.1 dX4_on_1 rfl hl (by decide) rfl (fun ls hl => ?_)
  refine lv_iconst (v := (nI 0)) S.1 S.2.1 dX4_on_2 (by rfl) ?_
  refine lv_istore_n (lv' := [(3, .int (nI 0)), (2, .int 0), (0, .ref (gB G 3)), (1, .int (nI k9))]) S.1 S.2.1 dX4_on_3 rfl hl (by decide) rfl (fun ls hl => ?_)
  exact loop n 0 (by omega) _ _ hI ls (lv_sub hl [2, 3, 1, 0] rfl)
set_option maxRecDepth 100000 in
set_option maxHeartbeats 4000000 in
theorem c_owes (l : Launch) (G : Gt) (σ : St) {α : St} {n : Nat} {th : Int32} {mk lf nw kp : Nat → Int32} (hm : gM σ = (th, nI n, mk, lf, nw, kp)) (hpic : Pic α n mk lf nw) {a : Nat} : Ct l G yX4_owes cX4_owes 4 (some .int) 3 0 0 [.ref (gB G 3), .int (nI a)] σ (Qi G (fun r σ' => r = owF α (nI a) ∧ σ' = σ)) := by
  refine mt_intro (by decide +kernel) (Nat.le_of_ble_eq_true rfl) ?_
  intro p e s m below meth c S hr hlk hnm hI ls hl
  have hl : lv_has ls 4 [(0, .ref (gB G 3)), (1, .int (nI a))] := hl
  have hn20 := hpic.1
  have loop : ∀ (n1 : Nat) (k : Nat), k + n1 = n → ∀ (H : Heap) (locs : List Loc), Iv G σ s H locs → ∀ ls : Array Slot, lv_has ls 4 [(0, .ref (gB G 3)), (1, .int (nI a)), (2, .int (sumN (fun q => if mk q = nI a ∧ (gP α q).2.1 < 6 then 1 else 0) k)), (3, .int (nI k))] → W p l e (rm 3 0 0) s m ([.ref (gB G 3), .int (nI a)] : List Value).toArray below meth c H locs 0 0 (MQ below (Qi G (fun r σ' => r = owF α (nI a) ∧ σ' = σ)) ([.ref (gB G 3), .int (nI a)] : List Value).toArray s 0 0 (gA G)) (F0 m 4 ls []) := by
    intro n1
    induction n1 with
    | zero =>
      intro k hk0 H locs hI ls hl
      obtain rfl : k = n := by omega
      refine lv_iload_n S.1 S.2.1 dX4_owes_4 rfl (lv_at hl 3 rfl) ?_
      refine lv_aload_n S.1 S.2.1 dX4_owes_5 rfl (lv_at hl 0 rfl) ?_
      refine g_X4_M_promises S hI hm dX4_owes_6 ?_
      refine lv_icmp_ge (tgt := 44) S.1 S.2.1 dX4_owes_9 (by decide) (fun cz_9 => ?_) (fun c9 => absurd (nI_le (Nat.le_refl k) (by omega)) c9)
      refine lv_iload_n S.1 S.2.1 dX4_owes_44 rfl (lv_at hl 2 rfl) ?_
      exact xt_i S hI hr hlk (⟨(hpic.ow _).symm, rfl⟩) (by decide) (by decide) dX4_owes_45
    | succ n1 ih =>
      intro k hk0 H locs hI ls hl
      have hk2 : k < n := by omega
      refine lv_iload_n S.1 S.2.1 dX4_owes_4 rfl (lv_at hl 3 rfl) ?_
      refine lv_aload_n S.1 S.2.1 dX4_owes_5 rfl (lv_at hl 0 rfl) ?_
      refine g_X4_M_promises S hI hm dX4_owes_6 ?_
      refine lv_icmp_ge (tgt := 44) S.1 S.2.1 dX4_owes_9 (by decide) (fun c9 => absurd c9 (nI_ge hk2 (by omega))) (fun cz_9 => ?_)
      refine lv_iload_n S.1 S.2.1 dX4_owes_12 rfl (lv_at hl 2 rfl) ?_
      refine lv_aload_n S.1 S.2.1 dX4_owes_13 rfl (lv_at hl 0 rfl) ?_
      refine g_X4_M_maker S hI dX4_owes_14 ?_
      refine lv_iload_n S.1 S.2.1 dX4_owes_17 rfl (lv_at hl 3 rfl) ?_
      refine a_mk S hI hm (j := k) (by omega) dX4_owes_18 ?_
      refine lv_iload_n S.1 S.2.1 dX4_owes_19 rfl (lv_at hl 1 rfl) ?_
      refine lv_icmp_ne (tgt := 35) S.1 S.2.1 dX4_owes_20 (by decide) (fun cz_20 => ?_) (fun cz_20 => ?_)
      · refine lv_iconst (v := 0) S.1 S.2.1 dX4_owes_35 (by decide) ?_
        refine lv_iadd S.1 S.2.1 dX4_owes_36 ?_
        refine lv_istore_n (lv' := [(2, .int ((sumN (fun q => if mk q = nI a ∧ (gP α q).2.1 < 6 then 1 else 0) k) + 0)), (0, .ref (gB G 3)), (1, .int (nI a)), (3, .int (nI k))]) S.1 S.2.1 dX4_owes_37 rfl hl (by decide) rfl (fun ls hl => ?_)
        refine lv_iinc (v := (nI (k + 1))) (lv' := [(3, .int (nI (k + 1))), (2, .int ((sumN (fun q => if mk q = nI a ∧ (gP α q).2.1 < 6 then 1 else 0) k) + 0)), (0, .ref (gB G 3)), (1, .int (nI a))]) S.1 S.2.1 dX4_owes_38 hl (k := 3) rfl (nI_1 k) (by decide) rfl (fun ls hl => ?_)
        refine lv_goto (tgt := 4) S.1 S.2.1 dX4_owes_41 (by decide) ?_
        exact ih (k + 1) (by omega) _ _ hI ls (by rw [show sumN (fun q => if mk q = nI a ∧ (gP α q).2.1 < 6 then 1 else 0) (k + 1) = ((sumN (fun q => if mk q = nI a ∧ (gP α q).2.1 < 6 then 1 else 0) k) + 0) from by rw [sumN_s, if_neg (fun z => cz_20 z.1)]]; exact lv_sub hl [2, 3, 1, 0] rfl)
      · refine lv_aload_n S.1 S.2.1 dX4_owes_23 rfl (lv_at hl 0 rfl) ?_
        refine lv_iload_n S.1 S.2.1 dX4_owes_24 rfl (lv_at hl 3 rfl) ?_
        refine cl_i hI (rnV (As := [.int (nI k)]) (rest := [.int (sumN (fun q => if mk q = nI a ∧ (gP α q).2.1 < 6 then 1 else 0) k)]) S hI (c_lies l G _ (pq := k) hm (by omega)) (cw_X4_X4_lies S.2.2.2.2 ⟨Nat.le_of_ble_eq_true rfl, Nat.le_of_ble_eq_true rfl⟩) (rcM hI) rfl hl.1 (Nat.le_of_ble_eq_true rfl) dX4_owes_25 ⟨Nat.le_of_ble_eq_true rfl, Nat.le_of_ble_eq_true rfl⟩) (fun r1 σ1 H locs hq1 hI => ?_)
        obtain ⟨hr1, hs1⟩ := hq1
        rw [hs1] at hI
        rw [hr1, hpic.lieI (q := k) (by omega)]
        refine lv_if_eq (tgt := 35) S.1 S.2.1 dX4_owes_28 (by decide) (fun cz_28 => ?_) (fun cz_28 => ?_)
        · refine lv_iconst (v := 0) S.1 S.2.1 dX4_owes_35 (by decide) ?_
          refine lv_iadd S.1 S.2.1 dX4_owes_36 ?_
          refine lv_istore_n (lv' := [(2, .int ((sumN (fun q => if mk q = nI a ∧ (gP α q).2.1 < 6 then 1 else 0) k) + 0)), (0, .ref (gB G 3)), (1, .int (nI a)), (3, .int (nI k))]) S.1 S.2.1 dX4_owes_37 rfl hl (by decide) rfl (fun ls hl => ?_)
          refine lv_iinc (v := (nI (k + 1))) (lv' := [(3, .int (nI (k + 1))), (2, .int ((sumN (fun q => if mk q = nI a ∧ (gP α q).2.1 < 6 then 1 else 0) k) + 0)), (0, .ref (gB G 3)), (1, .int (nI a))]) S.1 S.2.1 dX4_owes_38 hl (k := 3) rfl (nI_1 k) (by decide) rfl (fun ls hl => ?_)
          refine lv_goto (tgt := 4) S.1 S.2.1 dX4_owes_41 (by decide) ?_
          exact ih (k + 1) (by omega) _ _ hI ls (by rw [show sumN (fun q => if mk q = nI a ∧ (gP α q).2.1 < 6 then 1 else 0) (k + 1) = ((sumN (fun q => if mk q = nI a ∧ (gP α q).2.1 < 6 then 1 else 0) k) + 0) from by rw [sumN_s, if_neg (fun z => ite01P cz_28 z.2)]]; exact lv_sub hl [2, 3, 1, 0] rfl)
        · refine lv_iconst (v := 1) S.1 S.2.1 dX4_owes_31 (by decide) ?_
          refine lv_goto (tgt := 36) S.1 S.2.1 dX4_owes_32 (by decide) ?_
          refine lv_iadd S.1 S.2.1 dX4_owes_36 ?_
          refine lv_istore_n (lv' := [(2, .int ((sumN (fun q => if mk q = nI a ∧ (gP α q).2.1 < 6 then 1 else 0) k) + 1)), (0, .ref (gB G 3)), (1, .int (nI a)), (3, .int (nI k))]) S.1 S.2.1 dX4_owes_37 rfl hl (by decide) rfl (fun ls hl => ?_)
          refine lv_iinc (v := (nI (k + 1))) (lv' := [(3, .int (nI (k + 1))), (2, .int ((sumN (fun q => if mk q = nI a ∧ (gP α q).2.1 < 6 then 1 else 0) k) + 1)), (0, .ref (gB G 3)), (1, .int (nI a))]) S.1 S.2.1 dX4_owes_38 hl (k := 3) rfl (nI_1 k) (by decide) rfl (fun ls hl => ?_)
          refine lv_goto (tgt := 4) S.1 S.2.1 dX4_owes_41 (by decide) ?_
          exact ih (k + 1) (by omega) _ _ hI ls (by rw [show sumN (fun q => if mk q = nI a ∧ (gP α q).2.1 < 6 then 1 else 0) (k + 1) = ((sumN (fun q => if mk q = nI a ∧ (gP α q).2.1 < 6 then 1 else 0) k) + 1) from by rw [sumN_s, if_pos ⟨cz_20, ite01Q cz_28⟩]]; exact lv_sub hl [2, 3, 1, 0] rfl)
  refine lv_iconst (v := 0) S.1 S.2.1 dX4_owes_0 (by decide) ?_
  refine lv_istore_n (lv' := [(2, .int 0), (0, .ref (gB G 3)), (1, .int (nI a))]) S.1 S.2.1 dX4_owes_1 rfl hl (by decide) rfl (fun ls hl => ?_)
  refine lv_iconst (v := (nI 0)) S.1 S.2.1 dX4_owes_2 (by rfl) ?_
  refine lv_istore_n (lv' := [(3, .int (nI 0)), (2, .int 0), (0, .ref (gB G 3)), (1, .int (nI a))]) S.1 S.2.1 dX4_owes_3 rfl hl (by decide) rfl (fun ls hl => ?_)
  exact loop n 0 (by omega) _ _ hI ls (lv_sub hl [2, 3, 1, 0] rfl)
set_option maxRecDepth 100000 in
set_option maxHeartbeats 4000000 in
theorem c_honour (l : Launch) (G : Gt) (σ : St) {α : St} {n : Nat} {th : Int32} {mk lf nw kp : Nat → Int32} (hm : gM σ = (th, nI n, mk, lf, nw, kp)) (hpic : Pic α n mk lf nw) {a : Nat} : Ct l G yX4_honour cX4_honour 5 (some .int) 3 0 0 [.ref (gB G 3), .int (nI a)] σ (Qi G (fun r σ' => r = honF α a ∧ σ' = σ)) := by
  refine mt_intro (by decide +kernel) (Nat.le_of_ble_eq_true rfl) ?_
  intro p e s m below meth c S hr hlk hnm hI ls hl
  have hl : lv_has ls 5 [(0, .ref (gB G 3)), (1, .int (nI a))] := hl
  have hn20 := hpic.1
  have loop : ∀ (n1 : Nat) (k : Nat), k + n1 = n → ∀ (H : Heap) (locs : List Loc), Iv G σ s H locs → ∀ ls : Array Slot, lv_has ls 5 [(0, .ref (gB G 3)), (1, .int (nI a)), (2, .int (sumN (fun q => honT (gP α q) (nI a)) k)), (3, .int (nI k))] → W p l e (rm 3 0 0) s m ([.ref (gB G 3), .int (nI a)] : List Value).toArray below meth c H locs 0 0 (MQ below (Qi G (fun r σ' => r = honF α a ∧ σ' = σ)) ([.ref (gB G 3), .int (nI a)] : List Value).toArray s 0 0 (gA G)) (F0 m 4 ls []) := by
    intro n1
    induction n1 with
    | zero =>
      intro k hk0 H locs hI ls hl
      obtain rfl : k = n := by omega
      refine lv_iload_n S.1 S.2.1 dX4_honour_4 rfl (lv_at hl 3 rfl) ?_
      refine lv_aload_n S.1 S.2.1 dX4_honour_5 rfl (lv_at hl 0 rfl) ?_
      refine g_X4_M_promises S hI hm dX4_honour_6 ?_
      refine lv_icmp_ge (tgt := 67) S.1 S.2.1 dX4_honour_9 (by decide) (fun cz_9 => ?_) (fun c9 => absurd (nI_le (Nat.le_refl k) (by omega)) c9)
      refine lv_iload_n S.1 S.2.1 dX4_honour_67 rfl (lv_at hl 2 rfl) ?_
      exact xt_i S hI hr hlk (⟨(hpic.hon _).symm, rfl⟩) (by decide) (by decide) dX4_honour_68
    | succ n1 ih =>
      intro k hk0 H locs hI ls hl
      have hk2 : k < n := by omega
      have hmk9 := (hpic.2.2.2.2.1 k hk2).1; have hend9 := hpic.endI hk2
      refine lv_iload_n S.1 S.2.1 dX4_honour_4 rfl (lv_at hl 3 rfl) ?_
      refine lv_aload_n S.1 S.2.1 dX4_honour_5 rfl (lv_at hl 0 rfl) ?_
      refine g_X4_M_promises S hI hm dX4_honour_6 ?_
      refine lv_icmp_ge (tgt := 67) S.1 S.2.1 dX4_honour_9 (by decide) (fun c9 => absurd c9 (nI_ge hk2 (by omega))) (fun cz_9 => ?_)
      refine lv_aload_n S.1 S.2.1 dX4_honour_12 rfl (lv_at hl 0 rfl) ?_
      refine g_X4_M_maker S hI dX4_honour_13 ?_
      refine lv_iload_n S.1 S.2.1 dX4_honour_16 rfl (lv_at hl 3 rfl) ?_
      refine a_mk S hI hm (j := k) (by omega) dX4_honour_17 ?_
      refine lv_iload_n S.1 S.2.1 dX4_honour_18 rfl (lv_at hl 1 rfl) ?_
      refine lv_icmp_eq (tgt := 25) S.1 S.2.1 dX4_honour_19 (by decide) (fun cz_19 => ?_) (fun cz_19 => ?_)
      · refine lv_aload_n S.1 S.2.1 dX4_honour_25 rfl (lv_at hl 0 rfl) ?_
        refine g_X4_M_now S hI dX4_honour_26 ?_
        refine lv_iload_n S.1 S.2.1 dX4_honour_29 rfl (lv_at hl 3 rfl) ?_
        refine lv_iconst (v := 4) S.1 S.2.1 dX4_honour_30 (by decide) ?_
        refine cl_i hI (rnS (As := [.int (nI k), .int 4]) (rest := [.ref (gB G 6)]) S hI (c_of l G _ k 4) (cw_X4_X4_of S.2.2.2.2 ⟨Nat.le_of_ble_eq_true rfl, Nat.le_of_ble_eq_true rfl⟩) rfl hl.1 (Nat.le_of_ble_eq_true rfl) dX4_honour_31 ⟨Nat.le_of_ble_eq_true rfl, Nat.le_of_ble_eq_true rfl⟩) (fun r1 σ1 H locs hq1 hI => ?_)
        obtain ⟨hr1, hs1⟩ := hq1
        rw [hs1] at hI
        rw [hr1]
        refine a_nw S hI hm (j := (13 + 5 * k + 4)) (by omega) dX4_honour_34 ?_
        refine lv_istore (lv' := [(4, .int (nw (13 + 5 * k + 4))), (0, .ref (gB G 3)), (1, .int (nI a)), (2, .int (sumN (fun q => honT (gP α q) (nI a)) k)), (3, .int (nI k))]) S.1 S.2.1 dX4_honour_35 hl (by decide) rfl (fun ls hl => ?_)
        refine lv_iload_n S.1 S.2.1 dX4_honour_37 rfl (lv_at hl 3 rfl) ?_
        refine lv_iload S.1 S.2.1 dX4_honour_38 (lv_at hl 0 rfl) ?_
        refine lv_iconst (v := 1) S.1 S.2.1 dX4_honour_40 (by decide) ?_
        refine lv_icmp_ne (tgt := 48) S.1 S.2.1 dX4_honour_41 (by decide) (fun cz_41 => ?_) (fun cz_41 => ?_)
        · refine lv_iload S.1 S.2.1 dX4_honour_48 (lv_at hl 0 rfl) ?_
          refine lv_iconst (v := 2) S.1 S.2.1 dX4_honour_50 (by decide) ?_
          refine lv_icmp_ne (tgt := 58) S.1 S.2.1 dX4_honour_51 (by decide) (fun cz_51 => ?_) (fun cz_51 => ?_)
          · refine lv_iconst (v := 0) S.1 S.2.1 dX4_honour_58 (by decide) ?_
            refine lv_iadd S.1 S.2.1 dX4_honour_59 ?_
            refine lv_istore_n (lv' := [(2, .int ((sumN (fun q => honT (gP α q) (nI a)) k) + 0)), (4, .int (nw (13 + 5 * k + 4))), (0, .ref (gB G 3)), (1, .int (nI a)), (3, .int (nI k))]) S.1 S.2.1 dX4_honour_60 rfl hl (by decide) rfl (fun ls hl => ?_)
            refine lv_iinc (v := (nI (k + 1))) (lv' := [(3, .int (nI (k + 1))), (2, .int ((sumN (fun q => honT (gP α q) (nI a)) k) + 0)), (4, .int (nw (13 + 5 * k + 4))), (0, .ref (gB G 3)), (1, .int (nI a))]) S.1 S.2.1 dX4_honour_61 hl (k := 4) rfl (nI_1 k) (by decide) rfl (fun ls hl => ?_)
            refine lv_goto (tgt := 4) S.1 S.2.1 dX4_honour_64 (by decide) ?_
            exact ih (k + 1) (by omega) _ _ hI ls (by rw [show sumN (fun q => honT (gP α q) (nI a)) (k + 1) = ((sumN (fun q => honT (gP α q) (nI a)) k) + 0) from by rw [sumN_s, show honT (gP α k) (nI a) = 0 from (if_pos (by rw [← hmk9]; exact cz_19)).trans ((if_neg (fun z => cz_41 (hend9.1.mpr z))).trans (if_neg (fun z => cz_51 (hend9.2.mpr z))))]]; exact lv_sub hl [3, 4, 1, 0] rfl)
          · refine lv_iconst (v := (-1)) S.1 S.2.1 dX4_honour_54 (by decide) ?_
            refine lv_goto (tgt := 59) S.1 S.2.1 dX4_honour_55 (by decide) ?_
            refine lv_iadd S.1 S.2.1 dX4_honour_59 ?_
            refine lv_istore_n (lv' := [(2, .int ((sumN (fun q => honT (gP α q) (nI a)) k) + (-1))), (4, .int (nw (13 + 5 * k + 4))), (0, .ref (gB G 3)), (1, .int (nI a)), (3, .int (nI k))]) S.1 S.2.1 dX4_honour_60 rfl hl (by decide) rfl (fun ls hl => ?_)
            refine lv_iinc (v := (nI (k + 1))) (lv' := [(3, .int (nI (k + 1))), (2, .int ((sumN (fun q => honT (gP α q) (nI a)) k) + (-1))), (4, .int (nw (13 + 5 * k + 4))), (0, .ref (gB G 3)), (1, .int (nI a))]) S.1 S.2.1 dX4_honour_61 hl (k := 4) rfl (nI_1 k) (by decide) rfl (fun ls hl => ?_)
            refine lv_goto (tgt := 4) S.1 S.2.1 dX4_honour_64 (by decide) ?_
            exact ih (k + 1) (by omega) _ _ hI ls (by rw [show sumN (fun q => honT (gP α q) (nI a)) (k + 1) = ((sumN (fun q => honT (gP α q) (nI a)) k) + (-1)) from by rw [sumN_s, show honT (gP α k) (nI a) = (-1) from (if_pos (by rw [← hmk9]; exact cz_19)).trans ((if_neg (fun z => cz_41 (hend9.1.mpr z))).trans (if_pos (hend9.2.mp cz_51)))]]; exact lv_sub hl [3, 4, 1, 0] rfl)
        · refine lv_iconst (v := 1) S.1 S.2.1 dX4_honour_44 (by decide) ?_
          refine lv_goto (tgt := 59) S.1 S.2.1 dX4_honour_45 (by decide) ?_
          refine lv_iadd S.1 S.2.1 dX4_honour_59 ?_
          refine lv_istore_n (lv' := [(2, .int ((sumN (fun q => honT (gP α q) (nI a)) k) + 1)), (4, .int (nw (13 + 5 * k + 4))), (0, .ref (gB G 3)), (1, .int (nI a)), (3, .int (nI k))]) S.1 S.2.1 dX4_honour_60 rfl hl (by decide) rfl (fun ls hl => ?_)
          refine lv_iinc (v := (nI (k + 1))) (lv' := [(3, .int (nI (k + 1))), (2, .int ((sumN (fun q => honT (gP α q) (nI a)) k) + 1)), (4, .int (nw (13 + 5 * k + 4))), (0, .ref (gB G 3)), (1, .int (nI a))]) S.1 S.2.1 dX4_honour_61 hl (k := 4) rfl (nI_1 k) (by decide) rfl (fun ls hl => ?_)
          refine lv_goto (tgt := 4) S.1 S.2.1 dX4_honour_64 (by decide) ?_
          exact ih (k + 1) (by omega) _ _ hI ls (by rw [show sumN (fun q => honT (gP α q) (nI a)) (k + 1) = ((sumN (fun q => honT (gP α q) (nI a)) k) + 1) from by rw [sumN_s, show honT (gP α k) (nI a) = 1 from (if_pos (by rw [← hmk9]; exact cz_19)).trans (if_pos (hend9.1.mp cz_41))]]; exact lv_sub hl [3, 4, 1, 0] rfl)
      · refine lv_goto (tgt := 61) S.1 S.2.1 dX4_honour_22 (by decide) ?_
        refine lv_iinc (v := (nI (k + 1))) (lv' := [(3, .int (nI (k + 1))), (0, .ref (gB G 3)), (1, .int (nI a)), (2, .int (sumN (fun q => honT (gP α q) (nI a)) k))]) S.1 S.2.1 dX4_honour_61 hl (k := 3) rfl (nI_1 k) (by decide) rfl (fun ls hl => ?_)
        refine lv_goto (tgt := 4) S.1 S.2.1 dX4_honour_64 (by decide) ?_
        exact ih (k + 1) (by omega) _ _ hI ls (by rw [show sumN (fun q => honT (gP α q) (nI a)) (k + 1) = (sumN (fun q => honT (gP α q) (nI a)) k) from by rw [sumN_s, show honT (gP α k) (nI a) = 0 from if_neg (by rw [← hmk9]; exact cz_19), Int32.add_zero]]; exact lv_sub hl [1, 2, 3, 0] rfl)
  refine lv_iconst (v := 0) S.1 S.2.1 dX4_honour_0 (by decide) ?_
  refine lv_istore_n (lv' := [(2, .int 0), (0, .ref (gB G 3)), (1, .int (nI a))]) S.1 S.2.1 dX4_honour_1 rfl hl (by decide) rfl (fun ls hl => ?_)
  refine lv_iconst (v := (nI 0)) S.1 S.2.1 dX4_honour_2 (by rfl) ?_
  refine lv_istore_n (lv' := [(3, .int (nI 0)), (2, .int 0), (0, .ref (gB G 3)), (1, .int (nI a))]) S.1 S.2.1 dX4_honour_3 rfl hl (by decide) rfl (fun ls hl => ?_)
  exact loop n 0 (by omega) _ _ hI ls (lv_sub hl [2, 3, 1, 0] rfl)
set_option maxRecDepth 100000 in
set_option maxHeartbeats 4000000 in
theorem c_coldestOf (l : Launch) (G : Gt) (σ : St) {α : St} {n : Nat} {th : Int32} {mk lf nw kp : Nat → Int32} (hm : gM σ = (th, nI n, mk, lf, nw, kp)) (hpic : Pic α n mk lf nw) : Ct l G yX4_coldestOf cX4_coldestOf 3 (some .int) 2 0 0 [.ref (gB G 3)] σ (Qi G (fun r σ' => r = nI (coldF α 4) ∧ σ' = σ)) := by
  refine mt_intro (by decide +kernel) (Nat.le_of_ble_eq_true rfl) ?_
  intro p e s m below meth c S hr hlk hnm hI ls hl
  have hl : lv_has ls 3 [(0, .ref (gB G 3))] := hl
  have loop : ∀ (n1 : Nat) (k : Nat), k + n1 = 4 → ∀ (H : Heap) (locs : List Loc), Iv G σ s H locs → ∀ ls : Array Slot, lv_has ls 3 [(0, .ref (gB G 3)), (1, .int (nI (coldF α k))), (2, .int (nI (k + 1)))] → W p l e (rm 2 0 0) s m ([.ref (gB G 3)] : List Value).toArray below meth c H locs 0 0 (MQ below (Qi G (fun r σ' => r = nI (coldF α 4) ∧ σ' = σ)) ([.ref (gB G 3)] : List Value).toArray s 0 0 (gA G)) (F0 m 4 ls []) := by
    intro n1
    induction n1 with
    | zero =>
      intro k hk0 H locs hI ls hl
      obtain rfl : k = 4 := by omega
      refine lv_iload_n S.1 S.2.1 dX4_coldestOf_4 rfl (lv_at hl 2 rfl) ?_
      refine lv_iconst (v := 5) S.1 S.2.1 dX4_coldestOf_5 (by decide) ?_
      refine lv_icmp_ge (tgt := 40) S.1 S.2.1 dX4_coldestOf_6 (by decide) (fun cz_6 => ?_) (fun c9 => absurd (nI_le (a := 5) (b := 5) (Nat.le_refl 5) (by omega)) c9)
      refine lv_iload_n S.1 S.2.1 dX4_coldestOf_40 rfl (lv_at hl 1 rfl) ?_
      exact xt_i S hI hr hlk (⟨rfl, rfl⟩) (by decide) (by decide) dX4_coldestOf_41
    | succ n1 ih =>
      intro k hk0 H locs hI ls hl
      have hc := coldF_le α k
      have hA9 := (hpic.2.2.2.1 (k + 1) (by omega)).2.1
      have hB9 := (hpic.2.2.2.1 (coldF α k) (by omega)).2.1
      refine lv_iload_n S.1 S.2.1 dX4_coldestOf_4 rfl (lv_at hl 2 rfl) ?_
      refine lv_iconst (v := 5) S.1 S.2.1 dX4_coldestOf_5 (by decide) ?_
      refine lv_icmp_ge (tgt := 40) S.1 S.2.1 dX4_coldestOf_6 (by decide) (fun c9 => absurd c9 (nI_ge (b := 5) (by omega) (by omega))) (fun cz_6 => ?_)
      refine lv_aload_n S.1 S.2.1 dX4_coldestOf_9 rfl (lv_at hl 0 rfl) ?_
      refine g_X4_M_now S hI dX4_coldestOf_10 ?_
      refine lv_iload_n S.1 S.2.1 dX4_coldestOf_13 rfl (lv_at hl 2 rfl) ?_
      refine lv_iconst (v := 1) S.1 S.2.1 dX4_coldestOf_14 (by decide) ?_
      refine cl_i hI (rnS (As := [.int (nI (k + 1)), .int 1]) (rest := [.ref (gB G 6)]) S hI (c_shelf l G _ (k + 1) 1) (cw_X4_X4_shelf S.2.2.2.2 ⟨Nat.le_of_ble_eq_true rfl, Nat.le_of_ble_eq_true rfl⟩) rfl hl.1 (Nat.le_of_ble_eq_true rfl) dX4_coldestOf_15 ⟨Nat.le_of_ble_eq_true rfl, Nat.le_of_ble_eq_true rfl⟩) (fun r1 σ1 H locs hq1 hI => ?_)
      obtain ⟨hr1, hs1⟩ := hq1
      rw [hs1] at hI
      rw [hr1]
      refine a_nw S hI hm (j := (3 + 2 * (k + 1) + 1)) (by omega) dX4_coldestOf_18 ?_
      rw [show (nw (3 + 2 * (k + 1) + 1)) = (gS α (k + 1)).2 from hA9]
      refine lv_aload_n S.1 S.2.1 dX4_coldestOf_19 rfl (lv_at hl 0 rfl) ?_
      refine g_X4_M_now S hI dX4_coldestOf_20 ?_
      refine lv_iload_n S.1 S.2.1 dX4_coldestOf_23 rfl (lv_at hl 1 rfl) ?_
      refine lv_iconst (v := 1) S.1 S.2.1 dX4_coldestOf_24 (by decide) ?_
      refine cl_i hI (rnS (As := [.int (nI (coldF α k)), .int 1]) (rest := [.ref (gB G 6), .int ((gS α (k + 1)).2)]) S hI (c_shelf l G _ (coldF α k) 1) (cw_X4_X4_shelf S.2.2.2.2 ⟨Nat.le_of_ble_eq_true rfl, Nat.le_of_ble_eq_true rfl⟩) rfl hl.1 (Nat.le_of_ble_eq_true rfl) dX4_coldestOf_25 ⟨Nat.le_of_ble_eq_true rfl, Nat.le_of_ble_eq_true rfl⟩) (fun r2 σ2 H locs hq2 hI => ?_)
      obtain ⟨hr2, hs2⟩ := hq2
      rw [hs2] at hI
      rw [hr2]
      refine a_nw S hI hm (j := (3 + 2 * (coldF α k) + 1)) (by omega) dX4_coldestOf_28 ?_
      rw [show (nw (3 + 2 * (coldF α k) + 1)) = (gS α (coldF α k)).2 from hB9]
      refine lv_icmp_ge (tgt := 34) S.1 S.2.1 dX4_coldestOf_29 (by decide) (fun cz_29 => ?_) (fun cz_29 => ?_)
      · refine lv_iinc (v := (nI (k + 1 + 1))) (lv' := [(2, .int (nI (k + 1 + 1))), (0, .ref (gB G 3)), (1, .int (nI (coldF α k)))]) S.1 S.2.1 dX4_coldestOf_34 hl (k := 2) rfl (nI_1 (k + 1)) (by decide) rfl (fun ls hl => ?_)
        refine lv_goto (tgt := 4) S.1 S.2.1 dX4_coldestOf_37 (by decide) ?_
        exact ih (k + 1) (by omega) _ _ hI ls (by rw [show coldF α (k + 1) = coldF α k from if_pos cz_29]; exact lv_sub hl [1, 2, 0] rfl)
      · refine lv_iload_n S.1 S.2.1 dX4_coldestOf_32 rfl (lv_at hl 2 rfl) ?_
        refine lv_istore_n (lv' := [(1, .int (nI (k + 1))), (0, .ref (gB G 3)), (2, .int (nI (k + 1)))]) S.1 S.2.1 dX4_coldestOf_33 rfl hl (by decide) rfl (fun ls hl => ?_)
        refine lv_iinc (v := (nI (k + 1 + 1))) (lv' := [(2, .int (nI (k + 1 + 1))), (1, .int (nI (k + 1))), (0, .ref (gB G 3))]) S.1 S.2.1 dX4_coldestOf_34 hl (k := 2) rfl (nI_1 (k + 1)) (by decide) rfl (fun ls hl => ?_)
        refine lv_goto (tgt := 4) S.1 S.2.1 dX4_coldestOf_37 (by decide) ?_
        exact ih (k + 1) (by omega) _ _ hI ls (by rw [show coldF α (k + 1) = k + 1 from if_neg cz_29]; exact lv_sub hl [2, 1, 0] rfl)
  refine lv_iconst (v := (nI (coldF α 0))) S.1 S.2.1 dX4_coldestOf_0 (by rfl) ?_
  refine lv_istore_n (lv' := [(1, .int (nI (coldF α 0))), (0, .ref (gB G 3))]) S.1 S.2.1 dX4_coldestOf_1 rfl hl (by decide) rfl (fun ls hl => ?_)
  refine lv_iconst (v := (nI (0 + 1))) S.1 S.2.1 dX4_coldestOf_2 (by rfl) ?_
  refine lv_istore_n (lv' := [(2, .int (nI (0 + 1))), (1, .int (nI (coldF α 0))), (0, .ref (gB G 3))]) S.1 S.2.1 dX4_coldestOf_3 rfl hl (by decide) rfl (fun ls hl => ?_)
  exact loop 4 0 rfl _ _ hI ls (lv_sub hl [2, 1, 0] rfl)
set_option maxRecDepth 100000 in
set_option maxHeartbeats 4000000 in
theorem c_most (l : Launch) (G : Gt) (σ : St) {α : St} {n : Nat} {th : Int32} {mk lf nw kp : Nat → Int32} (hm : gM σ = (th, nI n, mk, lf, nw, kp)) (hpic : Pic α n mk lf nw) : Ct l G yX4_most cX4_most 3 (some .int) 4 0 0 [.ref (gB G 3)] σ (Qi G (fun r σ' => r = nI (mostF α 5) ∧ σ' = σ)) := by
  refine mt_intro (by decide +kernel) (Nat.le_of_ble_eq_true rfl) ?_
  intro p e s m below meth c S hr hlk hnm hI ls hl
  have hl : lv_has ls 3 [(0, .ref (gB G 3))] := hl
  have loop : ∀ (n1 : Nat) (k : Nat), k + n1 = 5 → ∀ (H : Heap) (locs : List Loc), Iv G σ s H locs → ∀ ls : Array Slot, lv_has ls 3 [(0, .ref (gB G 3)), (1, .int (nI (mostF α k))), (2, .int (nI (k + 1)))] → W p l e (rm 4 0 0) s m ([.ref (gB G 3)] : List Value).toArray below meth c H locs 0 0 (MQ below (Qi G (fun r σ' => r = nI (mostF α 5) ∧ σ' = σ)) ([.ref (gB G 3)] : List Value).toArray s 0 0 (gA G)) (F0 m 4 ls []) := by
    intro n1
    induction n1 with
    | zero =>
      intro k hk0 H locs hI ls hl
      obtain rfl : k = 5 := by omega
      refine lv_iload_n S.1 S.2.1 dX4_most_4 rfl (lv_at hl 2 rfl) ?_
      refine lv_bipush (v := 6) S.1 S.2.1 dX4_most_5 (by decide) ?_
      refine lv_icmp_ge (tgt := 31) S.1 S.2.1 dX4_most_7 (by decide) (fun cz_7 => ?_) (fun c9 => absurd (nI_le (a := 6) (b := 6) (Nat.le_refl 6) (by omega)) c9)
      refine lv_iload_n S.1 S.2.1 dX4_most_31 rfl (lv_at hl 1 rfl) ?_
      exact xt_i S hI hr hlk (⟨rfl, rfl⟩) (by decide) (by decide) dX4_most_32
    | succ n1 ih =>
      intro k hk0 H locs hI ls hl
      have hc := mostF_le α k
      refine lv_iload_n S.1 S.2.1 dX4_most_4 rfl (lv_at hl 2 rfl) ?_
      refine lv_bipush (v := 6) S.1 S.2.1 dX4_most_5 (by decide) ?_
      refine lv_icmp_ge (tgt := 31) S.1 S.2.1 dX4_most_7 (by decide) (fun c9 => absurd c9 (nI_ge (b := 6) (by omega) (by omega))) (fun cz_7 => ?_)
      refine lv_aload_n S.1 S.2.1 dX4_most_10 rfl (lv_at hl 0 rfl) ?_
      refine lv_iload_n S.1 S.2.1 dX4_most_11 rfl (lv_at hl 2 rfl) ?_
      refine cl_i hI (rnV (As := [.int (nI (k + 1))]) (rest := []) S hI (c_honour l G _ hm hpic (a := k + 1)) (cw_X4_X4_honour S.2.2.2.2 ⟨Nat.le_of_ble_eq_true rfl, Nat.le_of_ble_eq_true rfl⟩) (rcM hI) rfl hl.1 (Nat.le_of_ble_eq_true rfl) dX4_most_12 ⟨Nat.le_of_ble_eq_true rfl, Nat.le_of_ble_eq_true rfl⟩) (fun r1 σ1 H locs hq1 hI => ?_)
      obtain ⟨hr1, hs1⟩ := hq1
      rw [hs1] at hI
      rw [hr1]
      refine lv_aload_n S.1 S.2.1 dX4_most_15 rfl (lv_at hl 0 rfl) ?_
      refine lv_iload_n S.1 S.2.1 dX4_most_16 rfl (lv_at hl 1 rfl) ?_
      refine cl_i hI (rnV (As := [.int (nI (mostF α k))]) (rest := [.int (honF α (k + 1))]) S hI (c_honour l G _ hm hpic (a := mostF α k)) (cw_X4_X4_honour S.2.2.2.2 ⟨Nat.le_of_ble_eq_true rfl, Nat.le_of_ble_eq_true rfl⟩) (rcM hI) rfl hl.1 (Nat.le_of_ble_eq_true rfl) dX4_most_17 ⟨Nat.le_of_ble_eq_true rfl, Nat.le_of_ble_eq_true rfl⟩) (fun r2 σ2 H locs hq2 hI => ?_)
      obtain ⟨hr2, hs2⟩ := hq2
      rw [hs2] at hI
      rw [hr2]
      refine lv_icmp_le (tgt := 25) S.1 S.2.1 dX4_most_20 (by decide) (fun cz_20 => ?_) (fun cz_20 => ?_)
      · refine lv_iinc (v := (nI (k + 1 + 1))) (lv' := [(2, .int (nI (k + 1 + 1))), (0, .ref (gB G 3)), (1, .int (nI (mostF α k)))]) S.1 S.2.1 dX4_most_25 hl (k := 2) rfl (nI_1 (k + 1)) (by decide) rfl (fun ls hl => ?_)
        refine lv_goto (tgt := 4) S.1 S.2.1 dX4_most_28 (by decide) ?_
        exact ih (k + 1) (by omega) _ _ hI ls (by rw [show mostF α (k + 1) = mostF α k from if_pos cz_20]; exact lv_sub hl [1, 2, 0] rfl)
      · refine lv_iload_n S.1 S.2.1 dX4_most_23 rfl (lv_at hl 2 rfl) ?_
        refine lv_istore_n (lv' := [(1, .int (nI (k + 1))), (0, .ref (gB G 3)), (2, .int (nI (k + 1)))]) S.1 S.2.1 dX4_most_24 rfl hl (by decide) rfl (fun ls hl => ?_)
        refine lv_iinc (v := (nI (k + 1 + 1))) (lv' := [(2, .int (nI (k + 1 + 1))), (1, .int (nI (k + 1))), (0, .ref (gB G 3))]) S.1 S.2.1 dX4_most_25 hl (k := 2) rfl (nI_1 (k + 1)) (by decide) rfl (fun ls hl => ?_)
        refine lv_goto (tgt := 4) S.1 S.2.1 dX4_most_28 (by decide) ?_
        exact ih (k + 1) (by omega) _ _ hI ls (by rw [show mostF α (k + 1) = k + 1 from if_neg cz_20]; exact lv_sub hl [2, 1, 0] rfl)
  refine lv_iconst (v := (nI (mostF α 0))) S.1 S.2.1 dX4_most_0 (by rfl) ?_
  refine lv_istore_n (lv' := [(1, .int (nI (mostF α 0))), (0, .ref (gB G 3))]) S.1 S.2.1 dX4_most_1 rfl hl (by decide) rfl (fun ls hl => ?_)
  refine lv_iconst (v := (nI (0 + 1))) S.1 S.2.1 dX4_most_2 (by rfl) ?_
  refine lv_istore_n (lv' := [(2, .int (nI (0 + 1))), (1, .int (nI (mostF α 0))), (0, .ref (gB G 3))]) S.1 S.2.1 dX4_most_3 rfl hl (by decide) rfl (fun ls hl => ?_)
  exact loop 5 0 rfl _ _ hI ls (lv_sub hl [2, 1, 0] rfl)
