theorem sumN_congr {f g : Nat → Int32} {k : Nat} (h : ∀ i, i < k → f i = g i) : sumN f k = sumN g k := by
  induction k with
  | zero => rfl
  | succ k ih => rw [sumN_s, sumN_s, ih (fun i hi => h i (by omega)), h k (by omega)]
theorem Tr.onF {σ σ' : St} (t : Tr σ σ') (k : Nat) : onF σ' k = onF σ k := sumN_congr (fun i hi => by rw [t.P hi])
theorem Tr.owF {σ σ' : St} (t : Tr σ σ') (a : Int32) : owF σ' a = owF σ a := sumN_congr (fun i hi => by rw [t.P hi])
theorem Tr.cntF {σ σ' : St} (t : Tr σ σ') (a : Int32) (g : Nat) : cntF σ' a g = cntF σ a g := sumN_congr (fun i hi => by rw [t.P hi])
theorem Tr.honF {σ σ' : St} (t : Tr σ σ') (a : Nat) : honF σ' a = honF σ a := (congrArg (fun z => z - _) (t.cntF (nI a) 4)).trans (congrArg (fun z => _ - z) (t.cntF (nI a) 5))
theorem Tr.ocF {σ σ' : St} (hok : okP σ) (t : Tr σ σ') {k : Nat} (hk : k ≤ 20) : ocF σ' k = ocF σ k := by
  induction k with
  | zero => rfl
  | succ k ih =>
    show (if _ then _ else _) = (if _ then _ else _)
    rw [ih (by omega), t.alarmN hok (by omega)]
def dgS (σ : St) (d0 : Int64) : Nat → Int64
  | 0 => d0
  | k + 1 => ((dgS σ d0 k * 31 + (gS σ k).1.toInt64) * 31 + (gS σ k).2.toInt64) * 31 + (onF σ k).toInt64
def shI (s : Nat) : Int32 := if s < 5 then nI s else -1
def isI (x : Pr) (g : Nat) : Int32 := if x.1 = g then 1 else 0
theorem isI_01 (x : Pr) (g : Nat) : isI x g = 0 ∨ isI x g = 1 := by unfold isI; split <;> first | exact Or.inl rfl | exact Or.inr rfl
def dgP1 (x : Pr) (d : Int64) : Int64 := ((((((((d * 31 + x.2.2.1.toInt64) * 31 + (shI x.2.1).toInt64) * 31 + x.2.2.2.2.2.toInt64) * 31 + x.2.2.2.2.1.toInt64) * 31 + (x.2.2.2.1 - x.2.2.2.2.1).toInt64) * 31 + (isI x 2).toInt64) * 31 + (isI x 3).toInt64) * 31 + (isI x 4).toInt64) * 31 + (isI x 5).toInt64
def dgP (σ : St) (d0 : Int64) : Nat → Int64
  | 0 => d0
  | k + 1 => dgP1 (gP σ k) (dgP σ d0 k)
def dgM (σ : St) (d0 : Int64) : Nat → Int64
  | 0 => d0
  | k + 1 => (dgM σ d0 k * 31 + (owF σ (nI k)).toInt64) * 31 + (honF σ k).toInt64
theorem Tr.dgS {σ σ' : St} (t : Tr σ σ') (d0 : Int64) {k : Nat} (hk : k ≤ 5) : dgS σ' d0 k = dgS σ d0 k := by
  induction k with
  | zero => rfl
  | succ k ih =>
    show ((_ * 31 + _) * 31 + _) * 31 + _ = ((_ * 31 + _) * 31 + _) * 31 + _
    rw [ih (by omega), t.S (by omega), t.onF]
theorem Tr.dgP {σ σ' : St} (t : Tr σ σ') (d0 : Int64) {k : Nat} (hk : k ≤ 20) : dgP σ' d0 k = dgP σ d0 k := by
  induction k with
  | zero => rfl
  | succ k ih =>
    show dgP1 _ _ = dgP1 _ _
    rw [ih (by omega), t.P (by omega)]
theorem Tr.dgM {σ σ' : St} (t : Tr σ σ') (d0 : Int64) (k : Nat) : dgM σ' d0 k = dgM σ d0 k := by
  induction k with
  | zero => rfl
  | succ k ih =>
    show (_ * 31 + _) * 31 + _ = (_ * 31 + _) * 31 + _
    rw [ih, t.owF, t.honF]
def digF (σ : St) (n : Nat) : Int64 := dgM σ (dgP σ (dgS σ ((((((((2017 * 31 + (gX σ).2.2.1.toInt64) * 31 + (gX σ).2.2.2.toInt64) * 31 + (gX σ).2.1.toInt64) * 31 + (nI n).toInt64) * 31 + (nI (coldF σ 4)).toInt64) * 31 + (nI (mostF σ 5)).toInt64) * 31 + (if n < 20 then (bestF σ 5).1 else -1).toInt64) * 31 + (ocF σ 20).toInt64) 5) n) 6
set_option maxRecDepth 100000 in
set_option maxHeartbeats 4000000 in
theorem c_withShelves (l : Launch) (G : Gt) (σ : St) (d0 : Int64) : Ct l G yX3_withShelves cX3_withShelves 6 (some .long) 4 0 0 [.ref (gB G 0), .long d0] σ (Ql G (fun r σ' => r = dgS σ d0 5 ∧ σ' = σ)) := by
  refine mt_intro (by decide +kernel) (Nat.le_of_ble_eq_true rfl) ?_
  intro p e s m below meth c S hr hlk hnm hI ls hl
  have hl : lv_has ls 6 [(0, .ref (gB G 0)), (1, .long d0)] := hl
  have loop : ∀ (n1 : Nat) (k : Nat), k + n1 = 5 → ∀ (H : Heap) (locs : List Loc), Iv G σ s H locs → ∀ ls : Array Slot, lv_has ls 6 [(0, .ref (gB G 0)), (3, .long (dgS σ d0 k)), (5, .int (nI k))] → W p l e (rm 4 0 0) s m ([.ref (gB G 0), .long d0] : List Value).toArray below meth c H locs 0 0 (MQ below (Ql G (fun r σ' => r = dgS σ d0 5 ∧ σ' = σ)) ([.ref (gB G 0), .long d0] : List Value).toArray s 0 0 (gA G)) (F0 m 5 ls []) := by
    intro n1
    induction n1 with
    | zero =>
      intro k hk0 H locs hI ls hl
      obtain rfl : k = 5 := by omega
      refine lv_iload S.1 S.2.1 dX3_withShelves_5 (lv_at hl 2 rfl) ?_
      refine lv_iconst (v := 5) S.1 S.2.1 dX3_withShelves_7 (by decide) ?_
      refine lv_icmp_ge (tgt := 59) S.1 S.2.1 dX3_withShelves_8 (by decide) (fun cz_8 => ?_) (fun c9 => absurd (nI_le (a := 5) (b := 5) (Nat.le_refl 5) (by omega)) c9)
      refine lv_lload_n S.1 S.2.1 dX3_withShelves_59 rfl (lv_at hl 1 rfl) ?_
      exact xt_l S hI hr hlk (⟨rfl, rfl⟩) (by decide) (by decide) dX3_withShelves_60
    | succ n1 ih =>
      intro k hk0 H locs hI ls hl
      have hk2 : k < 5 := by omega
      refine lv_iload S.1 S.2.1 dX3_withShelves_5 (lv_at hl 2 rfl) ?_
      refine lv_iconst (v := 5) S.1 S.2.1 dX3_withShelves_7 (by decide) ?_
      refine lv_icmp_ge (tgt := 59) S.1 S.2.1 dX3_withShelves_8 (by decide) (fun c9 => absurd c9 (nI_ge (b := 5) hk2 (by omega))) (fun cz_8 => ?_)
      refine lv_lload_n S.1 S.2.1 dX3_withShelves_11 rfl (lv_at hl 1 rfl) ?_
      refine ld_X3_31 S dX3_withShelves_12 ?_
      refine lv_lmul S.1 S.2.1 dX3_withShelves_15 ?_
      refine lv_aload_n S.1 S.2.1 dX3_withShelves_16 rfl (lv_at hl 0 rfl) ?_
      refine lv_iload S.1 S.2.1 dX3_withShelves_17 (lv_at hl 2 rfl) ?_
      refine cl_i hI (rnV (As := [.int (nI k)]) (rest := [.long ((dgS σ d0 k) * 31)]) S hI (c_settingOf l G _ (k := k) hk2) (cw_X3_X3_settingOf S.2.2.2.2 ⟨Nat.le_of_ble_eq_true rfl, Nat.le_of_ble_eq_true rfl⟩) (rcX hI) rfl hl.1 (Nat.le_of_ble_eq_true rfl) dX3_withShelves_19 ⟨Nat.le_of_ble_eq_true rfl, Nat.le_of_ble_eq_true rfl⟩) (fun r1 σ1 H locs hq1 hI => ?_)
      obtain ⟨hr1, hs1⟩ := hq1
      rw [hs1] at hI
      rw [hr1]
      refine lv_i2l (v := ((gS σ k).1).toInt64) S.1 S.2.1 dX3_withShelves_22 rfl ?_
      refine lv_ladd S.1 S.2.1 dX3_withShelves_23 ?_
      refine lv_lstore_n (lv' := [(3, .long (((dgS σ d0 k) * 31) + ((gS σ k).1).toInt64)), (0, .ref (gB G 0)), (5, .int (nI k))]) S.1 S.2.1 dX3_withShelves_24 rfl hl (by decide) rfl (fun ls hl => ?_)
      refine lv_lload_n S.1 S.2.1 dX3_withShelves_25 rfl (lv_at hl 0 rfl) ?_
      refine ld_X3_31 S dX3_withShelves_26 ?_
      refine lv_lmul S.1 S.2.1 dX3_withShelves_29 ?_
      refine lv_aload_n S.1 S.2.1 dX3_withShelves_30 rfl (lv_at hl 1 rfl) ?_
      refine lv_iload S.1 S.2.1 dX3_withShelves_31 (lv_at hl 2 rfl) ?_
      refine cl_i hI (rnV (As := [.int (nI k)]) (rest := [.long ((((dgS σ d0 k) * 31) + ((gS σ k).1).toInt64) * 31)]) S hI (c_heatOn l G _ (k := k) hk2) (cw_X3_X3_heatOn S.2.2.2.2 ⟨Nat.le_of_ble_eq_true rfl, Nat.le_of_ble_eq_true rfl⟩) (rcX hI) rfl hl.1 (Nat.le_of_ble_eq_true rfl) dX3_withShelves_33 ⟨Nat.le_of_ble_eq_true rfl, Nat.le_of_ble_eq_true rfl⟩) (fun r2 σ2 H locs hq2 hI => ?_)
      obtain ⟨hr2, hs2⟩ := hq2
      rw [hs2] at hI
      rw [hr2]
      refine lv_i2l (v := ((gS σ k).2).toInt64) S.1 S.2.1 dX3_withShelves_36 rfl ?_
      refine lv_ladd S.1 S.2.1 dX3_withShelves_37 ?_
      refine lv_lstore_n (lv' := [(3, .long (((((dgS σ d0 k) * 31) + ((gS σ k).1).toInt64) * 31) + ((gS σ k).2).toInt64)), (0, .ref (gB G 0)), (5, .int (nI k))]) S.1 S.2.1 dX3_withShelves_38 rfl hl (by decide) rfl (fun ls hl => ?_)
      refine lv_lload_n S.1 S.2.1 dX3_withShelves_39 rfl (lv_at hl 0 rfl) ?_
      refine ld_X3_31 S dX3_withShelves_40 ?_
      refine lv_lmul S.1 S.2.1 dX3_withShelves_43 ?_
      refine lv_aload_n S.1 S.2.1 dX3_withShelves_44 rfl (lv_at hl 1 rfl) ?_
      refine lv_iload S.1 S.2.1 dX3_withShelves_45 (lv_at hl 2 rfl) ?_
      refine cl_i hI (rnV (As := [.int (nI k)]) (rest := [.long ((((((dgS σ d0 k) * 31) + ((gS σ k).1).toInt64) * 31) + ((gS σ k).2).toInt64) * 31)]) S hI (c_promisesOn l G _ (k9 := k) hk2) (cw_X3_X3_promisesOn S.2.2.2.2 ⟨Nat.le_of_ble_eq_true rfl, Nat.le_of_ble_eq_true rfl⟩) (rcX hI) rfl hl.1 (Nat.le_of_ble_eq_true rfl) dX3_withShelves_47 ⟨Nat.le_of_ble_eq_true rfl, Nat.le_of_ble_eq_true rfl⟩) (fun r3 σ3 H locs hq3 hI => ?_)
      obtain ⟨hr3, hs3⟩ := hq3
      rw [hs3] at hI
      rw [hr3]
      refine lv_i2l (v := (onF σ k).toInt64) S.1 S.2.1 dX3_withShelves_50 rfl ?_
      refine lv_ladd S.1 S.2.1 dX3_withShelves_51 ?_
      refine lv_lstore_n (lv' := [(3, .long (((((((dgS σ d0 k) * 31) + ((gS σ k).1).toInt64) * 31) + ((gS σ k).2).toInt64) * 31) + (onF σ k).toInt64)), (0, .ref (gB G 0)), (5, .int (nI k))]) S.1 S.2.1 dX3_withShelves_52 rfl hl (by decide) rfl (fun ls hl => ?_)
      refine lv_iinc (v := (nI (k + 1))) (lv' := [(5, .int (nI (k + 1))), (3, .long (((((((dgS σ d0 k) * 31) + ((gS σ k).1).toInt64) * 31) + ((gS σ k).2).toInt64) * 31) + (onF σ k).toInt64)), (0, .ref (gB G 0))]) S.1 S.2.1 dX3_withShelves_53 hl (k := 2) rfl (nI_1 k) (by decide) rfl (fun ls hl => ?_)
      refine lv_goto (tgt := 5) S.1 S.2.1 dX3_withShelves_56 (by decide) ?_
      exact ih (k + 1) (by omega) _ _ hI ls (by rw [show dgS σ d0 (k + 1) = (((((((dgS σ d0 k) * 31) + ((gS σ k).1).toInt64) * 31) + ((gS σ k).2).toInt64) * 31) + (onF σ k).toInt64) from rfl]; exact lv_sub hl [2, 1, 0] rfl)
  refine lv_lload_n S.1 S.2.1 dX3_withShelves_0 rfl (lv_at hl 1 rfl) ?_
  refine lv_lstore_n (lv' := [(3, .long d0), (0, .ref (gB G 0)), (1, .long d0)]) S.1 S.2.1 dX3_withShelves_1 rfl hl (by decide) rfl (fun ls hl => ?_)
  refine lv_iconst (v := (nI 0)) S.1 S.2.1 dX3_withShelves_2 (by rfl) ?_
  refine lv_istore (lv' := [(5, .int (nI 0)), (3, .long d0), (0, .ref (gB G 0)), (1, .long d0)]) S.1 S.2.1 dX3_withShelves_3 hl (by decide) rfl (fun ls hl => ?_)
  exact loop 5 0 (by omega) _ _ hI ls (lv_sub hl [2, 1, 0] rfl)
set_option maxRecDepth 100000 in
set_option maxHeartbeats 4000000 in
theorem c_withPromises (l : Launch) (G : Gt) (σ : St) (d0 : Int64) (hok : okP σ) {n : Nat} (hn : n ≤ 20) {ar hh pw : Int32} (hX : gX σ = (nI n, ar, hh, pw)) : Ct l G yX3_withPromises cX3_withPromises 6 (some .long) 4 0 0 [.ref (gB G 0), .long d0] σ (Ql G (fun r σ' => r = dgP σ d0 n ∧ σ' = σ)) := by
  refine mt_intro (by decide +kernel) (Nat.le_of_ble_eq_true rfl) ?_
  intro p e s m below meth c S hr hlk hnm hI ls hl
  have hl : lv_has ls 6 [(0, .ref (gB G 0)), (1, .long d0)] := hl
  have loop : ∀ (n1 : Nat) (k : Nat), k + n1 = n → ∀ (H : Heap) (locs : List Loc), Iv G σ s H locs → ∀ ls : Array Slot, lv_has ls 6 [(0, .ref (gB G 0)), (3, .long (dgP σ d0 k)), (5, .int (nI k))] → W p l e (rm 4 0 0) s m ([.ref (gB G 0), .long d0] : List Value).toArray below meth c H locs 0 0 (MQ below (Ql G (fun r σ' => r = dgP σ d0 n ∧ σ' = σ)) ([.ref (gB G 0), .long d0] : List Value).toArray s 0 0 (gA G)) (F0 m 5 ls []) := by
    intro n1
    induction n1 with
    | zero =>
      intro k hk0 H locs hI ls hl
      obtain rfl : k = n := by omega
      refine lv_iload S.1 S.2.1 dX3_withPromises_5 (lv_at hl 2 rfl) ?_
      refine lv_aload_n S.1 S.2.1 dX3_withPromises_7 rfl (lv_at hl 0 rfl) ?_
      refine g_X3_X_made S hI hX dX3_withPromises_8 ?_
      refine lv_icmp_ge (tgt := 158) S.1 S.2.1 dX3_withPromises_11 (by decide) (fun cz_11 => ?_) (fun c9 => absurd (nI_le (Nat.le_refl k) (by omega)) c9)
      refine lv_lload_n S.1 S.2.1 dX3_withPromises_158 rfl (lv_at hl 1 rfl) ?_
      exact xt_l S hI hr hlk (⟨rfl, rfl⟩) (by decide) (by decide) dX3_withPromises_159
    | succ n1 ih =>
      intro k hk0 H locs hI ls hl
      have hk2 : k < n := by omega
      refine lv_iload S.1 S.2.1 dX3_withPromises_5 (lv_at hl 2 rfl) ?_
      refine lv_aload_n S.1 S.2.1 dX3_withPromises_7 rfl (lv_at hl 0 rfl) ?_
      refine g_X3_X_made S hI hX dX3_withPromises_8 ?_
      refine lv_icmp_ge (tgt := 158) S.1 S.2.1 dX3_withPromises_11 (by decide) (fun c9 => absurd c9 (nI_ge hk2 (by omega))) (fun cz_11 => ?_)
      refine lv_lload_n S.1 S.2.1 dX3_withPromises_14 rfl (lv_at hl 1 rfl) ?_
      refine ld_X3_31 S dX3_withPromises_15 ?_
      refine lv_lmul S.1 S.2.1 dX3_withPromises_18 ?_
      refine lv_aload_n S.1 S.2.1 dX3_withPromises_19 rfl (lv_at hl 0 rfl) ?_
      refine lv_iload S.1 S.2.1 dX3_withPromises_20 (lv_at hl 2 rfl) ?_
      refine cl_i hI (rnV (As := [.int (nI k)]) (rest := [.long ((dgP σ d0 k) * 31)]) S hI (c_makerOf l G _ (i := k) hk2 hn hX) (cw_X3_X3_makerOf S.2.2.2.2 ⟨Nat.le_of_ble_eq_true rfl, Nat.le_of_ble_eq_true rfl⟩) (rcX hI) rfl hl.1 (Nat.le_of_ble_eq_true rfl) dX3_withPromises_22 ⟨Nat.le_of_ble_eq_true rfl, Nat.le_of_ble_eq_true rfl⟩) (fun r1 σ1 H locs hq1 hI => ?_)
      obtain ⟨hr1, hs1⟩ := hq1
      rw [hs1] at hI
      rw [hr1]
      refine lv_i2l (v := ((gP σ k).2.2.1).toInt64) S.1 S.2.1 dX3_withPromises_25 rfl ?_
      refine lv_ladd S.1 S.2.1 dX3_withPromises_26 ?_
      refine lv_lstore_n (lv' := [(3, .long (((dgP σ d0 k) * 31) + ((gP σ k).2.2.1).toInt64)), (0, .ref (gB G 0)), (5, .int (nI k))]) S.1 S.2.1 dX3_withPromises_27 rfl hl (by decide) rfl (fun ls hl => ?_)
      refine lv_lload_n S.1 S.2.1 dX3_withPromises_28 rfl (lv_at hl 0 rfl) ?_
      refine ld_X3_31 S dX3_withPromises_29 ?_
      refine lv_lmul S.1 S.2.1 dX3_withPromises_32 ?_
      refine lv_aload_n S.1 S.2.1 dX3_withPromises_33 rfl (lv_at hl 1 rfl) ?_
      refine lv_iload S.1 S.2.1 dX3_withPromises_34 (lv_at hl 2 rfl) ?_
      refine cl_i hI (rnV (As := [.int (nI k)]) (rest := [.long ((((dgP σ d0 k) * 31) + ((gP σ k).2.2.1).toInt64) * 31)]) S hI (c_shelfOf l G _ hok (i := k) hk2 hn hX) (cw_X3_X3_shelfOf S.2.2.2.2 ⟨Nat.le_of_ble_eq_true rfl, Nat.le_of_ble_eq_true rfl⟩) (rcX hI) rfl hl.1 (Nat.le_of_ble_eq_true rfl) dX3_withPromises_36 ⟨Nat.le_of_ble_eq_true rfl, Nat.le_of_ble_eq_true rfl⟩) (fun r2 σ2 H locs hq2 hI => ?_)
      obtain ⟨hr2, hs2⟩ := hq2
      rw [hs2] at hI
      rw [hr2]
      refine lv_i2l (v := (shI (gP σ k).2.1).toInt64) S.1 S.2.1 dX3_withPromises_39 rfl ?_
      refine lv_ladd S.1 S.2.1 dX3_withPromises_40 ?_
      refine lv_lstore_n (lv' := [(3, .long (((((dgP σ d0 k) * 31) + ((gP σ k).2.2.1).toInt64) * 31) + (shI (gP σ k).2.1).toInt64)), (0, .ref (gB G 0)), (5, .int (nI k))]) S.1 S.2.1 dX3_withPromises_41 rfl hl (by decide) rfl (fun ls hl => ?_)
      refine lv_lload_n S.1 S.2.1 dX3_withPromises_42 rfl (lv_at hl 0 rfl) ?_
      refine ld_X3_31 S dX3_withPromises_43 ?_
      refine lv_lmul S.1 S.2.1 dX3_withPromises_46 ?_
      refine lv_aload_n S.1 S.2.1 dX3_withPromises_47 rfl (lv_at hl 1 rfl) ?_
      refine lv_iload S.1 S.2.1 dX3_withPromises_48 (lv_at hl 2 rfl) ?_
      refine cl_i hI (rnV (As := [.int (nI k)]) (rest := [.long ((((((dgP σ d0 k) * 31) + ((gP σ k).2.2.1).toInt64) * 31) + (shI (gP σ k).2.1).toInt64) * 31)]) S hI (c_heatOf l G _ (i := k) hk2 hn hX) (cw_X3_X3_heatOf S.2.2.2.2 ⟨Nat.le_of_ble_eq_true rfl, Nat.le_of_ble_eq_true rfl⟩) (rcX hI) rfl hl.1 (Nat.le_of_ble_eq_true rfl) dX3_withPromises_50 ⟨Nat.le_of_ble_eq_true rfl, Nat.le_of_ble_eq_true rfl⟩) (fun r3 σ3 H locs hq3 hI => ?_)
      obtain ⟨hr3, hs3⟩ := hq3
      rw [hs3] at hI
      rw [hr3]
      refine lv_i2l (v := ((gP σ k).2.2.2.2.2).toInt64) S.1 S.2.1 dX3_withPromises_53 rfl ?_
      refine lv_ladd S.1 S.2.1 dX3_withPromises_54 ?_
      refine lv_lstore_n (lv' := [(3, .long (((((((dgP σ d0 k) * 31) + ((gP σ k).2.2.1).toInt64) * 31) + (shI (gP σ k).2.1).toInt64) * 31) + ((gP σ k).2.2.2.2.2).toInt64)), (0, .ref (gB G 0)), (5, .int (nI k))]) S.1 S.2.1 dX3_withPromises_55 rfl hl (by decide) rfl (fun ls hl => ?_)
      refine lv_lload_n S.1 S.2.1 dX3_withPromises_56 rfl (lv_at hl 0 rfl) ?_
      refine ld_X3_31 S dX3_withPromises_57 ?_
      refine lv_lmul S.1 S.2.1 dX3_withPromises_60 ?_
      refine lv_aload_n S.1 S.2.1 dX3_withPromises_61 rfl (lv_at hl 1 rfl) ?_
      refine lv_iload S.1 S.2.1 dX3_withPromises_62 (lv_at hl 2 rfl) ?_
      refine cl_i hI (rnV (As := [.int (nI k)]) (rest := [.long ((((((((dgP σ d0 k) * 31) + ((gP σ k).2.2.1).toInt64) * 31) + (shI (gP σ k).2.1).toInt64) * 31) + ((gP σ k).2.2.2.2.2).toInt64) * 31)]) S hI (c_ageOf l G _ (i := k) hk2 hn hX) (cw_X3_X3_ageOf S.2.2.2.2 ⟨Nat.le_of_ble_eq_true rfl, Nat.le_of_ble_eq_true rfl⟩) (rcX hI) rfl hl.1 (Nat.le_of_ble_eq_true rfl) dX3_withPromises_64 ⟨Nat.le_of_ble_eq_true rfl, Nat.le_of_ble_eq_true rfl⟩) (fun r4 σ4 H locs hq4 hI => ?_)
      obtain ⟨hr4, hs4⟩ := hq4
      rw [hs4] at hI
      rw [hr4]
      refine lv_i2l (v := ((gP σ k).2.2.2.2.1).toInt64) S.1 S.2.1 dX3_withPromises_67 rfl ?_
      refine lv_ladd S.1 S.2.1 dX3_withPromises_68 ?_
      refine lv_lstore_n (lv' := [(3, .long (((((((((dgP σ d0 k) * 31) + ((gP σ k).2.2.1).toInt64) * 31) + (shI (gP σ k).2.1).toInt64) * 31) + ((gP σ k).2.2.2.2.2).toInt64) * 31) + ((gP σ k).2.2.2.2.1).toInt64)), (0, .ref (gB G 0)), (5, .int (nI k))]) S.1 S.2.1 dX3_withPromises_69 rfl hl (by decide) rfl (fun ls hl => ?_)
      refine lv_lload_n S.1 S.2.1 dX3_withPromises_70 rfl (lv_at hl 0 rfl) ?_
      refine ld_X3_31 S dX3_withPromises_71 ?_
      refine lv_lmul S.1 S.2.1 dX3_withPromises_74 ?_
      refine lv_aload_n S.1 S.2.1 dX3_withPromises_75 rfl (lv_at hl 1 rfl) ?_
      refine lv_iload S.1 S.2.1 dX3_withPromises_76 (lv_at hl 2 rfl) ?_
      refine cl_i hI (rnV (As := [.int (nI k)]) (rest := [.long ((((((((((dgP σ d0 k) * 31) + ((gP σ k).2.2.1).toInt64) * 31) + (shI (gP σ k).2.1).toInt64) * 31) + ((gP σ k).2.2.2.2.2).toInt64) * 31) + ((gP σ k).2.2.2.2.1).toInt64) * 31)]) S hI (c_hoursLeft l G _ (i := k) hk2 hn hX) (cw_X3_X3_hoursLeft S.2.2.2.2 ⟨Nat.le_of_ble_eq_true rfl, Nat.le_of_ble_eq_true rfl⟩) (rcX hI) rfl hl.1 (Nat.le_of_ble_eq_true rfl) dX3_withPromises_78 ⟨Nat.le_of_ble_eq_true rfl, Nat.le_of_ble_eq_true rfl⟩) (fun r5 σ5 H locs hq5 hI => ?_)
      obtain ⟨hr5, hs5⟩ := hq5
      rw [hs5] at hI
      rw [hr5]
      refine lv_i2l (v := ((gP σ k).2.2.2.1 - (gP σ k).2.2.2.2.1).toInt64) S.1 S.2.1 dX3_withPromises_81 rfl ?_
      refine lv_ladd S.1 S.2.1 dX3_withPromises_82 ?_
      refine lv_lstore_n (lv' := [(3, .long (((((((((((dgP σ d0 k) * 31) + ((gP σ k).2.2.1).toInt64) * 31) + (shI (gP σ k).2.1).toInt64) * 31) + ((gP σ k).2.2.2.2.2).toInt64) * 31) + ((gP σ k).2.2.2.2.1).toInt64) * 31) + ((gP σ k).2.2.2.1 - (gP σ k).2.2.2.2.1).toInt64)), (0, .ref (gB G 0)), (5, .int (nI k))]) S.1 S.2.1 dX3_withPromises_83 rfl hl (by decide) rfl (fun ls hl => ?_)
      refine lv_lload_n S.1 S.2.1 dX3_withPromises_84 rfl (lv_at hl 0 rfl) ?_
      refine ld_X3_31 S dX3_withPromises_85 ?_
      refine lv_lmul S.1 S.2.1 dX3_withPromises_88 ?_
      refine lv_aload_n S.1 S.2.1 dX3_withPromises_89 rfl (lv_at hl 1 rfl) ?_
      refine lv_iload S.1 S.2.1 dX3_withPromises_90 (lv_at hl 2 rfl) ?_
      refine cl_i hI (rnV (As := [.int (nI k)]) (rest := [.long ((((((((((((dgP σ d0 k) * 31) + ((gP σ k).2.2.1).toInt64) * 31) + (shI (gP σ k).2.1).toInt64) * 31) + ((gP σ k).2.2.2.2.2).toInt64) * 31) + ((gP σ k).2.2.2.2.1).toInt64) * 31) + ((gP σ k).2.2.2.1 - (gP σ k).2.2.2.2.1).toInt64) * 31)]) S hI (c_isFrozen l G _ hok (i := k) hk2 hn hX) (cw_X3_X3_isFrozen S.2.2.2.2 ⟨Nat.le_of_ble_eq_true rfl, Nat.le_of_ble_eq_true rfl⟩) (rcX hI) rfl hl.1 (Nat.le_of_ble_eq_true rfl) dX3_withPromises_92 ⟨Nat.le_of_ble_eq_true rfl, Nat.le_of_ble_eq_true rfl⟩) (fun r6 σ6 H locs hq6 hI => ?_)
      obtain ⟨hr6, hs6⟩ := hq6
      rw [hs6] at hI
      rw [hr6]
      refine cl_i hI (rnS (As := [.int (isI (gP σ k) 2)]) (rest := [.long ((((((((((((dgP σ d0 k) * 31) + ((gP σ k).2.2.1).toInt64) * 31) + (shI (gP σ k).2.1).toInt64) * 31) + ((gP σ k).2.2.2.2.2).toInt64) * 31) + ((gP σ k).2.2.2.2.1).toInt64) * 31) + ((gP σ k).2.2.2.1 - (gP σ k).2.2.2.2.1).toInt64) * 31)]) S hI (c_asNumber l G _ (isI (gP σ k) 2) (isI_01 _ _)) (cw_X3_X3_asNumber S.2.2.2.2 ⟨Nat.le_of_ble_eq_true rfl, Nat.le_of_ble_eq_true rfl⟩) rfl hl.1 (Nat.le_of_ble_eq_true rfl) dX3_withPromises_95 ⟨Nat.le_of_ble_eq_true rfl, Nat.le_of_ble_eq_true rfl⟩) (fun r7 σ7 H locs hq7 hI => ?_)
      obtain ⟨hr7, hs7⟩ := hq7
      rw [hs7] at hI
      rw [hr7]
      refine lv_i2l (v := (isI (gP σ k) 2).toInt64) S.1 S.2.1 dX3_withPromises_98 rfl ?_
      refine lv_ladd S.1 S.2.1 dX3_withPromises_99 ?_
      refine lv_lstore_n (lv' := [(3, .long (((((((((((((dgP σ d0 k) * 31) + ((gP σ k).2.2.1).toInt64) * 31) + (shI (gP σ k).2.1).toInt64) * 31) + ((gP σ k).2.2.2.2.2).toInt64) * 31) + ((gP σ k).2.2.2.2.1).toInt64) * 31) + ((gP σ k).2.2.2.1 - (gP σ k).2.2.2.2.1).toInt64) * 31) + (isI (gP σ k) 2).toInt64)), (0, .ref (gB G 0)), (5, .int (nI k))]) S.1 S.2.1 dX3_withPromises_100 rfl hl (by decide) rfl (fun ls hl => ?_)
      refine lv_lload_n S.1 S.2.1 dX3_withPromises_101 rfl (lv_at hl 0 rfl) ?_
      refine ld_X3_31 S dX3_withPromises_102 ?_
      refine lv_lmul S.1 S.2.1 dX3_withPromises_105 ?_
      refine lv_aload_n S.1 S.2.1 dX3_withPromises_106 rfl (lv_at hl 1 rfl) ?_
      refine lv_iload S.1 S.2.1 dX3_withPromises_107 (lv_at hl 2 rfl) ?_
      refine cl_i hI (rnV (As := [.int (nI k)]) (rest := [.long ((((((((((((((dgP σ d0 k) * 31) + ((gP σ k).2.2.1).toInt64) * 31) + (shI (gP σ k).2.1).toInt64) * 31) + ((gP σ k).2.2.2.2.2).toInt64) * 31) + ((gP σ k).2.2.2.2.1).toInt64) * 31) + ((gP σ k).2.2.2.1 - (gP σ k).2.2.2.2.1).toInt64) * 31) + (isI (gP σ k) 2).toInt64) * 31)]) S hI (c_isThawed l G _ hok (i := k) hk2 hn hX) (cw_X3_X3_isThawed S.2.2.2.2 ⟨Nat.le_of_ble_eq_true rfl, Nat.le_of_ble_eq_true rfl⟩) (rcX hI) rfl hl.1 (Nat.le_of_ble_eq_true rfl) dX3_withPromises_109 ⟨Nat.le_of_ble_eq_true rfl, Nat.le_of_ble_eq_true rfl⟩) (fun r8 σ8 H locs hq8 hI => ?_)
      obtain ⟨hr8, hs8⟩ := hq8
      rw [hs8] at hI
      rw [hr8]
      refine cl_i hI (rnS (As := [.int (isI (gP σ k) 3)]) (rest := [.long ((((((((((((((dgP σ d0 k) * 31) + ((gP σ k).2.2.1).toInt64) * 31) + (shI (gP σ k).2.1).toInt64) * 31) + ((gP σ k).2.2.2.2.2).toInt64) * 31) + ((gP σ k).2.2.2.2.1).toInt64) * 31) + ((gP σ k).2.2.2.1 - (gP σ k).2.2.2.2.1).toInt64) * 31) + (isI (gP σ k) 2).toInt64) * 31)]) S hI (c_asNumber l G _ (isI (gP σ k) 3) (isI_01 _ _)) (cw_X3_X3_asNumber S.2.2.2.2 ⟨Nat.le_of_ble_eq_true rfl, Nat.le_of_ble_eq_true rfl⟩) rfl hl.1 (Nat.le_of_ble_eq_true rfl) dX3_withPromises_112 ⟨Nat.le_of_ble_eq_true rfl, Nat.le_of_ble_eq_true rfl⟩) (fun r9 σ9 H locs hq9 hI => ?_)
      obtain ⟨hr9, hs9⟩ := hq9
      rw [hs9] at hI
      rw [hr9]
      refine lv_i2l (v := (isI (gP σ k) 3).toInt64) S.1 S.2.1 dX3_withPromises_115 rfl ?_
      refine lv_ladd S.1 S.2.1 dX3_withPromises_116 ?_
      refine lv_lstore_n (lv' := [(3, .long (((((((((((((((dgP σ d0 k) * 31) + ((gP σ k).2.2.1).toInt64) * 31) + (shI (gP σ k).2.1).toInt64) * 31) + ((gP σ k).2.2.2.2.2).toInt64) * 31) + ((gP σ k).2.2.2.2.1).toInt64) * 31) + ((gP σ k).2.2.2.1 - (gP σ k).2.2.2.2.1).toInt64) * 31) + (isI (gP σ k) 2).toInt64) * 31) + (isI (gP σ k) 3).toInt64)), (0, .ref (gB G 0)), (5, .int (nI k))]) S.1 S.2.1 dX3_withPromises_117 rfl hl (by decide) rfl (fun ls hl => ?_)
      refine lv_lload_n S.1 S.2.1 dX3_withPromises_118 rfl (lv_at hl 0 rfl) ?_
      refine ld_X3_31 S dX3_withPromises_119 ?_
      refine lv_lmul S.1 S.2.1 dX3_withPromises_122 ?_
      refine lv_aload_n S.1 S.2.1 dX3_withPromises_123 rfl (lv_at hl 1 rfl) ?_
      refine lv_iload S.1 S.2.1 dX3_withPromises_124 (lv_at hl 2 rfl) ?_
      refine cl_i hI (rnV (As := [.int (nI k)]) (rest := [.long ((((((((((((((((dgP σ d0 k) * 31) + ((gP σ k).2.2.1).toInt64) * 31) + (shI (gP σ k).2.1).toInt64) * 31) + ((gP σ k).2.2.2.2.2).toInt64) * 31) + ((gP σ k).2.2.2.2.1).toInt64) * 31) + ((gP σ k).2.2.2.1 - (gP σ k).2.2.2.2.1).toInt64) * 31) + (isI (gP σ k) 2).toInt64) * 31) + (isI (gP σ k) 3).toInt64) * 31)]) S hI (c_isKept l G _ hok (i := k) hk2 hn hX) (cw_X3_X3_isKept S.2.2.2.2 ⟨Nat.le_of_ble_eq_true rfl, Nat.le_of_ble_eq_true rfl⟩) (rcX hI) rfl hl.1 (Nat.le_of_ble_eq_true rfl) dX3_withPromises_126 ⟨Nat.le_of_ble_eq_true rfl, Nat.le_of_ble_eq_true rfl⟩) (fun r10 σ10 H locs hq10 hI => ?_)
      obtain ⟨hr10, hs10⟩ := hq10
      rw [hs10] at hI
      rw [hr10]
      refine cl_i hI (rnS (As := [.int (isI (gP σ k) 4)]) (rest := [.long ((((((((((((((((dgP σ d0 k) * 31) + ((gP σ k).2.2.1).toInt64) * 31) + (shI (gP σ k).2.1).toInt64) * 31) + ((gP σ k).2.2.2.2.2).toInt64) * 31) + ((gP σ k).2.2.2.2.1).toInt64) * 31) + ((gP σ k).2.2.2.1 - (gP σ k).2.2.2.2.1).toInt64) * 31) + (isI (gP σ k) 2).toInt64) * 31) + (isI (gP σ k) 3).toInt64) * 31)]) S hI (c_asNumber l G _ (isI (gP σ k) 4) (isI_01 _ _)) (cw_X3_X3_asNumber S.2.2.2.2 ⟨Nat.le_of_ble_eq_true rfl, Nat.le_of_ble_eq_true rfl⟩) rfl hl.1 (Nat.le_of_ble_eq_true rfl) dX3_withPromises_129 ⟨Nat.le_of_ble_eq_true rfl, Nat.le_of_ble_eq_true rfl⟩) (fun r11 σ11 H locs hq11 hI => ?_)
      obtain ⟨hr11, hs11⟩ := hq11
      rw [hs11] at hI
      rw [hr11]
      refine lv_i2l (v := (isI (gP σ k) 4).toInt64) S.1 S.2.1 dX3_withPromises_132 rfl ?_
      refine lv_ladd S.1 S.2.1 dX3_withPromises_133 ?_
      refine lv_lstore_n (lv' := [(3, .long (((((((((((((((((dgP σ d0 k) * 31) + ((gP σ k).2.2.1).toInt64) * 31) + (shI (gP σ k).2.1).toInt64) * 31) + ((gP σ k).2.2.2.2.2).toInt64) * 31) + ((gP σ k).2.2.2.2.1).toInt64) * 31) + ((gP σ k).2.2.2.1 - (gP σ k).2.2.2.2.1).toInt64) * 31) + (isI (gP σ k) 2).toInt64) * 31) + (isI (gP σ k) 3).toInt64) * 31) + (isI (gP σ k) 4).toInt64)), (0, .ref (gB G 0)), (5, .int (nI k))]) S.1 S.2.1 dX3_withPromises_134 rfl hl (by decide) rfl (fun ls hl => ?_)
      refine lv_lload_n S.1 S.2.1 dX3_withPromises_135 rfl (lv_at hl 0 rfl) ?_
      refine ld_X3_31 S dX3_withPromises_136 ?_
      refine lv_lmul S.1 S.2.1 dX3_withPromises_139 ?_
      refine lv_aload_n S.1 S.2.1 dX3_withPromises_140 rfl (lv_at hl 1 rfl) ?_
      refine lv_iload S.1 S.2.1 dX3_withPromises_141 (lv_at hl 2 rfl) ?_
      refine cl_i hI (rnV (As := [.int (nI k)]) (rest := [.long ((((((((((((((((((dgP σ d0 k) * 31) + ((gP σ k).2.2.1).toInt64) * 31) + (shI (gP σ k).2.1).toInt64) * 31) + ((gP σ k).2.2.2.2.2).toInt64) * 31) + ((gP σ k).2.2.2.2.1).toInt64) * 31) + ((gP σ k).2.2.2.1 - (gP σ k).2.2.2.2.1).toInt64) * 31) + (isI (gP σ k) 2).toInt64) * 31) + (isI (gP σ k) 3).toInt64) * 31) + (isI (gP σ k) 4).toInt64) * 31)]) S hI (c_isExpired l G _ hok (i := k) hk2 hn hX) (cw_X3_X3_isExpired S.2.2.2.2 ⟨Nat.le_of_ble_eq_true rfl, Nat.le_of_ble_eq_true rfl⟩) (rcX hI) rfl hl.1 (Nat.le_of_ble_eq_true rfl) dX3_withPromises_143 ⟨Nat.le_of_ble_eq_true rfl, Nat.le_of_ble_eq_true rfl⟩) (fun r12 σ12 H locs hq12 hI => ?_)
      obtain ⟨hr12, hs12⟩ := hq12
      rw [hs12] at hI
      rw [hr12]
      refine cl_i hI (rnS (As := [.int (isI (gP σ k) 5)]) (rest := [.long ((((((((((((((((((dgP σ d0 k) * 31) + ((gP σ k).2.2.1).toInt64) * 31) + (shI (gP σ k).2.1).toInt64) * 31) + ((gP σ k).2.2.2.2.2).toInt64) * 31) + ((gP σ k).2.2.2.2.1).toInt64) * 31) + ((gP σ k).2.2.2.1 - (gP σ k).2.2.2.2.1).toInt64) * 31) + (isI (gP σ k) 2).toInt64) * 31) + (isI (gP σ k) 3).toInt64) * 31) + (isI (gP σ k) 4).toInt64) * 31)]) S hI (c_asNumber l G _ (isI (gP σ k) 5) (isI_01 _ _)) (cw_X3_X3_asNumber S.2.2.2.2 ⟨Nat.le_of_ble_eq_true rfl, Nat.le_of_ble_eq_true rfl⟩) rfl hl.1 (Nat.le_of_ble_eq_true rfl) dX3_withPromises_146 ⟨Nat.le_of_ble_eq_true rfl, Nat.le_of_ble_eq_true rfl⟩) (fun r13 σ13 H locs hq13 hI => ?_)
      obtain ⟨hr13, hs13⟩ := hq13
      rw [hs13] at hI
      rw [hr13]
      refine lv_i2l (v := (isI (gP σ k) 5).toInt64) S.1 S.2.1 dX3_withPromises_149 rfl ?_
      refine lv_ladd S.1 S.2.1 dX3_withPromises_150 ?_
      refine lv_lstore_n (lv' := [(3, .long (((((((((((((((((((dgP σ d0 k) * 31) + ((gP σ k).2.2.1).toInt64) * 31) + (shI (gP σ k).2.1).toInt64) * 31) + ((gP σ k).2.2.2.2.2).toInt64) * 31) + ((gP σ k).2.2.2.2.1).toInt64) * 31) + ((gP σ k).2.2.2.1 - (gP σ k).2.2.2.2.1).toInt64) * 31) + (isI (gP σ k) 2).toInt64) * 31) + (isI (gP σ k) 3).toInt64) * 31) + (isI (gP σ k) 4).toInt64) * 31) + (isI (gP σ k) 5).toInt64)), (0, .ref (gB G 0)), (5, .int (nI k))]) S.1 S.2.1 dX3_withPromises_151 rfl hl (by decide) rfl (fun ls hl => ?_)
      refine lv_iinc (v := (nI (k + 1))) (lv' := [(5, .int (nI (k + 1))), (3, .long (((((((((((((((((((dgP σ d0 k) * 31) + ((gP σ k).2.2.1).toInt64) * 31) + (shI (gP σ k).2.1).toInt64) * 31) + ((gP σ k).2.2.2.2.2).toInt64) * 31) + ((gP σ k).2.2.2.2.1).toInt64) * 31) + ((gP σ k).2.2.2.1 - (gP σ k).2.2.2.2.1).toInt64) * 31) + (isI (gP σ k) 2).toInt64) * 31) + (isI (gP σ k) 3).toInt64) * 31) + (isI (gP σ k) 4).toInt64) * 31) + (isI (gP σ k) 5).toInt64)), (0, .ref (gB G 0))]) S.1 S.2.1 dX3_withPromises_152 hl (k := 2) rfl (nI_1 k) (by decide) rfl (fun ls hl => ?_)
      refine lv_goto (tgt := 5) S.1 S.2.1 dX3_withPromises_155 (by decide) ?_
      exact ih (k + 1) (by omega) _ _ hI ls (by rw [show dgP σ d0 (k + 1) = (((((((((((((((((((dgP σ d0 k) * 31) + ((gP σ k).2.2.1).toInt64) * 31) + (shI (gP σ k).2.1).toInt64) * 31) + ((gP σ k).2.2.2.2.2).toInt64) * 31) + ((gP σ k).2.2.2.2.1).toInt64) * 31) + ((gP σ k).2.2.2.1 - (gP σ k).2.2.2.2.1).toInt64) * 31) + (isI (gP σ k) 2).toInt64) * 31) + (isI (gP σ k) 3).toInt64) * 31) + (isI (gP σ k) 4).toInt64) * 31) + (isI (gP σ k) 5).toInt64) from rfl]; exact lv_sub hl [2, 1, 0] rfl)
  refine lv_lload_n S.1 S.2.1 dX3_withPromises_0 rfl (lv_at hl 1 rfl) ?_
  refine lv_lstore_n (lv' := [(3, .long d0), (0, .ref (gB G 0)), (1, .long d0)]) S.1 S.2.1 dX3_withPromises_1 rfl hl (by decide) rfl (fun ls hl => ?_)
  refine lv_iconst (v := (nI 0)) S.1 S.2.1 dX3_withPromises_2 (by rfl) ?_
  refine lv_istore (lv' := [(5, .int (nI 0)), (3, .long d0), (0, .ref (gB G 0)), (1, .long d0)]) S.1 S.2.1 dX3_withPromises_3 hl (by decide) rfl (fun ls hl => ?_)
  exact loop n 0 (by omega) _ _ hI ls (lv_sub hl [2, 1, 0] rfl)
set_option maxRecDepth 100000 in
set_option maxHeartbeats 4000000 in
theorem c_withMakers (l : Launch) (G : Gt) (σ : St) (d0 : Int64) (hok : okP σ) : Ct l G yX3_withMakers cX3_withMakers 6 (some .long) 4 0 0 [.ref (gB G 0), .long d0] σ (Ql G (fun r σ' => r = dgM σ d0 6 ∧ σ' = σ)) := by
  refine mt_intro (by decide +kernel) (Nat.le_of_ble_eq_true rfl) ?_
  intro p e s m below meth c S hr hlk hnm hI ls hl
  have hl : lv_has ls 6 [(0, .ref (gB G 0)), (1, .long d0)] := hl
  have loop : ∀ (n1 : Nat) (k : Nat), k + n1 = 6 → ∀ (H : Heap) (locs : List Loc), Iv G σ s H locs → ∀ ls : Array Slot, lv_has ls 6 [(0, .ref (gB G 0)), (3, .long (dgM σ d0 k)), (5, .int (nI k))] → W p l e (rm 4 0 0) s m ([.ref (gB G 0), .long d0] : List Value).toArray below meth c H locs 0 0 (MQ below (Ql G (fun r σ' => r = dgM σ d0 6 ∧ σ' = σ)) ([.ref (gB G 0), .long d0] : List Value).toArray s 0 0 (gA G)) (F0 m 5 ls []) := by
    intro n1
    induction n1 with
    | zero =>
      intro k hk0 H locs hI ls hl
      obtain rfl : k = 6 := by omega
      refine lv_iload S.1 S.2.1 dX3_withMakers_5 (lv_at hl 2 rfl) ?_
      refine lv_bipush (v := 6) S.1 S.2.1 dX3_withMakers_7 (by decide) ?_
      refine lv_icmp_ge (tgt := 46) S.1 S.2.1 dX3_withMakers_9 (by decide) (fun cz_9 => ?_) (fun c9 => absurd (nI_le (a := 6) (b := 6) (Nat.le_refl 6) (by omega)) c9)
      refine lv_lload_n S.1 S.2.1 dX3_withMakers_46 rfl (lv_at hl 1 rfl) ?_
      exact xt_l S hI hr hlk (⟨rfl, rfl⟩) (by decide) (by decide) dX3_withMakers_47
    | succ n1 ih =>
      intro k hk0 H locs hI ls hl
      have hk2 : k < 6 := by omega
      refine lv_iload S.1 S.2.1 dX3_withMakers_5 (lv_at hl 2 rfl) ?_
      refine lv_bipush (v := 6) S.1 S.2.1 dX3_withMakers_7 (by decide) ?_
      refine lv_icmp_ge (tgt := 46) S.1 S.2.1 dX3_withMakers_9 (by decide) (fun c9 => absurd c9 (nI_ge (b := 6) hk2 (by omega))) (fun cz_9 => ?_)
      refine lv_lload_n S.1 S.2.1 dX3_withMakers_12 rfl (lv_at hl 1 rfl) ?_
      refine ld_X3_31 S dX3_withMakers_13 ?_
      refine lv_lmul S.1 S.2.1 dX3_withMakers_16 ?_
      refine lv_aload_n S.1 S.2.1 dX3_withMakers_17 rfl (lv_at hl 0 rfl) ?_
      refine lv_iload S.1 S.2.1 dX3_withMakers_18 (lv_at hl 2 rfl) ?_
      refine cl_i hI (rnV (As := [.int (nI k)]) (rest := [.long ((dgM σ d0 k) * 31)]) S hI (c_owedBy l G _ (a := k) hk2) (cw_X3_X3_owedBy S.2.2.2.2 ⟨Nat.le_of_ble_eq_true rfl, Nat.le_of_ble_eq_true rfl⟩) (rcX hI) rfl hl.1 (Nat.le_of_ble_eq_true rfl) dX3_withMakers_20 ⟨Nat.le_of_ble_eq_true rfl, Nat.le_of_ble_eq_true rfl⟩) (fun r1 σ1 H locs hq1 hI => ?_)
      obtain ⟨hr1, hs1⟩ := hq1
      rw [hs1] at hI
      rw [hr1]
      refine lv_i2l (v := (owF σ (nI k)).toInt64) S.1 S.2.1 dX3_withMakers_23 rfl ?_
      refine lv_ladd S.1 S.2.1 dX3_withMakers_24 ?_
      refine lv_lstore_n (lv' := [(3, .long (((dgM σ d0 k) * 31) + (owF σ (nI k)).toInt64)), (0, .ref (gB G 0)), (5, .int (nI k))]) S.1 S.2.1 dX3_withMakers_25 rfl hl (by decide) rfl (fun ls hl => ?_)
      refine lv_lload_n S.1 S.2.1 dX3_withMakers_26 rfl (lv_at hl 0 rfl) ?_
      refine ld_X3_31 S dX3_withMakers_27 ?_
      refine lv_lmul S.1 S.2.1 dX3_withMakers_30 ?_
      refine lv_aload_n S.1 S.2.1 dX3_withMakers_31 rfl (lv_at hl 1 rfl) ?_
      refine lv_iload S.1 S.2.1 dX3_withMakers_32 (lv_at hl 2 rfl) ?_
      refine cl_i hI (rnV (As := [.int (nI k)]) (rest := [.long ((((dgM σ d0 k) * 31) + (owF σ (nI k)).toInt64) * 31)]) S hI (c_honourOf l G _ hok (a := k) hk2) (cw_X3_X3_honourOf S.2.2.2.2 ⟨Nat.le_of_ble_eq_true rfl, Nat.le_of_ble_eq_true rfl⟩) (rcX hI) rfl hl.1 (Nat.le_of_ble_eq_true rfl) dX3_withMakers_34 ⟨Nat.le_of_ble_eq_true rfl, Nat.le_of_ble_eq_true rfl⟩) (fun r2 σ2 H locs hq2 hI => ?_)
      obtain ⟨hr2, hs2⟩ := hq2
      rw [hs2] at hI
      rw [hr2]
      refine lv_i2l (v := (honF σ k).toInt64) S.1 S.2.1 dX3_withMakers_37 rfl ?_
      refine lv_ladd S.1 S.2.1 dX3_withMakers_38 ?_
      refine lv_lstore_n (lv' := [(3, .long (((((dgM σ d0 k) * 31) + (owF σ (nI k)).toInt64) * 31) + (honF σ k).toInt64)), (0, .ref (gB G 0)), (5, .int (nI k))]) S.1 S.2.1 dX3_withMakers_39 rfl hl (by decide) rfl (fun ls hl => ?_)
      refine lv_iinc (v := (nI (k + 1))) (lv' := [(5, .int (nI (k + 1))), (3, .long (((((dgM σ d0 k) * 31) + (owF σ (nI k)).toInt64) * 31) + (honF σ k).toInt64)), (0, .ref (gB G 0))]) S.1 S.2.1 dX3_withMakers_40 hl (k := 2) rfl (nI_1 k) (by decide) rfl (fun ls hl => ?_)
      refine lv_goto (tgt := 5) S.1 S.2.1 dX3_withMakers_43 (by decide) ?_
      exact ih (k + 1) (by omega) _ _ hI ls (by rw [show dgM σ d0 (k + 1) = (((((dgM σ d0 k) * 31) + (owF σ (nI k)).toInt64) * 31) + (honF σ k).toInt64) from rfl]; exact lv_sub hl [2, 1, 0] rfl)
  refine lv_lload_n S.1 S.2.1 dX3_withMakers_0 rfl (lv_at hl 1 rfl) ?_
  refine lv_lstore_n (lv' := [(3, .long d0), (0, .ref (gB G 0)), (1, .long d0)]) S.1 S.2.1 dX3_withMakers_1 rfl hl (by decide) rfl (fun ls hl => ?_)
  refine lv_iconst (v := (nI 0)) S.1 S.2.1 dX3_withMakers_2 (by rfl) ?_
  refine lv_istore (lv' := [(5, .int (nI 0)), (3, .long d0), (0, .ref (gB G 0)), (1, .long d0)]) S.1 S.2.1 dX3_withMakers_3 hl (by decide) rfl (fun ls hl => ?_)
  exact loop 6 0 (by omega) _ _ hI ls (lv_sub hl [2, 1, 0] rfl)
set_option maxRecDepth 100000 in
set_option maxHeartbeats 4000000 in
theorem c_digest (l : Launch) (G : Gt) (σ : St) (hok : okP σ) {n : Nat} (hn : n ≤ 20) {ar hh pw : Int32} (hX : gX σ = (nI n, ar, hh, pw)) (hw : (gX σ).2.2.2 = 0 ∨ (gX σ).2.2.2 = 1) : Ct l G yX3_digest cX3_digest 3 (some .long) 7 0 0 [.ref (gB G 0)] σ (Ql G (fun r σ' => r = digF σ n ∧ Tr σ σ')) := by
  refine mt_intro (by decide +kernel) (Nat.le_of_ble_eq_true rfl) ?_
  intro p e s m below meth c S hr hlk hnm hI ls hl
  have hl : lv_has ls 3 [(0, .ref (gB G 0))] := hl
  refine ld_X3_2017 S dX3_digest_0 ?_
  refine lv_lstore_n (lv' := [(1, .long 2017), (0, .ref (gB G 0))]) S.1 S.2.1 dX3_digest_3 rfl hl (by decide) rfl (fun ls hl => ?_)
  refine lv_lload_n S.1 S.2.1 dX3_digest_4 rfl (lv_at hl 0 rfl) ?_
  refine ld_X3_31 S dX3_digest_5 ?_
  refine lv_lmul S.1 S.2.1 dX3_digest_8 ?_
  refine lv_aload_n S.1 S.2.1 dX3_digest_9 rfl (lv_at hl 1 rfl) ?_
  refine cl_i hI (rnV (As := []) (rest := [.long (2017 * 31)]) S hI (c_hour l G _) (cw_X3_X3_hour S.2.2.2.2 ⟨Nat.le_of_ble_eq_true rfl, Nat.le_of_ble_eq_true rfl⟩) (rcX hI) rfl hl.1 (Nat.le_of_ble_eq_true rfl) dX3_digest_10 ⟨Nat.le_of_ble_eq_true rfl, Nat.le_of_ble_eq_true rfl⟩) (fun r1 σ1 H locs hq1 hI => ?_)
  obtain ⟨hr1, hs1⟩ := hq1
  rw [hs1] at hI
  rw [hr1]
  refine lv_i2l (v := ((gX σ).2.2.1).toInt64) S.1 S.2.1 dX3_digest_13 rfl ?_
  refine lv_ladd S.1 S.2.1 dX3_digest_14 ?_
  refine lv_lstore_n (lv' := [(1, .long ((2017 * 31) + ((gX σ).2.2.1).toInt64)), (0, .ref (gB G 0))]) S.1 S.2.1 dX3_digest_15 rfl hl (by decide) rfl (fun ls hl => ?_)
  refine lv_lload_n S.1 S.2.1 dX3_digest_16 rfl (lv_at hl 0 rfl) ?_
  refine ld_X3_31 S dX3_digest_17 ?_
  refine lv_lmul S.1 S.2.1 dX3_digest_20 ?_
  refine lv_aload_n S.1 S.2.1 dX3_digest_21 rfl (lv_at hl 1 rfl) ?_
  refine cl_i hI (rnV (As := []) (rest := [.long (((2017 * 31) + ((gX σ).2.2.1).toInt64) * 31)]) S hI (c_hasPower l G _ hw) (cw_X3_X3_hasPower S.2.2.2.2 ⟨Nat.le_of_ble_eq_true rfl, Nat.le_of_ble_eq_true rfl⟩) (rcX hI) rfl hl.1 (Nat.le_of_ble_eq_true rfl) dX3_digest_22 ⟨Nat.le_of_ble_eq_true rfl, Nat.le_of_ble_eq_true rfl⟩) (fun r2 σ2 H locs hq2 hI => ?_)
  obtain ⟨hr2, hs2⟩ := hq2
  rw [hs2] at hI
  rw [hr2]
  refine cl_i hI (rnS (As := [.int ((gX σ).2.2.2)]) (rest := [.long (((2017 * 31) + ((gX σ).2.2.1).toInt64) * 31)]) S hI (c_asNumber l G _ (gX σ).2.2.2 hw) (cw_X3_X3_asNumber S.2.2.2.2 ⟨Nat.le_of_ble_eq_true rfl, Nat.le_of_ble_eq_true rfl⟩) rfl hl.1 (Nat.le_of_ble_eq_true rfl) dX3_digest_25 ⟨Nat.le_of_ble_eq_true rfl, Nat.le_of_ble_eq_true rfl⟩) (fun r3 σ3 H locs hq3 hI => ?_)
  obtain ⟨hr3, hs3⟩ := hq3
  rw [hs3] at hI
  rw [hr3]
  refine lv_i2l (v := ((gX σ).2.2.2).toInt64) S.1 S.2.1 dX3_digest_28 rfl ?_
  refine lv_ladd S.1 S.2.1 dX3_digest_29 ?_
  refine lv_lstore_n (lv' := [(1, .long ((((2017 * 31) + ((gX σ).2.2.1).toInt64) * 31) + ((gX σ).2.2.2).toInt64)), (0, .ref (gB G 0))]) S.1 S.2.1 dX3_digest_30 rfl hl (by decide) rfl (fun ls hl => ?_)
  refine lv_lload_n S.1 S.2.1 dX3_digest_31 rfl (lv_at hl 0 rfl) ?_
  refine ld_X3_31 S dX3_digest_32 ?_
  refine lv_lmul S.1 S.2.1 dX3_digest_35 ?_
  refine lv_aload_n S.1 S.2.1 dX3_digest_36 rfl (lv_at hl 1 rfl) ?_
  refine cl_i hI (rnV (As := []) (rest := [.long (((((2017 * 31) + ((gX σ).2.2.1).toInt64) * 31) + ((gX σ).2.2.2).toInt64) * 31)]) S hI (c_alarms l G _) (cw_X3_X3_alarms S.2.2.2.2 ⟨Nat.le_of_ble_eq_true rfl, Nat.le_of_ble_eq_true rfl⟩) (rcX hI) rfl hl.1 (Nat.le_of_ble_eq_true rfl) dX3_digest_37 ⟨Nat.le_of_ble_eq_true rfl, Nat.le_of_ble_eq_true rfl⟩) (fun r4 σ4 H locs hq4 hI => ?_)
  obtain ⟨hr4, hs4⟩ := hq4
  rw [hs4] at hI
  rw [hr4]
  refine lv_i2l (v := ((gX σ).2.1).toInt64) S.1 S.2.1 dX3_digest_40 rfl ?_
  refine lv_ladd S.1 S.2.1 dX3_digest_41 ?_
  refine lv_lstore_n (lv' := [(1, .long ((((((2017 * 31) + ((gX σ).2.2.1).toInt64) * 31) + ((gX σ).2.2.2).toInt64) * 31) + ((gX σ).2.1).toInt64)), (0, .ref (gB G 0))]) S.1 S.2.1 dX3_digest_42 rfl hl (by decide) rfl (fun ls hl => ?_)
  refine lv_lload_n S.1 S.2.1 dX3_digest_43 rfl (lv_at hl 0 rfl) ?_
  refine ld_X3_31 S dX3_digest_44 ?_
  refine lv_lmul S.1 S.2.1 dX3_digest_47 ?_
  refine lv_aload_n S.1 S.2.1 dX3_digest_48 rfl (lv_at hl 1 rfl) ?_
  refine cl_i hI (rnV (As := []) (rest := [.long (((((((2017 * 31) + ((gX σ).2.2.1).toInt64) * 31) + ((gX σ).2.2.2).toInt64) * 31) + ((gX σ).2.1).toInt64) * 31)]) S hI (c_promises l G _) (cw_X3_X3_promises S.2.2.2.2 ⟨Nat.le_of_ble_eq_true rfl, Nat.le_of_ble_eq_true rfl⟩) (rcX hI) rfl hl.1 (Nat.le_of_ble_eq_true rfl) dX3_digest_49 ⟨Nat.le_of_ble_eq_true rfl, Nat.le_of_ble_eq_true rfl⟩) (fun r5 σ5 H locs hq5 hI => ?_)
  obtain ⟨hr5, hs5⟩ := hq5
  rw [hs5] at hI
  rw [hr5, show (gX σ).1 = nI n from by rw [hX]]
  refine lv_i2l (v := (nI n).toInt64) S.1 S.2.1 dX3_digest_52 rfl ?_
  refine lv_ladd S.1 S.2.1 dX3_digest_53 ?_
  refine lv_lstore_n (lv' := [(1, .long ((((((((2017 * 31) + ((gX σ).2.2.1).toInt64) * 31) + ((gX σ).2.2.2).toInt64) * 31) + ((gX σ).2.1).toInt64) * 31) + (nI n).toInt64)), (0, .ref (gB G 0))]) S.1 S.2.1 dX3_digest_54 rfl hl (by decide) rfl (fun ls hl => ?_)
  refine lv_lload_n S.1 S.2.1 dX3_digest_55 rfl (lv_at hl 0 rfl) ?_
  refine ld_X3_31 S dX3_digest_56 ?_
  refine lv_lmul S.1 S.2.1 dX3_digest_59 ?_
  refine lv_aload_n S.1 S.2.1 dX3_digest_60 rfl (lv_at hl 1 rfl) ?_
  refine cl_i hI (rnV (As := []) (rest := [.long (((((((((2017 * 31) + ((gX σ).2.2.1).toInt64) * 31) + ((gX σ).2.2.2).toInt64) * 31) + ((gX σ).2.1).toInt64) * 31) + (nI n).toInt64) * 31)]) S hI (c_coldest l G _) (cw_X3_X3_coldest S.2.2.2.2 ⟨Nat.le_of_ble_eq_true rfl, Nat.le_of_ble_eq_true rfl⟩) (rcX hI) rfl hl.1 (Nat.le_of_ble_eq_true rfl) dX3_digest_61 ⟨Nat.le_of_ble_eq_true rfl, Nat.le_of_ble_eq_true rfl⟩) (fun r6 σ6 H locs hq6 hI => ?_)
  obtain ⟨hr6, hs6⟩ := hq6
  rw [hs6] at hI
  rw [hr6]
  refine lv_i2l (v := (nI (coldF σ 4)).toInt64) S.1 S.2.1 dX3_digest_64 rfl ?_
  refine lv_ladd S.1 S.2.1 dX3_digest_65 ?_
  refine lv_lstore_n (lv' := [(1, .long ((((((((((2017 * 31) + ((gX σ).2.2.1).toInt64) * 31) + ((gX σ).2.2.2).toInt64) * 31) + ((gX σ).2.1).toInt64) * 31) + (nI n).toInt64) * 31) + (nI (coldF σ 4)).toInt64)), (0, .ref (gB G 0))]) S.1 S.2.1 dX3_digest_66 rfl hl (by decide) rfl (fun ls hl => ?_)
  refine lv_lload_n S.1 S.2.1 dX3_digest_67 rfl (lv_at hl 0 rfl) ?_
  refine ld_X3_31 S dX3_digest_68 ?_
  refine lv_lmul S.1 S.2.1 dX3_digest_71 ?_
  refine lv_aload_n S.1 S.2.1 dX3_digest_72 rfl (lv_at hl 1 rfl) ?_
  refine cl_i hI (rnV (As := []) (rest := [.long (((((((((((2017 * 31) + ((gX σ).2.2.1).toInt64) * 31) + ((gX σ).2.2.2).toInt64) * 31) + ((gX σ).2.1).toInt64) * 31) + (nI n).toInt64) * 31) + (nI (coldF σ 4)).toInt64) * 31)]) S hI (c_mostHonourable l G _ hok) (cw_X3_X3_mostHonourable S.2.2.2.2 ⟨Nat.le_of_ble_eq_true rfl, Nat.le_of_ble_eq_true rfl⟩) (rcX hI) rfl hl.1 (Nat.le_of_ble_eq_true rfl) dX3_digest_73 ⟨Nat.le_of_ble_eq_true rfl, Nat.le_of_ble_eq_true rfl⟩) (fun r7 σ7 H locs hq7 hI => ?_)
  obtain ⟨hr7, hs7⟩ := hq7
  rw [hs7] at hI
  rw [hr7]
  refine lv_i2l (v := (nI (mostF σ 5)).toInt64) S.1 S.2.1 dX3_digest_76 rfl ?_
  refine lv_ladd S.1 S.2.1 dX3_digest_77 ?_
  refine lv_lstore_n (lv' := [(1, .long ((((((((((((2017 * 31) + ((gX σ).2.2.1).toInt64) * 31) + ((gX σ).2.2.2).toInt64) * 31) + ((gX σ).2.1).toInt64) * 31) + (nI n).toInt64) * 31) + (nI (coldF σ 4)).toInt64) * 31) + (nI (mostF σ 5)).toInt64)), (0, .ref (gB G 0))]) S.1 S.2.1 dX3_digest_78 rfl hl (by decide) rfl (fun ls hl => ?_)
  refine lv_lload_n S.1 S.2.1 dX3_digest_79 rfl (lv_at hl 0 rfl) ?_
  refine ld_X3_31 S dX3_digest_80 ?_
  refine lv_lmul S.1 S.2.1 dX3_digest_83 ?_
  refine lv_aload_n S.1 S.2.1 dX3_digest_84 rfl (lv_at hl 1 rfl) ?_
  refine cl_i hI (rnV (As := []) (rest := [.long (((((((((((((2017 * 31) + ((gX σ).2.2.1).toInt64) * 31) + ((gX σ).2.2.2).toInt64) * 31) + ((gX σ).2.1).toInt64) * 31) + (nI n).toInt64) * 31) + (nI (coldF σ 4)).toInt64) * 31) + (nI (mostF σ 5)).toInt64) * 31)]) S hI (c_bestShelf l G _ hn (by rw [hX])) (cw_X3_X3_bestShelf S.2.2.2.2 ⟨Nat.le_of_ble_eq_true rfl, Nat.le_of_ble_eq_true rfl⟩) (rcX hI) rfl hl.1 (Nat.le_of_ble_eq_true rfl) dX3_digest_85 ⟨Nat.le_of_ble_eq_true rfl, Nat.le_of_ble_eq_true rfl⟩) (fun r8 σ8 H locs hq8 hI => ?_)
  obtain ⟨hr8, hs8⟩ := hq8
  rw [hr8]
  have ht8 : Tr σ σ8 := hs8
  refine lv_i2l (v := (if n < 20 then (bestF σ 5).1 else -1).toInt64) S.1 S.2.1 dX3_digest_88 rfl ?_
  refine lv_ladd S.1 S.2.1 dX3_digest_89 ?_
  refine lv_lstore_n (lv' := [(1, .long ((((((((((((((2017 * 31) + ((gX σ).2.2.1).toInt64) * 31) + ((gX σ).2.2.2).toInt64) * 31) + ((gX σ).2.1).toInt64) * 31) + (nI n).toInt64) * 31) + (nI (coldF σ 4)).toInt64) * 31) + (nI (mostF σ 5)).toInt64) * 31) + (if n < 20 then (bestF σ 5).1 else -1).toInt64)), (0, .ref (gB G 0))]) S.1 S.2.1 dX3_digest_90 rfl hl (by decide) rfl (fun ls hl => ?_)
  refine lv_lload_n S.1 S.2.1 dX3_digest_91 rfl (lv_at hl 0 rfl) ?_
  refine ld_X3_31 S dX3_digest_92 ?_
  refine lv_lmul S.1 S.2.1 dX3_digest_95 ?_
  refine lv_aload_n S.1 S.2.1 dX3_digest_96 rfl (lv_at hl 1 rfl) ?_
  refine cl_i hI (rnV (As := []) (rest := [.long (((((((((((((((2017 * 31) + ((gX σ).2.2.1).toInt64) * 31) + ((gX σ).2.2.2).toInt64) * 31) + ((gX σ).2.1).toInt64) * 31) + (nI n).toInt64) * 31) + (nI (coldF σ 4)).toInt64) * 31) + (nI (mostF σ 5)).toInt64) * 31) + (if n < 20 then (bestF σ 5).1 else -1).toInt64) * 31)]) S hI (c_hoursOfCold l G _ (hok.tr ht8)) (cw_X3_X3_hoursOfCold S.2.2.2.2 ⟨Nat.le_of_ble_eq_true rfl, Nat.le_of_ble_eq_true rfl⟩) (rcX hI) rfl hl.1 (Nat.le_of_ble_eq_true rfl) dX3_digest_97 ⟨Nat.le_of_ble_eq_true rfl, Nat.le_of_ble_eq_true rfl⟩) (fun r9 σ9 H locs hq9 hI => ?_)
  obtain ⟨hr9, hs9⟩ := hq9
  rw [Tr.ocF hok ht8 (Nat.le_refl 20)] at hr9
  rw [hr9]
  have ht9 : Tr σ σ9 := ht8.trans hs9
  refine lv_i2l (v := (ocF σ 20).toInt64) S.1 S.2.1 dX3_digest_100 rfl ?_
  refine lv_ladd S.1 S.2.1 dX3_digest_101 ?_
  refine lv_lstore_n (lv' := [(1, .long ((((((((((((((((2017 * 31) + ((gX σ).2.2.1).toInt64) * 31) + ((gX σ).2.2.2).toInt64) * 31) + ((gX σ).2.1).toInt64) * 31) + (nI n).toInt64) * 31) + (nI (coldF σ 4)).toInt64) * 31) + (nI (mostF σ 5)).toInt64) * 31) + (if n < 20 then (bestF σ 5).1 else -1).toInt64) * 31) + (ocF σ 20).toInt64)), (0, .ref (gB G 0))]) S.1 S.2.1 dX3_digest_102 rfl hl (by decide) rfl (fun ls hl => ?_)
  refine lv_aload_n S.1 S.2.1 dX3_digest_103 rfl (lv_at hl 1 rfl) ?_
  refine lv_lload_n S.1 S.2.1 dX3_digest_104 rfl (lv_at hl 0 rfl) ?_
  refine cl_l hI (rnV (As := [.long ((((((((((((((((2017 * 31) + ((gX σ).2.2.1).toInt64) * 31) + ((gX σ).2.2.2).toInt64) * 31) + ((gX σ).2.1).toInt64) * 31) + (nI n).toInt64) * 31) + (nI (coldF σ 4)).toInt64) * 31) + (nI (mostF σ 5)).toInt64) * 31) + (if n < 20 then (bestF σ 5).1 else -1).toInt64) * 31) + (ocF σ 20).toInt64)]) (rest := []) S hI (c_withShelves l G _ _) (cw_X3_X3_withShelves S.2.2.2.2 ⟨Nat.le_of_ble_eq_true rfl, Nat.le_of_ble_eq_true rfl⟩) (rcX hI) rfl hl.1 (Nat.le_of_ble_eq_true rfl) dX3_digest_105 ⟨Nat.le_of_ble_eq_true rfl, Nat.le_of_ble_eq_true rfl⟩) (fun r10 σ10 H locs hq10 hI => ?_)
  obtain ⟨hr10, hs10⟩ := hq10
  rw [hs10] at hI
  rw [Tr.dgS ht9 _ (Nat.le_refl 5)] at hr10
  rw [hr10]
  refine lv_lstore_n (lv' := [(1, .long (dgS σ ((((((((((((((((2017 * 31) + ((gX σ).2.2.1).toInt64) * 31) + ((gX σ).2.2.2).toInt64) * 31) + ((gX σ).2.1).toInt64) * 31) + (nI n).toInt64) * 31) + (nI (coldF σ 4)).toInt64) * 31) + (nI (mostF σ 5)).toInt64) * 31) + (if n < 20 then (bestF σ 5).1 else -1).toInt64) * 31) + (ocF σ 20).toInt64) 5)), (0, .ref (gB G 0))]) S.1 S.2.1 dX3_digest_108 rfl hl (by decide) rfl (fun ls hl => ?_)
  refine lv_aload_n S.1 S.2.1 dX3_digest_109 rfl (lv_at hl 1 rfl) ?_
  refine lv_lload_n S.1 S.2.1 dX3_digest_110 rfl (lv_at hl 0 rfl) ?_
  refine cl_l hI (rnV (As := [.long (dgS σ ((((((((((((((((2017 * 31) + ((gX σ).2.2.1).toInt64) * 31) + ((gX σ).2.2.2).toInt64) * 31) + ((gX σ).2.1).toInt64) * 31) + (nI n).toInt64) * 31) + (nI (coldF σ 4)).toInt64) * 31) + (nI (mostF σ 5)).toInt64) * 31) + (if n < 20 then (bestF σ 5).1 else -1).toInt64) * 31) + (ocF σ 20).toInt64) 5)]) (rest := []) S hI (c_withPromises l G _ _ (hok.tr ht9) hn (ht9.X.trans hX)) (cw_X3_X3_withPromises S.2.2.2.2 ⟨Nat.le_of_ble_eq_true rfl, Nat.le_of_ble_eq_true rfl⟩) (rcX hI) rfl hl.1 (Nat.le_of_ble_eq_true rfl) dX3_digest_111 ⟨Nat.le_of_ble_eq_true rfl, Nat.le_of_ble_eq_true rfl⟩) (fun r11 σ11 H locs hq11 hI => ?_)
  obtain ⟨hr11, hs11⟩ := hq11
  rw [hs11] at hI
  rw [Tr.dgP ht9 _ hn] at hr11
  rw [hr11]
  refine lv_lstore_n (lv' := [(1, .long (dgP σ (dgS σ ((((((((((((((((2017 * 31) + ((gX σ).2.2.1).toInt64) * 31) + ((gX σ).2.2.2).toInt64) * 31) + ((gX σ).2.1).toInt64) * 31) + (nI n).toInt64) * 31) + (nI (coldF σ 4)).toInt64) * 31) + (nI (mostF σ 5)).toInt64) * 31) + (if n < 20 then (bestF σ 5).1 else -1).toInt64) * 31) + (ocF σ 20).toInt64) 5) n)), (0, .ref (gB G 0))]) S.1 S.2.1 dX3_digest_114 rfl hl (by decide) rfl (fun ls hl => ?_)
  refine lv_aload_n S.1 S.2.1 dX3_digest_115 rfl (lv_at hl 1 rfl) ?_
  refine lv_lload_n S.1 S.2.1 dX3_digest_116 rfl (lv_at hl 0 rfl) ?_
  refine cl_l hI (rnV (As := [.long (dgP σ (dgS σ ((((((((((((((((2017 * 31) + ((gX σ).2.2.1).toInt64) * 31) + ((gX σ).2.2.2).toInt64) * 31) + ((gX σ).2.1).toInt64) * 31) + (nI n).toInt64) * 31) + (nI (coldF σ 4)).toInt64) * 31) + (nI (mostF σ 5)).toInt64) * 31) + (if n < 20 then (bestF σ 5).1 else -1).toInt64) * 31) + (ocF σ 20).toInt64) 5) n)]) (rest := []) S hI (c_withMakers l G _ _ (hok.tr ht9)) (cw_X3_X3_withMakers S.2.2.2.2 ⟨Nat.le_of_ble_eq_true rfl, Nat.le_of_ble_eq_true rfl⟩) (rcX hI) rfl hl.1 (Nat.le_of_ble_eq_true rfl) dX3_digest_117 ⟨Nat.le_of_ble_eq_true rfl, Nat.le_of_ble_eq_true rfl⟩) (fun r12 σ12 H locs hq12 hI => ?_)
  obtain ⟨hr12, hs12⟩ := hq12
  rw [hs12] at hI
  rw [Tr.dgM ht9 _ 6] at hr12
  rw [hr12]
  exact xt_l S hI hr hlk (⟨rfl, ht9⟩) (by decide) (by decide) dX3_digest_120
set_option maxRecDepth 100000 in
set_option maxHeartbeats 4000000 in
theorem c_make (l : Launch) (G : Gt) (σ : St) {a b k n : Nat} (ha : a < 6) (hb1 : 1 ≤ b) (hb : b ≤ 100) (hk : k < 5) (hn : n < 20) {ar hh pw : Int32} (hX : gX σ = (nI n, ar, hh, pw)) : Ct l G yX3_make cX3_make 6 (some .int) 2 0 0 [.ref (gB G 0), .int (nI a), .int (nI b), .int (nI k)] σ (Qi G (fun r σ' => r = nI n ∧ σ' = setX (setS (setP σ n (1, k, nI a, nI b, 0, 20)) k ((gS σ k).1, openH (gS σ k).2)) (nI (n + 1), ar, hh, pw))) := by
  refine mt_intro (by decide +kernel) (Nat.le_of_ble_eq_true rfl) ?_
  intro p e s m below meth c S hr hlk hnm hI ls hl
  have hl : lv_has ls 6 [(0, .ref (gB G 0)), (1, .int (nI a)), (2, .int (nI b)), (3, .int (nI k))] := hl
  refine lv_iload_n S.1 S.2.1 dX3_make_0 rfl (lv_at hl 1 rfl) ?_
  refine cl_v hI (rnS (As := [.int (nI a)]) (rest := []) S hI (c_checkMaker l G _ ha) (cw_X3_X3_checkMaker S.2.2.2.2 ⟨Nat.le_of_ble_eq_true rfl, Nat.le_of_ble_eq_true rfl⟩) rfl hl.1 (Nat.le_of_ble_eq_true rfl) dX3_make_1 ⟨Nat.le_of_ble_eq_true rfl, Nat.le_of_ble_eq_true rfl⟩) (fun σ1 H locs hq1 hI => ?_)
  rw [hq1] at hI
  refine lv_aload_n S.1 S.2.1 dX3_make_4 rfl (lv_at hl 0 rfl) ?_
  refine lv_iload_n S.1 S.2.1 dX3_make_5 rfl (lv_at hl 3 rfl) ?_
  refine cl_q hI (rnV (As := [.int (nI k)]) (rest := []) S hI (c_findShelf l G _ hk) (cw_X3_X3_findShelf S.2.2.2.2 ⟨Nat.le_of_ble_eq_true rfl, Nat.le_of_ble_eq_true rfl⟩) (rcX hI) rfl hl.1 (Nat.le_of_ble_eq_true rfl) dX3_make_6 ⟨Nat.le_of_ble_eq_true rfl, Nat.le_of_ble_eq_true rfl⟩) (fun r2 σ2 H locs hq2 hI => ?_)
  obtain ⟨hr2, hs2⟩ := hq2
  rw [hs2] at hI
  rw [hr2]
  show W _ _ _ _ _ _ _ _ _ _ _ _ _ _ _ (F0 _ _ _ (.ref (gB G (3 + k)) :: _))
  refine lv_astore (lv' := [(4, .ref (gB G (3 + k))), (0, .ref (gB G 0)), (1, .int (nI a)), (2, .int (nI b)), (3, .int (nI k))]) S.1 S.2.1 dX3_make_9 hl (by decide) rfl (fun ls hl => ?_)
  refine lv_iload_n S.1 S.2.1 dX3_make_11 rfl (lv_at hl 3 rfl) ?_
  refine lv_iconst (v := 1) S.1 S.2.1 dX3_make_12 (by decide) ?_
  refine lv_icmp_lt (tgt := 22) S.1 S.2.1 dX3_make_13 (by decide) (fun c9 => absurd c9 (nI_nlt (b := 1) hb1 (by omega))) (fun cz_13 => ?_)
  refine lv_iload_n S.1 S.2.1 dX3_make_16 rfl (lv_at hl 3 rfl) ?_
  refine lv_bipush (v := 100) S.1 S.2.1 dX3_make_17 (by decide) ?_
  refine lv_icmp_le (tgt := 32) S.1 S.2.1 dX3_make_19 (by decide) (fun cz_19 => ?_) (fun c9 => absurd (nI_le (b := 100) hb (by omega)) c9)
  refine lv_aload_n S.1 S.2.1 dX3_make_32 rfl (lv_at hl 1 rfl) ?_
  refine g_X3_X_made S hI hX dX3_make_33 ?_
  refine lv_bipush (v := 20) S.1 S.2.1 dX3_make_36 (by decide) ?_
  refine lv_icmp_lt (tgt := 51) S.1 S.2.1 dX3_make_38 (by decide) (fun cz_38 => ?_) (fun c9 => absurd (nI_lt (b := 20) hn (by omega)) c9)
  refine lv_aload_n S.1 S.2.1 dX3_make_51 rfl (lv_at hl 1 rfl) ?_
  refine g_X3_X_made S hI hX dX3_make_52 ?_
  refine lv_istore (lv' := [(5, .int (nI n)), (4, .ref (gB G (3 + k))), (0, .ref (gB G 0)), (1, .int (nI a)), (2, .int (nI b)), (3, .int (nI k))]) S.1 S.2.1 dX3_make_55 hl (by decide) rfl (fun ls hl => ?_)
  refine lv_aload_n S.1 S.2.1 dX3_make_57 rfl (lv_at hl 2 rfl) ?_
  refine g_X3_X_promises S hI dX3_make_58 ?_
  refine lv_iload S.1 S.2.1 dX3_make_61 (lv_at hl 0 rfl) ?_
  refine a_PA S hI hn dX3_make_63 ?_
  refine lv_iload_n S.1 S.2.1 dX3_make_64 rfl (lv_at hl 3 rfl) ?_
  refine lv_iload_n S.1 S.2.1 dX3_make_65 rfl (lv_at hl 4 rfl) ?_
  refine lv_aload S.1 S.2.1 dX3_make_66 (lv_at hl 1 rfl) ?_
  refine cl_v hI (rnVN (As := [.int (nI a), .int (nI b), .ref (gB G (3 + k))]) (rest := []) S hI (c_P_lay l G _ (i := n) (by omega) (pEta _) (nI a) (nI b) (k := k) (by omega)) (cw_X3_X0_layAnew S.2.2.2.2 hI.1.2.2.2.2.2.2.2 ⟨Nat.le_of_ble_eq_true rfl, Nat.le_of_ble_eq_true rfl⟩) (rcP hI (by omega)) rfl hl.1 (Nat.le_of_ble_eq_true rfl) dX3_make_68 ⟨Nat.le_of_ble_eq_true rfl, Nat.le_of_ble_eq_true rfl⟩) (fun σ3 H locs hq3 hI => ?_)
  have ez3 := hq3
  have hP3 : gP σ3 n = (1, k, (nI a), (nI b), 0, 20) := by rw [ez3]; exact gP_setP _ _ _
  have hX__4 : gX σ3 = ((nI n), ar, hh, pw) := by rw [ez3]; exact hX
  have hf__5 : gS σ3 k = ((gS σ k).1, (gS σ k).2) := by rw [ez3]; exact (sEta (gS σ k))
  refine lv_aload S.1 S.2.1 dX3_make_71 (lv_at hl 1 rfl) ?_
  refine cl_v hI (rnVN (As := []) (rest := []) S hI (c_openDoor l G _ (i := k) (by omega) hf__5) (cw_X3_X1_openDoor S.2.2.2.2 hI.1.2.2.2.2.2.2.2 ⟨Nat.le_of_ble_eq_true rfl, Nat.le_of_ble_eq_true rfl⟩) (rcS hI (by omega)) rfl hl.1 (Nat.le_of_ble_eq_true rfl) dX3_make_73 ⟨Nat.le_of_ble_eq_true rfl, Nat.le_of_ble_eq_true rfl⟩) (fun σ6 H locs hq6 hI => ?_)
  have ez6 := hq6
  have hS6 : gS σ6 k = ((gS σ k).1, (openH (gS σ k).2)) := by rw [ez6]; exact gS_setS _ _ _
  have hX__7 : gX σ6 = ((nI n), ar, hh, pw) := by rw [ez6]; exact hX__4
  have hP3__8 : gP σ6 n = (1, k, (nI a), (nI b), 0, 20) := by rw [ez6]; exact hP3
  refine lv_aload_n S.1 S.2.1 dX3_make_76 rfl (lv_at hl 2 rfl) ?_
  refine lv_dup S.1 S.2.1 dX3_make_77 rfl ?_
  refine g_X3_X_made S hI hX__7 dX3_make_78 ?_
  refine lv_iconst (v := 1) S.1 S.2.1 dX3_make_81 (by decide) ?_
  refine lv_iadd S.1 S.2.1 dX3_make_82 ?_
  rw [show ((nI n) + 1) = (nI (n + 1)) from nI_1 n]
  refine p_X3_X_made S hI hX__7 dX3_make_83 (fun σ9 H locs ey9 hz9 hI => ?_)
  have hP3__10 : gP σ9 n = (1, k, (nI a), (nI b), 0, 20) := by rw [ey9]; exact hP3__8
  have hS6__11 : gS σ9 k = ((gS σ k).1, (openH (gS σ k).2)) := by rw [ey9]; exact hS6
  refine lv_iload S.1 S.2.1 dX3_make_86 (lv_at hl 0 rfl) ?_
  exact xt_i S hI hr hlk (⟨rfl, by rw [ey9, ez6, ez3]; try rfl⟩) (by decide) (by decide) dX3_make_88
set_option maxRecDepth 100000 in
set_option maxHeartbeats 4000000 in
theorem c_move (l : Launch) (G : Gt) (σ : St) (hok : okP σ) {i k n : Nat} (hi : i < n) (hn : n ≤ 20) (hk : k < 5) {ar hh pw : Int32} (hX : gX σ = (nI n, ar, hh, pw)) (hs : (gP σ i).2.1 < 5) (hne : ¬ (gP σ i).2.1 = k) (hg3 : ¬ (gP σ i).1 = 3) : Ct l G yX3_move cX3_move 6 (some .int) 2 0 0 [.ref (gB G 0), .int (nI i), .int (nI k)] σ (Qi G (fun r σ' => r = nI (gP σ i).2.1 ∧ σ' = setS (setS (setP σ i ((gP σ i).1, k, (gP σ i).2.2)) (gP σ i).2.1 ((gS σ (gP σ i).2.1).1, openH (gS σ (gP σ i).2.1).2)) k ((gS σ k).1, openH (gS σ k).2))) := by
  refine mt_intro (by decide +kernel) (Nat.le_of_ble_eq_true rfl) ?_
  intro p e s m below meth c S hr hlk hnm hI ls hl
  have hl : lv_has ls 6 [(0, .ref (gB G 0)), (1, .int (nI i)), (2, .int (nI k))] := hl
  refine lv_aload_n S.1 S.2.1 dX3_move_0 rfl (lv_at hl 0 rfl) ?_
  refine lv_iload_n S.1 S.2.1 dX3_move_1 rfl (lv_at hl 1 rfl) ?_
  refine cl_q hI (rnV (As := [.int (nI i)]) (rest := []) S hI (c_findPromise l G _ hi hn hX) (cw_X3_X3_findPromise S.2.2.2.2 ⟨Nat.le_of_ble_eq_true rfl, Nat.le_of_ble_eq_true rfl⟩) (rcX hI) rfl hl.1 (Nat.le_of_ble_eq_true rfl) dX3_move_2 ⟨Nat.le_of_ble_eq_true rfl, Nat.le_of_ble_eq_true rfl⟩) (fun r1 σ1 H locs hq1 hI => ?_)
  obtain ⟨hr1, hs1⟩ := hq1
  rw [hs1] at hI
  rw [hr1]
  show W _ _ _ _ _ _ _ _ _ _ _ _ _ _ _ (F0 _ _ _ (.ref (gB G (9 + i)) :: _))
  refine lv_astore_n (lv' := [(3, .ref (gB G (9 + i))), (0, .ref (gB G 0)), (1, .int (nI i)), (2, .int (nI k))]) S.1 S.2.1 dX3_move_5 rfl hl (by decide) rfl (fun ls hl => ?_)
  refine lv_aload_n S.1 S.2.1 dX3_move_6 rfl (lv_at hl 1 rfl) ?_
  refine lv_iload_n S.1 S.2.1 dX3_move_7 rfl (lv_at hl 3 rfl) ?_
  refine cl_q hI (rnV (As := [.int (nI k)]) (rest := []) S hI (c_findShelf l G _ hk) (cw_X3_X3_findShelf S.2.2.2.2 ⟨Nat.le_of_ble_eq_true rfl, Nat.le_of_ble_eq_true rfl⟩) (rcX hI) rfl hl.1 (Nat.le_of_ble_eq_true rfl) dX3_move_8 ⟨Nat.le_of_ble_eq_true rfl, Nat.le_of_ble_eq_true rfl⟩) (fun r2 σ2 H locs hq2 hI => ?_)
  obtain ⟨hr2, hs2⟩ := hq2
  rw [hs2] at hI
  rw [hr2]
  show W _ _ _ _ _ _ _ _ _ _ _ _ _ _ _ (F0 _ _ _ (.ref (gB G (3 + k)) :: _))
  refine lv_astore (lv' := [(4, .ref (gB G (3 + k))), (3, .ref (gB G (9 + i))), (0, .ref (gB G 0)), (1, .int (nI i)), (2, .int (nI k))]) S.1 S.2.1 dX3_move_11 hl (by decide) rfl (fun ls hl => ?_)
  refine lv_aload_n S.1 S.2.1 dX3_move_13 rfl (lv_at hl 1 rfl) ?_
  refine g_X3_P_shelf_s S hI (by omega) (pEta (gP σ i)) (show (gP σ i).2.1 < 6 by omega) dX3_move_14 ?_
  refine lv_astore (lv' := [(5, .ref (gB G (3 + (gP σ i).2.1))), (4, .ref (gB G (3 + k))), (3, .ref (gB G (9 + i))), (0, .ref (gB G 0)), (1, .int (nI i)), (2, .int (nI k))]) S.1 S.2.1 dX3_move_17 hl (by decide) rfl (fun ls hl => ?_)
  refine lv_aload S.1 S.2.1 dX3_move_19 (lv_at hl 0 rfl) ?_
  refine lv_ifnonnull (tgt := 34) S.1 S.2.1 dX3_move_21 (by decide) ?_
  refine lv_aload S.1 S.2.1 dX3_move_34 (lv_at hl 0 rfl) ?_
  refine lv_aload S.1 S.2.1 dX3_move_36 (lv_at hl 1 rfl) ?_
  refine ass_ne S hI (by omega) (by omega) (tgt := 51) dX3_move_38 (by decide) (fun cz_38 => ?_) (fun c9 => absurd c9 hne)
  refine lv_aload_n S.1 S.2.1 dX3_move_51 rfl (lv_at hl 2 rfl) ?_
  refine g_X3_P_stage S hI (by omega) (pEta (gP σ i)) dX3_move_52 ?_
  refine gs_X3_THAWED S hI dX3_move_55 ?_
  refine ag_ne S hI (hok i (by omega)).1 (by decide) (tgt := 71) dX3_move_58 (by decide) (fun cz_58 => ?_) (fun c9 => absurd c9 hg3)
  refine lv_aload_n S.1 S.2.1 dX3_move_71 rfl (lv_at hl 2 rfl) ?_
  refine lv_aload S.1 S.2.1 dX3_move_72 (lv_at hl 1 rfl) ?_
  refine p_X3_P_shelf_s S hI (by omega) (pEta (gP σ i)) (by omega) dX3_move_74 (fun σ3 H locs ey3 hz3 hI => ?_)
  have hf__4 : gS σ3 (gP σ i).2.1 = ((gS σ ((gP σ i).2.1)).1, (gS σ ((gP σ i).2.1)).2) := by rw [ey3]; exact (sEta (gS σ ((gP σ i).2.1)))
  have hf__5 : gS σ3 k = ((gS σ k).1, (gS σ k).2) := by rw [ey3]; exact (sEta (gS σ k))
  refine lv_aload S.1 S.2.1 dX3_move_77 (lv_at hl 0 rfl) ?_
  refine cl_v hI (rnVN (As := []) (rest := []) S hI (c_openDoor l G _ (i := (gP σ i).2.1) (by omega) hf__4) (cw_X3_X1_openDoor S.2.2.2.2 hI.1.2.2.2.2.2.2.2 ⟨Nat.le_of_ble_eq_true rfl, Nat.le_of_ble_eq_true rfl⟩) (rcS hI (by omega)) rfl hl.1 (Nat.le_of_ble_eq_true rfl) dX3_move_79 ⟨Nat.le_of_ble_eq_true rfl, Nat.le_of_ble_eq_true rfl⟩) (fun σ6 H locs hq6 hI => ?_)
  have ez6 := hq6
  have hS6 : gS σ6 (gP σ i).2.1 = ((gS σ (gP σ i).2.1).1, (openH (gS σ (gP σ i).2.1).2)) := by rw [ez6]; exact gS_setS _ _ _
  have hf__7 : gS σ6 k = ((gS σ k).1, (gS σ k).2) := by rw [ez6, gS_setS_ne _ _ (Ne.symm hne)]; exact hf__5
  have hz3__8 : gP σ6 i = ((gP σ i).1, k, (gP σ i).2.2.1, (gP σ i).2.2.2.1, (gP σ i).2.2.2.2.1, (gP σ i).2.2.2.2.2) := by rw [ez6]; exact hz3
  refine lv_aload S.1 S.2.1 dX3_move_82 (lv_at hl 1 rfl) ?_
  refine cl_v hI (rnVN (As := []) (rest := []) S hI (c_openDoor l G _ (i := k) (by omega) hf__7) (cw_X3_X1_openDoor S.2.2.2.2 hI.1.2.2.2.2.2.2.2 ⟨Nat.le_of_ble_eq_true rfl, Nat.le_of_ble_eq_true rfl⟩) (rcS hI (by omega)) rfl hl.1 (Nat.le_of_ble_eq_true rfl) dX3_move_84 ⟨Nat.le_of_ble_eq_true rfl, Nat.le_of_ble_eq_true rfl⟩) (fun σ9 H locs hq9 hI => ?_)
  have ez9 := hq9
  have hS9 : gS σ9 k = ((gS σ k).1, (openH (gS σ k).2)) := by rw [ez9]; exact gS_setS _ _ _
  have hz3__10 : gP σ9 i = ((gP σ i).1, k, (gP σ i).2.2.1, (gP σ i).2.2.2.1, (gP σ i).2.2.2.2.1, (gP σ i).2.2.2.2.2) := by rw [ez9]; exact hz3__8
  have hS6__11 : gS σ9 (gP σ i).2.1 = ((gS σ (gP σ i).2.1).1, (openH (gS σ (gP σ i).2.1).2)) := by rw [ez9, gS_setS_ne _ _ hne]; exact hS6
  refine lv_aload S.1 S.2.1 dX3_move_87 (lv_at hl 0 rfl) ?_
  refine g_X3_S_number S hI (by omega) hS6__11 dX3_move_89 ?_
  rw [show (if (gP σ i).2.1 < 5 then nI ((gP σ i).2.1) else -1) = (nI (gP σ i).2.1) from if_pos hs]
  exact xt_i S hI hr hlk (⟨rfl, by rw [ez9, ez6, ey3]; try rfl⟩) (by decide) (by decide) dX3_move_92
set_option maxRecDepth 100000 in
set_option maxHeartbeats 4000000 in
theorem c_keep (l : Launch) (G : Gt) (σ : St) (hok : okP σ) {i n : Nat} (hi : i < n) (hn : n ≤ 20) {ar hh pw : Int32} (hX : gX σ = (nI n, ar, hh, pw)) (hs : (gP σ i).2.1 < 5) : Ct l G yX3_keep cX3_keep 4 (some .int) 2 0 0 [.ref (gB G 0), .int (nI i)] σ (Qi G (fun r σ' => r = (gP σ i).2.2.2.1 - (gP σ i).2.2.2.2.1 ∧ σ' = setS (setP σ i (4, 6, (gP σ i).2.2)) (gP σ i).2.1 ((gS σ (gP σ i).2.1).1, openH (gS σ (gP σ i).2.1).2))) := by
  refine mt_intro (by decide +kernel) (Nat.le_of_ble_eq_true rfl) ?_
  intro p e s m below meth c S hr hlk hnm hI ls hl
  have hl : lv_has ls 4 [(0, .ref (gB G 0)), (1, .int (nI i))] := hl
  refine lv_aload_n S.1 S.2.1 dX3_keep_0 rfl (lv_at hl 0 rfl) ?_
  refine lv_iload_n S.1 S.2.1 dX3_keep_1 rfl (lv_at hl 1 rfl) ?_
  refine cl_q hI (rnV (As := [.int (nI i)]) (rest := []) S hI (c_findPromise l G _ hi hn hX) (cw_X3_X3_findPromise S.2.2.2.2 ⟨Nat.le_of_ble_eq_true rfl, Nat.le_of_ble_eq_true rfl⟩) (rcX hI) rfl hl.1 (Nat.le_of_ble_eq_true rfl) dX3_keep_2 ⟨Nat.le_of_ble_eq_true rfl, Nat.le_of_ble_eq_true rfl⟩) (fun r1 σ1 H locs hq1 hI => ?_)
  obtain ⟨hr1, hs1⟩ := hq1
  rw [hs1] at hI
  rw [hr1]
  show W _ _ _ _ _ _ _ _ _ _ _ _ _ _ _ (F0 _ _ _ (.ref (gB G (9 + i)) :: _))
  refine lv_astore_n (lv' := [(2, .ref (gB G (9 + i))), (0, .ref (gB G 0)), (1, .int (nI i))]) S.1 S.2.1 dX3_keep_5 rfl hl (by decide) rfl (fun ls hl => ?_)
  refine lv_aload_n S.1 S.2.1 dX3_keep_6 rfl (lv_at hl 0 rfl) ?_
  refine g_X3_P_shelf_s S hI (by omega) (pEta (gP σ i)) (show (gP σ i).2.1 < 6 by omega) dX3_keep_7 ?_
  refine lv_astore_n (lv' := [(3, .ref (gB G (3 + (gP σ i).2.1))), (2, .ref (gB G (9 + i))), (0, .ref (gB G 0)), (1, .int (nI i))]) S.1 S.2.1 dX3_keep_10 rfl hl (by decide) rfl (fun ls hl => ?_)
  refine lv_aload_n S.1 S.2.1 dX3_keep_11 rfl (lv_at hl 0 rfl) ?_
  refine lv_ifnonnull (tgt := 25) S.1 S.2.1 dX3_keep_12 (by decide) ?_
  refine lv_aload_n S.1 S.2.1 dX3_keep_25 rfl (lv_at hl 1 rfl) ?_
  refine gs_X3_KEPT S hI dX3_keep_26 ?_
  refine cl_v hI (rnVN (As := [.ref (gE G 4)]) (rest := []) S hI (c_P_leave l G _ (i := i) (by omega) (pEta (gP σ i)) 4) (cw_X3_X0_leaveAs S.2.2.2.2 hI.1.2.2.2.2.2.2.2 ⟨Nat.le_of_ble_eq_true rfl, Nat.le_of_ble_eq_true rfl⟩) (rcP hI (by omega)) rfl hl.1 (Nat.le_of_ble_eq_true rfl) dX3_keep_29 ⟨Nat.le_of_ble_eq_true rfl, Nat.le_of_ble_eq_true rfl⟩) (fun σ2 H locs hq2 hI => ?_)
  have ez2 := hq2
  have hP2 : gP σ2 i = (4, 6, (gP σ i).2.2.1, (gP σ i).2.2.2.1, (gP σ i).2.2.2.2.1, (gP σ i).2.2.2.2.2) := by rw [ez2]; exact gP_setP _ _ _
  have hf__3 : gS σ2 (gP σ i).2.1 = ((gS σ ((gP σ i).2.1)).1, (gS σ ((gP σ i).2.1)).2) := by rw [ez2]; exact (sEta (gS σ ((gP σ i).2.1)))
  refine lv_aload_n S.1 S.2.1 dX3_keep_32 rfl (lv_at hl 0 rfl) ?_
  refine cl_v hI (rnVN (As := []) (rest := []) S hI (c_openDoor l G _ (i := (gP σ i).2.1) (by omega) hf__3) (cw_X3_X1_openDoor S.2.2.2.2 hI.1.2.2.2.2.2.2.2 ⟨Nat.le_of_ble_eq_true rfl, Nat.le_of_ble_eq_true rfl⟩) (rcS hI (by omega)) rfl hl.1 (Nat.le_of_ble_eq_true rfl) dX3_keep_33 ⟨Nat.le_of_ble_eq_true rfl, Nat.le_of_ble_eq_true rfl⟩) (fun σ4 H locs hq4 hI => ?_)
  have ez4 := hq4
  have hS4 : gS σ4 (gP σ i).2.1 = ((gS σ (gP σ i).2.1).1, (openH (gS σ (gP σ i).2.1).2)) := by rw [ez4]; exact gS_setS _ _ _
  have hP2__5 : gP σ4 i = (4, 6, (gP σ i).2.2.1, (gP σ i).2.2.2.1, (gP σ i).2.2.2.2.1, (gP σ i).2.2.2.2.2) := by rw [ez4]; exact hP2
  refine lv_aload_n S.1 S.2.1 dX3_keep_36 rfl (lv_at hl 1 rfl) ?_
  refine g_X3_P_life S hI (by omega) hP2__5 dX3_keep_37 ?_
  refine lv_aload_n S.1 S.2.1 dX3_keep_40 rfl (lv_at hl 1 rfl) ?_
  refine g_X3_P_age S hI (by omega) hP2__5 dX3_keep_41 ?_
  refine lv_isub S.1 S.2.1 dX3_keep_44 ?_
  exact xt_i S hI hr hlk (⟨rfl, by rw [ez4, ez2]; try rfl⟩) (by decide) (by decide) dX3_keep_45
set_option maxRecDepth 100000 in
set_option maxHeartbeats 4000000 in
theorem c_set (l : Launch) (G : Gt) (σ : St) {k : Nat} (hk : k < 5) {v : Int32} (hv1 : ¬ v < -30) (hv2 : v ≤ -5) : Ct l G yX3_set cX3_set 5 (some .int) 2 0 0 [.ref (gB G 0), .int (nI k), .int v] σ (Qi G (fun r σ' => r = (gS σ k).1 ∧ σ' = setS σ k (v, (gS σ k).2))) := by
  refine mt_intro (by decide +kernel) (Nat.le_of_ble_eq_true rfl) ?_
  intro p e s m below meth c S hr hlk hnm hI ls hl
  have hl : lv_has ls 5 [(0, .ref (gB G 0)), (1, .int (nI k)), (2, .int v)] := hl
  refine lv_aload_n S.1 S.2.1 dX3_set_0 rfl (lv_at hl 0 rfl) ?_
  refine lv_iload_n S.1 S.2.1 dX3_set_1 rfl (lv_at hl 1 rfl) ?_
  refine cl_q hI (rnV (As := [.int (nI k)]) (rest := []) S hI (c_findShelf l G _ hk) (cw_X3_X3_findShelf S.2.2.2.2 ⟨Nat.le_of_ble_eq_true rfl, Nat.le_of_ble_eq_true rfl⟩) (rcX hI) rfl hl.1 (Nat.le_of_ble_eq_true rfl) dX3_set_2 ⟨Nat.le_of_ble_eq_true rfl, Nat.le_of_ble_eq_true rfl⟩) (fun r1 σ1 H locs hq1 hI => ?_)
  obtain ⟨hr1, hs1⟩ := hq1
  rw [hs1] at hI
  rw [hr1]
  show W _ _ _ _ _ _ _ _ _ _ _ _ _ _ _ (F0 _ _ _ (.ref (gB G (3 + k)) :: _))
  refine lv_astore_n (lv' := [(3, .ref (gB G (3 + k))), (0, .ref (gB G 0)), (1, .int (nI k)), (2, .int v)]) S.1 S.2.1 dX3_set_5 rfl hl (by decide) rfl (fun ls hl => ?_)
  refine lv_iload_n S.1 S.2.1 dX3_set_6 rfl (lv_at hl 3 rfl) ?_
  refine lv_bipush (v := (-30)) S.1 S.2.1 dX3_set_7 (by decide) ?_
  refine lv_icmp_lt (tgt := 18) S.1 S.2.1 dX3_set_9 (by decide) (fun c9 => absurd c9 hv1) (fun cz_9 => ?_)
  refine lv_iload_n S.1 S.2.1 dX3_set_12 rfl (lv_at hl 3 rfl) ?_
  refine lv_bipush (v := (-5)) S.1 S.2.1 dX3_set_13 (by decide) ?_
  refine lv_icmp_le (tgt := 28) S.1 S.2.1 dX3_set_15 (by decide) (fun cz_15 => ?_) (fun c9 => absurd hv2 c9)
  refine lv_aload_n S.1 S.2.1 dX3_set_28 rfl (lv_at hl 0 rfl) ?_
  refine g_X3_S_setting S hI (by omega) (sEta (gS σ k)) dX3_set_29 ?_
  refine lv_istore (lv' := [(4, .int ((gS σ k).1)), (3, .ref (gB G (3 + k))), (0, .ref (gB G 0)), (1, .int (nI k)), (2, .int v)]) S.1 S.2.1 dX3_set_32 hl (by decide) rfl (fun ls hl => ?_)
  refine lv_aload_n S.1 S.2.1 dX3_set_34 rfl (lv_at hl 1 rfl) ?_
  refine lv_iload_n S.1 S.2.1 dX3_set_35 rfl (lv_at hl 4 rfl) ?_
  refine p_X3_S_setting S hI (by omega) (sEta (gS σ k)) dX3_set_36 (fun σ2 H locs ey2 hz2 hI => ?_)
  refine lv_iload S.1 S.2.1 dX3_set_39 (lv_at hl 0 rfl) ?_
  exact xt_i S hI hr hlk (⟨rfl, by rw [ey2]; try rfl⟩) (by decide) (by decide) dX3_set_41
set_option maxRecDepth 100000 in
set_option maxHeartbeats 4000000 in
theorem c_switchPower (l : Launch) (G : Gt) (σ : St) (hw : (gX σ).2.2.2 = 0 ∨ (gX σ).2.2.2 = 1) : Ct l G yX3_switchPower cX3_switchPower 1 (some .boolean) 1 0 0 [.ref (gB G 0)] σ (Qi G (fun r σ' => r = (if (gX σ).2.2.2 = 0 then 1 else 0) ∧ σ' = setX σ ((gX σ).1, (gX σ).2.1, (gX σ).2.2.1, (if (gX σ).2.2.2 = 0 then 1 else 0)))) := by
  refine mt_intro (by decide +kernel) (Nat.le_of_ble_eq_true rfl) ?_
  intro p e s m below meth c S hr hlk hnm hI ls hl
  have hl : lv_has ls 1 [(0, .ref (gB G 0))] := hl
  refine lv_aload_n S.1 S.2.1 dX3_switchPower_0 rfl (lv_at hl 0 rfl) ?_
  refine lv_aload_n S.1 S.2.1 dX3_switchPower_1 rfl (lv_at hl 0 rfl) ?_
  refine g_X3_X_power S hI (xEta (gX σ)) dX3_switchPower_2 ?_
  refine lv_if_ne (tgt := 12) S.1 S.2.1 dX3_switchPower_5 (by decide) (fun cz_5 => ?_) (fun cz_5 => ?_)
  · refine lv_iconst (v := 0) S.1 S.2.1 dX3_switchPower_12 (by decide) ?_
    refine p_X3_X_power S hI (xEta (gX σ)) (by decide) dX3_switchPower_13 (fun σ1 H locs ey1 hz1 hI => ?_)
    refine lv_aload_n S.1 S.2.1 dX3_switchPower_16 rfl (lv_at hl 0 rfl) ?_
    refine g_X3_X_power S hI hz1 dX3_switchPower_17 ?_
    exact xt_z S hI hr hlk rfl (by rw [if_neg cz_5]; exact ⟨rfl, by rw [ey1]; try rfl⟩) (by decide) (by decide) dX3_switchPower_20
  · refine lv_iconst (v := 1) S.1 S.2.1 dX3_switchPower_8 (by decide) ?_
    refine lv_goto (tgt := 13) S.1 S.2.1 dX3_switchPower_9 (by decide) ?_
    refine p_X3_X_power S hI (xEta (gX σ)) (by decide) dX3_switchPower_13 (fun σ2 H locs ey2 hz2 hI => ?_)
    refine lv_aload_n S.1 S.2.1 dX3_switchPower_16 rfl (lv_at hl 0 rfl) ?_
    refine g_X3_X_power S hI hz2 dX3_switchPower_17 ?_
    exact xt_z S hI hr hlk rfl (by rw [if_pos cz_5]; exact ⟨rfl, by rw [ey2]; try rfl⟩) (by decide) (by decide) dX3_switchPower_20
