set_option maxRecDepth 100000 in
set_option maxHeartbeats 4000000 in
theorem c_findShelf (l : Launch) (G : Gt) (σ : St) {k : Nat} (hk : k < 5) : Ct l G yX3_findShelf cX3_findShelf 2 (some (.object "PromiseShelves$Shelf")) 1 0 0 [.ref (gB G 0), .int (nI k)] σ (Qq G (fun r σ' => r = some (gB G (3 + k)) ∧ σ' = σ)) := by
  refine mt_intro (by decide +kernel) (Nat.le_of_ble_eq_true rfl) ?_
  intro p e s m below meth c S hr hlk hnm hI ls hl
  have hl : lv_has ls 2 [(0, .ref (gB G 0)), (1, .int (nI k))] := hl
  refine lv_iload_n S.1 S.2.1 dX3_findShelf_0 rfl (lv_at hl 1 rfl) ?_
  refine lv_if_lt (tgt := 9) S.1 S.2.1 dX3_findShelf_1 (by decide) (fun c9 => absurd c9 (nI_pos (by omega))) (fun cz_1 => ?_)
  refine lv_iload_n S.1 S.2.1 dX3_findShelf_4 rfl (lv_at hl 1 rfl) ?_
  refine lv_iconst (v := 5) S.1 S.2.1 dX3_findShelf_5 (by decide) ?_
  refine lv_icmp_lt (tgt := 19) S.1 S.2.1 dX3_findShelf_6 (by decide) (fun cz_6 => ?_) (fun c9 => absurd (nI_lt (b := 5) hk (by omega)) c9)
  refine lv_aload_n S.1 S.2.1 dX3_findShelf_19 rfl (lv_at hl 0 rfl) ?_
  refine g_X3_X_shelves S hI dX3_findShelf_20 ?_
  refine lv_iload_n S.1 S.2.1 dX3_findShelf_23 rfl (lv_at hl 1 rfl) ?_
  refine a_SA S hI hk dX3_findShelf_24 ?_
  exact xt_a S hI hr hlk (⟨rfl, rfl⟩) (by decide) (by decide) dX3_findShelf_25
set_option maxRecDepth 100000 in
set_option maxHeartbeats 4000000 in
theorem c_findPromise (l : Launch) (G : Gt) (σ : St) {k n : Nat} (hk : k < n) (hn : n ≤ 20) {ar hh pw : Int32} (hx : gX σ = (nI n, ar, hh, pw)) : Ct l G yX3_findPromise cX3_findPromise 2 (some (.object "PromiseShelves$Promise")) 1 0 0 [.ref (gB G 0), .int (nI k)] σ (Qq G (fun r σ' => r = some (gB G (9 + k)) ∧ σ' = σ)) := by
  refine mt_intro (by decide +kernel) (Nat.le_of_ble_eq_true rfl) ?_
  intro p e s m below meth c S hr hlk hnm hI ls hl
  have hl : lv_has ls 2 [(0, .ref (gB G 0)), (1, .int (nI k))] := hl
  refine lv_iload_n S.1 S.2.1 dX3_findPromise_0 rfl (lv_at hl 1 rfl) ?_
  refine lv_if_lt (tgt := 12) S.1 S.2.1 dX3_findPromise_1 (by decide) (fun c9 => absurd c9 (nI_pos (by omega))) (fun cz_1 => ?_)
  refine lv_iload_n S.1 S.2.1 dX3_findPromise_4 rfl (lv_at hl 1 rfl) ?_
  refine lv_aload_n S.1 S.2.1 dX3_findPromise_5 rfl (lv_at hl 0 rfl) ?_
  refine g_X3_X_made S hI hx dX3_findPromise_6 ?_
  refine lv_icmp_lt (tgt := 22) S.1 S.2.1 dX3_findPromise_9 (by decide) (fun cz_9 => ?_) (fun c9 => absurd (nI_lt hk (by omega)) c9)
  refine lv_aload_n S.1 S.2.1 dX3_findPromise_22 rfl (lv_at hl 0 rfl) ?_
  refine g_X3_X_promises S hI dX3_findPromise_23 ?_
  refine lv_iload_n S.1 S.2.1 dX3_findPromise_26 rfl (lv_at hl 1 rfl) ?_
  refine a_PA S hI (by omega) dX3_findPromise_27 ?_
  exact xt_a S hI hr hlk (⟨rfl, rfl⟩) (by decide) (by decide) dX3_findPromise_28
set_option maxRecDepth 100000 in
set_option maxHeartbeats 4000000 in
theorem c_checkMaker (l : Launch) (G : Gt) (σ : St) {k : Nat} (hk : k < 6) : Ct l G yX3_checkMaker cX3_checkMaker 1 none 1 0 0 [.int (nI k)] σ (Qv G (fun σ' => σ' = σ)) := by
  refine mt_intro (by decide +kernel) (Nat.le_of_ble_eq_true rfl) ?_
  intro p e s m below meth c S hr hlk hnm hI ls hl
  have hl : lv_has ls 1 [(0, .int (nI k))] := hl
  refine lv_iload_n S.1 S.2.1 dX3_checkMaker_0 rfl (lv_at hl 0 rfl) ?_
  refine lv_if_lt (tgt := 10) S.1 S.2.1 dX3_checkMaker_1 (by decide) (fun c9 => absurd c9 (nI_pos (by omega))) (fun cz_1 => ?_)
  refine lv_iload_n S.1 S.2.1 dX3_checkMaker_4 rfl (lv_at hl 0 rfl) ?_
  refine lv_bipush (v := 6) S.1 S.2.1 dX3_checkMaker_5 (by decide) ?_
  refine lv_icmp_lt (tgt := 20) S.1 S.2.1 dX3_checkMaker_7 (by decide) (fun cz_7 => ?_) (fun c9 => absurd (nI_lt (b := 6) hk (by omega)) c9)
  exact xt_v S hI hr hlk rfl (by decide) (by decide) dX3_checkMaker_20
set_option maxRecDepth 100000 in
set_option maxHeartbeats 4000000 in
theorem c_checkHours (l : Launch) (G : Gt) (σ : St) {k : Nat} (h1 : 1 ≤ k) (hk : k ≤ 100) : Ct l G yX3_checkHours cX3_checkHours 1 none 1 0 0 [.int (nI k)] σ (Qv G (fun σ' => σ' = σ)) := by
  refine mt_intro (by decide +kernel) (Nat.le_of_ble_eq_true rfl) ?_
  intro p e s m below meth c S hr hlk hnm hI ls hl
  have hl : lv_has ls 1 [(0, .int (nI k))] := hl
  refine lv_iload_n S.1 S.2.1 dX3_checkHours_0 rfl (lv_at hl 0 rfl) ?_
  refine lv_iconst (v := 1) S.1 S.2.1 dX3_checkHours_1 (by decide) ?_
  refine lv_icmp_lt (tgt := 11) S.1 S.2.1 dX3_checkHours_2 (by decide) (fun c9 => absurd c9 (nI_nlt (b := 1) h1 (by omega))) (fun cz_2 => ?_)
  refine lv_iload_n S.1 S.2.1 dX3_checkHours_5 rfl (lv_at hl 0 rfl) ?_
  refine lv_bipush (v := 100) S.1 S.2.1 dX3_checkHours_6 (by decide) ?_
  refine lv_icmp_le (tgt := 21) S.1 S.2.1 dX3_checkHours_8 (by decide) (fun cz_8 => ?_) (fun c9 => absurd (nI_le (b := 100) hk (by omega)) c9)
  exact xt_v S hI hr hlk rfl (by decide) (by decide) dX3_checkHours_21
set_option maxRecDepth 100000 in
set_option maxHeartbeats 4000000 in
theorem c_isSooner (l : Launch) (G : Gt) (σ : St) (a b : Int32) : Ct l G yX3_isSooner cX3_isSooner 2 (some .boolean) 1 0 0 [.int a, .int b] σ (Qi G (fun r σ' => r = (if sooner a b = true then 1 else 0) ∧ σ' = σ)) := by
  refine mt_intro (by decide +kernel) (Nat.le_of_ble_eq_true rfl) ?_
  intro p e s m below meth c S hr hlk hnm hI ls hl
  have hl : lv_has ls 2 [(0, .int a), (1, .int b)] := hl
  refine lv_iload_n S.1 S.2.1 dX3_isSooner_0 rfl (lv_at hl 0 rfl) ?_
  refine lv_iconst (v := (-1)) S.1 S.2.1 dX3_isSooner_1 (by decide) ?_
  refine lv_icmp_eq (tgt := 19) S.1 S.2.1 dX3_isSooner_2 (by decide) (fun cz_2 => ?_) (fun cz_2 => ?_)
  · refine lv_iconst (v := 0) S.1 S.2.1 dX3_isSooner_19 (by decide) ?_
    exact xt_z S hI hr hlk rfl (by simp [sooner, cz_2]) (by decide) (by decide) dX3_isSooner_20
  · refine lv_iload_n S.1 S.2.1 dX3_isSooner_5 rfl (lv_at hl 1 rfl) ?_
    refine lv_iconst (v := (-1)) S.1 S.2.1 dX3_isSooner_6 (by decide) ?_
    refine lv_icmp_eq (tgt := 15) S.1 S.2.1 dX3_isSooner_7 (by decide) (fun cz_7 => ?_) (fun cz_7 => ?_)
    · refine lv_iconst (v := 1) S.1 S.2.1 dX3_isSooner_15 (by decide) ?_
      refine lv_goto (tgt := 20) S.1 S.2.1 dX3_isSooner_16 (by decide) ?_
      exact xt_z S hI hr hlk rfl (by simp [sooner, cz_2, cz_7]) (by decide) (by decide) dX3_isSooner_20
    · refine lv_iload_n S.1 S.2.1 dX3_isSooner_10 rfl (lv_at hl 0 rfl) ?_
      refine lv_iload_n S.1 S.2.1 dX3_isSooner_11 rfl (lv_at hl 1 rfl) ?_
      refine lv_icmp_ge (tgt := 19) S.1 S.2.1 dX3_isSooner_12 (by decide) (fun cz_12 => ?_) (fun cz_12 => ?_)
      · refine lv_iconst (v := 0) S.1 S.2.1 dX3_isSooner_19 (by decide) ?_
        exact xt_z S hI hr hlk rfl (by simp [sooner, cz_2, cz_7, cz_12]) (by decide) (by decide) dX3_isSooner_20
      · refine lv_iconst (v := 1) S.1 S.2.1 dX3_isSooner_15 (by decide) ?_
        refine lv_goto (tgt := 20) S.1 S.2.1 dX3_isSooner_16 (by decide) ?_
        exact xt_z S hI hr hlk rfl (by simp [sooner, cz_2, cz_7, cz_12]) (by decide) (by decide) dX3_isSooner_20
set_option maxRecDepth 100000 in
set_option maxHeartbeats 4000000 in
theorem c_asNumber (l : Launch) (G : Gt) (σ : St) (a : Int32) (ha : a = 0 ∨ a = 1) : Ct l G yX3_asNumber cX3_asNumber 1 (some .int) 1 0 0 [.int a] σ (Qi G (fun r σ' => r = a ∧ σ' = σ)) := by
  refine mt_intro (by decide +kernel) (Nat.le_of_ble_eq_true rfl) ?_
  intro p e s m below meth c S hr hlk hnm hI ls hl
  have hl : lv_has ls 1 [(0, .int a)] := hl
  refine lv_iload_n S.1 S.2.1 dX3_asNumber_0 rfl (lv_at hl 0 rfl) ?_
  refine lv_if_eq (tgt := 8) S.1 S.2.1 dX3_asNumber_1 (by decide) (fun cz_1 => ?_) (fun cz_1 => ?_)
  · refine lv_iconst (v := 0) S.1 S.2.1 dX3_asNumber_8 (by decide) ?_
    exact xt_i S hI hr hlk (by rcases ha with rfl | rfl <;> simp_all) (by decide) (by decide) dX3_asNumber_9
  · refine lv_iconst (v := 1) S.1 S.2.1 dX3_asNumber_4 (by decide) ?_
    refine lv_goto (tgt := 9) S.1 S.2.1 dX3_asNumber_5 (by decide) ?_
    exact xt_i S hI hr hlk (by rcases ha with rfl | rfl <;> simp_all) (by decide) (by decide) dX3_asNumber_9
set_option maxRecDepth 100000 in
set_option maxHeartbeats 4000000 in
theorem c_countOf (l : Launch) (G : Gt) (σ : St) (hok : okP σ) (a : Int32) {g : Nat} (hg : g < 6) : Ct l G yX3_countOf cX3_countOf 8 (some .int) 1 0 0 [.ref (gB G 0), .int a, .ref (gE G g)] σ (Qi G (fun r σ' => r = sumN (fun i => if (gP σ i).1 = g ∧ (gP σ i).2.2.1 = a then 1 else 0) 20 ∧ σ' = σ)) := by
  refine mt_intro (by decide +kernel) (Nat.le_of_ble_eq_true rfl) ?_
  intro p e s m below meth c S hr hlk hnm hI ls hl
  have hl : lv_has ls 8 [(0, .ref (gB G 0)), (1, .int a), (2, .ref (gE G g))] := hl
  have loop : ∀ (n : Nat) (k : Nat), k + n = 20 → ∀ (H : Heap) (locs : List Loc), Iv G σ s H locs → ∀ ls : Array Slot, lv_has ls 8 [(0, .ref (gB G 0)), (1, .int a), (2, .ref (gE G g)), (3, .int (sumN (fun i => if (gP σ i).1 = g ∧ (gP σ i).2.2.1 = a then 1 else 0) k)), (4, .ref (gB G 2)), (5, .int (nI 20)), (6, .int (nI k))] → W p l e (rm 1 0 0) s m ([.ref (gB G 0), .int a, .ref (gE G g)] : List Value).toArray below meth c H locs 0 0 (MQ below (Qi G (fun r σ' => r = sumN (fun i => if (gP σ i).1 = g ∧ (gP σ i).2.2.1 = a then 1 else 0) 20 ∧ σ' = σ)) ([.ref (gB G 0), .int a, .ref (gE G g)] : List Value).toArray s 0 0 (gA G)) (F0 m 16 ls []) := by
    intro n
    induction n with
    | zero =>
      intro k hk H locs hI ls hl
      obtain rfl : k = 20 := by omega
      refine lv_iload S.1 S.2.1 dX3_countOf_16 (lv_at hl 6 rfl) ?_
      refine lv_iload S.1 S.2.1 dX3_countOf_18 (lv_at hl 5 rfl) ?_
      refine lv_icmp_ge (tgt := 57) S.1 S.2.1 dX3_countOf_20 (by decide) (fun cz_20 => ?_) (fun c9 => absurd (nI_le (Nat.le_refl 20) (by omega)) c9)
      refine lv_iload_n S.1 S.2.1 dX3_countOf_57 rfl (lv_at hl 3 rfl) ?_
      exact xt_i S hI hr hlk (⟨rfl, rfl⟩) (by decide) (by decide) dX3_countOf_58
    | succ n ih =>
      intro k hk H locs hI ls hl
      have hk2 : k < 20 := by omega
      refine lv_iload S.1 S.2.1 dX3_countOf_16 (lv_at hl 6 rfl) ?_
      refine lv_iload S.1 S.2.1 dX3_countOf_18 (lv_at hl 5 rfl) ?_
      refine lv_icmp_ge (tgt := 57) S.1 S.2.1 dX3_countOf_20 (by decide) (fun c9 => absurd c9 (nI_ge hk2 (by omega))) (fun cz_20 => ?_)
      refine lv_aload S.1 S.2.1 dX3_countOf_23 (lv_at hl 4 rfl) ?_
      refine lv_iload S.1 S.2.1 dX3_countOf_25 (lv_at hl 6 rfl) ?_
      refine a_PA S hI hk2 dX3_countOf_27 ?_
      refine lv_astore (lv' := [(7, .ref (gB G (9 + k))), (0, .ref (gB G 0)), (1, .int a), (2, .ref (gE G g)), (3, .int (sumN (fun i => if (gP σ i).1 = g ∧ (gP σ i).2.2.1 = a then 1 else 0) k)), (4, .ref (gB G 2)), (5, .int (nI 20)), (6, .int (nI k))]) S.1 S.2.1 dX3_countOf_28 hl (by decide) rfl (fun ls hl => ?_)
      refine lv_aload S.1 S.2.1 dX3_countOf_30 (lv_at hl 0 rfl) ?_
      refine g_X3_P_stage S hI (by omega) (pEta (gP σ k)) dX3_countOf_32 ?_
      refine lv_aload_n S.1 S.2.1 dX3_countOf_35 rfl (lv_at hl 3 rfl) ?_
      refine ag_ne S hI (hok k hk2).1 hg (tgt := 51) dX3_countOf_36 (by decide) (fun cz_36 => ?_) (fun cz_36 => ?_)
      · refine lv_iinc (v := (nI (k + 1))) (lv' := [(6, .int (nI (k + 1))), (7, .ref (gB G (9 + k))), (0, .ref (gB G 0)), (1, .int a), (2, .ref (gE G g)), (3, .int (sumN (fun i => if (gP σ i).1 = g ∧ (gP σ i).2.2.1 = a then 1 else 0) k)), (4, .ref (gB G 2)), (5, .int (nI 20))]) S.1 S.2.1 dX3_countOf_51 hl (k := 7) rfl (nI_1 k) (by decide) rfl (fun ls hl => ?_)
        refine lv_goto (tgt := 16) S.1 S.2.1 dX3_countOf_54 (by decide) ?_
        exact ih (k + 1) (by omega) _ _ hI ls (by rw [show sumN (fun i => if (gP σ i).1 = g ∧ (gP σ i).2.2.1 = a then 1 else 0) (k + 1) = (sumN (fun i => if (gP σ i).1 = g ∧ (gP σ i).2.2.1 = a then 1 else 0) k) from by simp [sumN_s, cz_36]]; exact lv_sub hl [2, 3, 4, 5, 6, 7, 0] rfl)
      · refine lv_aload S.1 S.2.1 dX3_countOf_39 (lv_at hl 0 rfl) ?_
        refine g_X3_P_maker S hI (by omega) (pEta (gP σ k)) dX3_countOf_41 ?_
        refine lv_iload_n S.1 S.2.1 dX3_countOf_44 rfl (lv_at hl 2 rfl) ?_
        refine lv_icmp_ne (tgt := 51) S.1 S.2.1 dX3_countOf_45 (by decide) (fun cz_45 => ?_) (fun cz_45 => ?_)
        · refine lv_iinc (v := (nI (k + 1))) (lv' := [(6, .int (nI (k + 1))), (7, .ref (gB G (9 + k))), (0, .ref (gB G 0)), (1, .int a), (2, .ref (gE G g)), (3, .int (sumN (fun i => if (gP σ i).1 = g ∧ (gP σ i).2.2.1 = a then 1 else 0) k)), (4, .ref (gB G 2)), (5, .int (nI 20))]) S.1 S.2.1 dX3_countOf_51 hl (k := 7) rfl (nI_1 k) (by decide) rfl (fun ls hl => ?_)
          refine lv_goto (tgt := 16) S.1 S.2.1 dX3_countOf_54 (by decide) ?_
          exact ih (k + 1) (by omega) _ _ hI ls (by rw [show sumN (fun i => if (gP σ i).1 = g ∧ (gP σ i).2.2.1 = a then 1 else 0) (k + 1) = (sumN (fun i => if (gP σ i).1 = g ∧ (gP σ i).2.2.1 = a then 1 else 0) k) from by simp [sumN_s, cz_36, cz_45]]; exact lv_sub hl [2, 3, 4, 5, 6, 7, 0] rfl)
        · refine lv_iinc (v := ((sumN (fun i => if (gP σ i).1 = g ∧ (gP σ i).2.2.1 = a then 1 else 0) k) + 1)) (lv' := [(3, .int ((sumN (fun i => if (gP σ i).1 = g ∧ (gP σ i).2.2.1 = a then 1 else 0) k) + 1)), (7, .ref (gB G (9 + k))), (0, .ref (gB G 0)), (1, .int a), (2, .ref (gE G g)), (4, .ref (gB G 2)), (5, .int (nI 20)), (6, .int (nI k))]) S.1 S.2.1 dX3_countOf_48 hl (k := 4) rfl rfl (by decide) rfl (fun ls hl => ?_)
          refine lv_iinc (v := (nI (k + 1))) (lv' := [(6, .int (nI (k + 1))), (3, .int ((sumN (fun i => if (gP σ i).1 = g ∧ (gP σ i).2.2.1 = a then 1 else 0) k) + 1)), (7, .ref (gB G (9 + k))), (0, .ref (gB G 0)), (1, .int a), (2, .ref (gE G g)), (4, .ref (gB G 2)), (5, .int (nI 20))]) S.1 S.2.1 dX3_countOf_51 hl (k := 7) rfl (nI_1 k) (by decide) rfl (fun ls hl => ?_)
          refine lv_goto (tgt := 16) S.1 S.2.1 dX3_countOf_54 (by decide) ?_
          exact ih (k + 1) (by omega) _ _ hI ls (by rw [show sumN (fun i => if (gP σ i).1 = g ∧ (gP σ i).2.2.1 = a then 1 else 0) (k + 1) = ((sumN (fun i => if (gP σ i).1 = g ∧ (gP σ i).2.2.1 = a then 1 else 0) k) + 1) from by simp [sumN_s, cz_36, cz_45]]; exact lv_sub hl [3, 4, 5, 1, 6, 7, 0] rfl)
  refine lv_iconst (v := 0) S.1 S.2.1 dX3_countOf_0 (by decide) ?_
  refine lv_istore_n (lv' := [(3, .int 0), (0, .ref (gB G 0)), (1, .int a), (2, .ref (gE G g))]) S.1 S.2.1 dX3_countOf_1 rfl hl (by decide) rfl (fun ls hl => ?_)
  refine lv_aload_n S.1 S.2.1 dX3_countOf_2 rfl (lv_at hl 1 rfl) ?_
  refine g_X3_X_promises S hI dX3_countOf_3 ?_
  refine lv_astore (lv' := [(4, .ref (gB G 2)), (3, .int 0), (0, .ref (gB G 0)), (1, .int a), (2, .ref (gE G g))]) S.1 S.2.1 dX3_countOf_6 hl (by decide) rfl (fun ls hl => ?_)
  refine lv_aload S.1 S.2.1 dX3_countOf_8 (lv_at hl 0 rfl) ?_
  refine n_PA S hI dX3_countOf_10 ?_
  refine lv_istore (lv' := [(5, .int (nI 20)), (4, .ref (gB G 2)), (3, .int 0), (0, .ref (gB G 0)), (1, .int a), (2, .ref (gE G g))]) S.1 S.2.1 dX3_countOf_11 hl (by decide) rfl (fun ls hl => ?_)
  refine lv_iconst (v := (nI 0)) S.1 S.2.1 dX3_countOf_13 (by rfl) ?_
  refine lv_istore (lv' := [(6, .int (nI 0)), (5, .int (nI 20)), (4, .ref (gB G 2)), (3, .int 0), (0, .ref (gB G 0)), (1, .int a), (2, .ref (gE G g))]) S.1 S.2.1 dX3_countOf_14 hl (by decide) rfl (fun ls hl => ?_)
  exact loop 20 0 rfl _ _ hI ls (lv_sub hl [4, 5, 6, 3, 2, 1, 0] rfl)
set_option maxRecDepth 100000 in
set_option maxHeartbeats 4000000 in
theorem c_tryOut (l : Launch) (G : Gt) (σ : St) {i j : Nat} (hi : i < 20) (hj : j < 5) : Ct l G yX3_tryOut cX3_tryOut 3 none 2 0 0 [.ref (gB G 0), .ref (gB G (9 + i)), .ref (gB G (3 + j))] σ (Qv G (fun σ' => σ' = TT σ (gS σ j) (trial (gP σ i)))) := by
  refine mt_intro (by decide +kernel) (Nat.le_of_ble_eq_true rfl) ?_
  intro p e s m below meth c S hr hlk hnm hI ls hl
  have hl : lv_has ls 3 [(0, .ref (gB G 0)), (1, .ref (gB G (9 + i))), (2, .ref (gB G (3 + j)))] := hl
  refine lv_aload_n S.1 S.2.1 dX3_tryOut_0 rfl (lv_at hl 0 rfl) ?_
  refine g_X3_X_trialShelf S hI dX3_tryOut_1 ?_
  refine lv_aload_n S.1 S.2.1 dX3_tryOut_4 rfl (lv_at hl 2 rfl) ?_
  refine cl_v hI (rnVN (As := [.ref (gB G (3 + j))]) (rest := []) S hI (c_S_like l G _ (i := 5) (j := j) (by decide) (by omega) (by omega) (sEta _) (sEta _)) (cw_X3_X1_becomeLike S.2.2.2.2 hI.1.2.2.2.2.2.2.2 ⟨Nat.le_of_ble_eq_true rfl, Nat.le_of_ble_eq_true rfl⟩) (rcS hI (by decide)) rfl hl.1 (Nat.le_of_ble_eq_true rfl) dX3_tryOut_5 ⟨Nat.le_of_ble_eq_true rfl, Nat.le_of_ble_eq_true rfl⟩) (fun σ1 H locs hq1 hI => ?_)
  have ez1 := hq1
  have hS1 : gS σ1 5 = ((gS σ j).1, (gS σ j).2) := by rw [ez1]; exact gS_setS _ _ _
  have hf__2 : gP σ1 i = ((gP σ i).1, (gP σ i).2.1, (gP σ i).2.2.1, (gP σ i).2.2.2.1, (gP σ i).2.2.2.2.1, (gP σ i).2.2.2.2.2) := by rw [ez1]; exact (pEta (gP σ i))
  refine lv_aload_n S.1 S.2.1 dX3_tryOut_8 rfl (lv_at hl 0 rfl) ?_
  refine g_X3_X_trialPromise S hI dX3_tryOut_9 ?_
  refine lv_aload_n S.1 S.2.1 dX3_tryOut_12 rfl (lv_at hl 1 rfl) ?_
  refine lv_aload_n S.1 S.2.1 dX3_tryOut_13 rfl (lv_at hl 0 rfl) ?_
  refine g_X3_X_trialShelf S hI dX3_tryOut_14 ?_
  refine cl_v hI (rnVN (As := [.ref (gB G (9 + i)), .ref (gB G (3 + 5))]) (rest := []) S hI (c_P_like l G _ (i := 20) (j := i) (k := 5) (by decide) (by omega) (by omega) (pEta _) hf__2 (by decide)) (cw_X3_X0_becomeLike S.2.2.2.2 hI.1.2.2.2.2.2.2.2 ⟨Nat.le_of_ble_eq_true rfl, Nat.le_of_ble_eq_true rfl⟩) (rcP hI (by decide)) rfl hl.1 (Nat.le_of_ble_eq_true rfl) dX3_tryOut_17 ⟨Nat.le_of_ble_eq_true rfl, Nat.le_of_ble_eq_true rfl⟩) (fun σ3 H locs hq3 hI => ?_)
  have ez3 := hq3
  have hP3 : gP σ3 20 = ((gP σ i).1, 5, (gP σ i).2.2.1, (gP σ i).2.2.2.1, (gP σ i).2.2.2.2.1, (gP σ i).2.2.2.2.2) := by rw [ez3]; exact gP_setP _ _ _
  have hf__4 : gP σ3 i = ((gP σ i).1, (gP σ i).2.1, (gP σ i).2.2.1, (gP σ i).2.2.2.1, (gP σ i).2.2.2.2.1, (gP σ i).2.2.2.2.2) := by rw [ez3, gP_setP_ne _ _ (by omega)]; exact hf__2
  have hS1__5 : gS σ3 5 = ((gS σ j).1, (gS σ j).2) := by rw [ez3]; exact hS1
  exact xt_v S hI hr hlk (by rw [ez3, ez1]; rfl) (by decide) (by decide) dX3_tryOut_20
/-- an hour of a promise: whatever it lies on -/
theorem c_P_hour (l : Launch) (G : Gt) (σ : St) {i : Nat} (hi : i < 21) (hg : (gP σ i).1 < 6) : Ct l G yX0_liveAnHour cX0_liveAnHour 2 (some .boolean) 2 0 0 [.ref (gB G (9 + i))] σ (Qi G (fun r σ' => r = ringP (gS σ (gP σ i).2.1).2 (gP σ i) ∧ σ' = setP σ i (hourP (gS σ (gP σ i).2.1).2 (gP σ i)))) := by
  by_cases hs : (gP σ i).2.1 < 6
  · exact c_P_hour_s l G σ hi (pEta _) hg hs (sEta _)
  · have h := c_P_hour_n l G σ hi (pEta _) hs
    rw [show (fun (r : Int32) (σ' : St) => r = 0 ∧ σ' = σ) = (fun (r : Int32) (σ' : St) => r = ringP (gS σ (gP σ i).2.1).2 (gP σ i) ∧ σ' = setP σ i (hourP (gS σ (gP σ i).2.1).2 (gP σ i))) from by
      funext r σ'
      rw [show ringP (gS σ (gP σ i).2.1).2 (gP σ i) = 0 from if_neg (fun q => hs q.1), show hourP (gS σ (gP σ i).2.1).2 (gP σ i) = gP σ i from if_neg hs, setP_same]] at h
    exact h
