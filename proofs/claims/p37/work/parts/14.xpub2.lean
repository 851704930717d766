def onF (σ : St) (k : Nat) : Int32 := sumN (fun i => if (gP σ i).2.1 = k then 1 else 0) 20
def owF (σ : St) (a : Int32) : Int32 := sumN (fun i => if (gP σ i).2.1 < 6 ∧ (gP σ i).2.2.1 = a then 1 else 0) 20
def cntF (σ : St) (a : Int32) (g : Nat) : Int32 := sumN (fun i => if (gP σ i).1 = g ∧ (gP σ i).2.2.1 = a then 1 else 0) 20
def honF (σ : St) (a : Nat) : Int32 := cntF σ (nI a) 4 - cntF σ (nI a) 5
def coldF (σ : St) : Nat → Nat
  | 0 => 0
  | k + 1 => if (gS σ (coldF σ k)).2 ≤ (gS σ (k + 1)).2 then coldF σ k else k + 1
theorem coldF_le (σ : St) (k : Nat) : coldF σ k ≤ k := by
  induction k with
  | zero => exact Nat.le_refl 0
  | succ k ih =>
    unfold coldF
    split
    · exact Nat.le_succ_of_le ih
    · exact Nat.le_refl _
def mostF (σ : St) : Nat → Nat
  | 0 => 0
  | k + 1 => if honF σ (k + 1) ≤ honF σ (mostF σ k) then mostF σ k else k + 1
theorem mostF_le (σ : St) (k : Nat) : mostF σ k ≤ k := by
  induction k with
  | zero => exact Nat.le_refl 0
  | succ k ih =>
    unfold mostF
    split
    · exact Nat.le_succ_of_le ih
    · exact Nat.le_refl _
def leftF (σ : St) (h : Nat) : Nat → Int32 := fun i => liesN (gX σ).2.2.2 (gS σ (gP σ i).2.1) (gP σ i) h
def bestF (σ : St) : Nat → Int32 × Int32
  | 0 => (-1, -1)
  | k + 1 => if sooner (freezeN (gX σ).2.2.2 (gS σ k)) (bestF σ k).2 = true then (nI k, freezeN (gX σ).2.2.2 (gS σ k)) else bestF σ k
def ocF (σ : St) : Nat → Int32
  | 0 => -1
  | k + 1 => if sooner (alarmN (gS σ (gP σ k).2.1) (gP σ k)) (ocF σ k) = true then alarmN (gS σ (gP σ k).2.1) (gP σ k) else ocF σ k
theorem ite01 {b : Bool} (h : (if b = true then (1 : Int32) else 0) = 0) : ¬ b = true := fun q => by rw [if_pos q] at h; exact absurd h (by decide)
theorem ite01n {b : Bool} (h : ¬ (if b = true then (1 : Int32) else 0) = 0) : b = true := by
  cases b
  · exact absurd rfl h
  · rfl
theorem liesN_01 (pw : Int32) (q : Sh) (x : Pr) (h : Nat) : liesN pw q x h = 0 ∨ liesN pw q x h = 1 := by unfold liesN; split <;> (try split) <;> first | exact Or.inl rfl | exact Or.inr rfl
theorem liesN_z (pw : Int32) (q : Sh) (x : Pr) (h : Nat) : narrow .boolean (.int (liesN pw q x h)) = .int (liesN pw q x h) := by rcases liesN_01 pw q x h with e | e <;> rw [e] <;> rfl
theorem Tr.leftF {σ σ' : St} (hok : okP σ) (t : Tr σ σ') (h : Nat) {i : Nat} (hi : i < 20) : liesN (gX σ').2.2.2 (gS σ' (gP σ' i).2.1) (gP σ' i) h = leftF σ h i := by
  show _ = liesN (gX σ).2.2.2 (gS σ (gP σ i).2.1) (gP σ i) h
  rw [t.X, t.P hi]
  by_cases hs : (gP σ i).2.1 < 5
  · rw [t.S hs]
  · have e := (hok i hi).2
    unfold liesN
    rw [if_neg (by omega), if_neg (by omega)]
theorem Tr.alarmN {σ σ' : St} (hok : okP σ) (t : Tr σ σ') {i : Nat} (hi : i < 20) : alarmN (gS σ' (gP σ' i).2.1) (gP σ' i) = alarmN (gS σ (gP σ i).2.1) (gP σ i) := by
  rw [t.P hi]
  by_cases hs : (gP σ i).2.1 < 5
  · rw [t.S hs]
  · have e := (hok i hi).2
    exact (if_neg (by omega)).trans (if_neg (by omega)).symm
set_option maxRecDepth 100000 in
set_option maxHeartbeats 4000000 in
theorem c_promisesOn (l : Launch) (G : Gt) (σ : St) {k9 : Nat} (hk : k9 < 5) : Ct l G yX3_promisesOn cX3_promisesOn 8 (some .int) 2 0 0 [.ref (gB G 0), .int (nI k9)] σ (Qi G (fun r σ' => r = onF σ k9 ∧ σ' = σ)) := by
  refine mt_intro (by decide +kernel) (Nat.le_of_ble_eq_true rfl) ?_
  intro p e s m below meth c S hr hlk hnm hI ls hl
  have hl : lv_has ls 8 [(0, .ref (gB G 0)), (1, .int (nI k9))] := hl
  have loop : ∀ (n : Nat) (k : Nat), k + n = 20 → ∀ (H : Heap) (locs : List Loc), Iv G σ s H locs → ∀ ls : Array Slot, lv_has ls 8 [(0, .ref (gB G 0)), (2, .ref (gB G (3 + k9))), (3, .int (sumN (fun i => if (gP σ i).2.1 = k9 then 1 else 0) k)), (4, .ref (gB G 2)), (5, .int (nI 20)), (6, .int (nI k))] → W p l e (rm 2 0 0) s m ([.ref (gB G 0), .int (nI k9)] : List Value).toArray below meth c H locs 0 0 (MQ below (Qi G (fun r σ' => r = onF σ k9 ∧ σ' = σ)) ([.ref (gB G 0), .int (nI k9)] : List Value).toArray s 0 0 (gA G)) (F0 m 22 ls []) := by
    intro n
    induction n with
    | zero =>
      intro k hk0 H locs hI ls hl
      obtain rfl : k = 20 := by omega
      refine lv_iload S.1 S.2.1 dX3_promisesOn_22 (lv_at hl 5 rfl) ?_
      refine lv_iload S.1 S.2.1 dX3_promisesOn_24 (lv_at hl 4 rfl) ?_
      refine lv_icmp_ge (tgt := 54) S.1 S.2.1 dX3_promisesOn_26 (by decide) (fun cz_26 => ?_) (fun c9 => absurd (nI_le (Nat.le_refl 20) (by omega)) c9)
      refine lv_iload_n S.1 S.2.1 dX3_promisesOn_54 rfl (lv_at hl 2 rfl) ?_
      exact xt_i S hI hr hlk (⟨rfl, rfl⟩) (by decide) (by decide) dX3_promisesOn_55
    | succ n ih =>
      intro k hk0 H locs hI ls hl
      have hk2 : k < 20 := by omega
      refine lv_iload S.1 S.2.1 dX3_promisesOn_22 (lv_at hl 5 rfl) ?_
      refine lv_iload S.1 S.2.1 dX3_promisesOn_24 (lv_at hl 4 rfl) ?_
      refine lv_icmp_ge (tgt := 54) S.1 S.2.1 dX3_promisesOn_26 (by decide) (fun c9 => absurd c9 (nI_ge hk2 (by omega))) (fun cz_26 => ?_)
      refine lv_aload S.1 S.2.1 dX3_promisesOn_29 (lv_at hl 3 rfl) ?_
      refine lv_iload S.1 S.2.1 dX3_promisesOn_31 (lv_at hl 5 rfl) ?_
      refine a_PA S hI (by omega) dX3_promisesOn_33 ?_
      refine lv_astore (lv' := [(7, .ref (gB G (9 + k))), (0, .ref (gB G 0)), (2, .ref (gB G (3 + k9))), (3, .int (sumN (fun i => if (gP σ i).2.1 = k9 then 1 else 0) k)), (4, .ref (gB G 2)), (5, .int (nI 20)), (6, .int (nI k))]) S.1 S.2.1 dX3_promisesOn_34 hl (by decide) rfl (fun ls hl => ?_)
      refine lv_aload S.1 S.2.1 dX3_promisesOn_36 (lv_at hl 0 rfl) ?_
      refine g_X3_P_shelf_r S hI (by omega) (pEta (gP σ k)) dX3_promisesOn_38 ?_
      refine lv_aload_n S.1 S.2.1 dX3_promisesOn_41 rfl (lv_at hl 2 rfl) ?_
      refine as_ne S hI (show k9 < 6 by omega) (tgt := 48) dX3_promisesOn_42 (by decide) (fun cz_42 => ?_) (fun cz_42 => ?_)
      · refine lv_iinc (v := (nI (k + 1))) (lv' := [(6, .int (nI (k + 1))), (7, .ref (gB G (9 + k))), (0, .ref (gB G 0)), (2, .ref (gB G (3 + k9))), (3, .int (sumN (fun i => if (gP σ i).2.1 = k9 then 1 else 0) k)), (4, .ref (gB G 2)), (5, .int (nI 20))]) S.1 S.2.1 dX3_promisesOn_48 hl (k := 6) rfl (nI_1 k) (by decide) rfl (fun ls hl => ?_)
        refine lv_goto (tgt := 22) S.1 S.2.1 dX3_promisesOn_51 (by decide) ?_
        exact ih (k + 1) (by omega) _ _ hI ls (by rw [show sumN (fun i => if (gP σ i).2.1 = k9 then 1 else 0) (k + 1) = (sumN (fun i => if (gP σ i).2.1 = k9 then 1 else 0) k) from by simp [sumN_s, cz_42]]; exact lv_sub hl [2, 3, 4, 5, 6, 0] rfl)
      · refine lv_iinc (v := ((sumN (fun i => if (gP σ i).2.1 = k9 then 1 else 0) k) + 1)) (lv' := [(3, .int ((sumN (fun i => if (gP σ i).2.1 = k9 then 1 else 0) k) + 1)), (7, .ref (gB G (9 + k))), (0, .ref (gB G 0)), (2, .ref (gB G (3 + k9))), (4, .ref (gB G 2)), (5, .int (nI 20)), (6, .int (nI k))]) S.1 S.2.1 dX3_promisesOn_45 hl (k := 3) rfl rfl (by decide) rfl (fun ls hl => ?_)
        refine lv_iinc (v := (nI (k + 1))) (lv' := [(6, .int (nI (k + 1))), (3, .int ((sumN (fun i => if (gP σ i).2.1 = k9 then 1 else 0) k) + 1)), (7, .ref (gB G (9 + k))), (0, .ref (gB G 0)), (2, .ref (gB G (3 + k9))), (4, .ref (gB G 2)), (5, .int (nI 20))]) S.1 S.2.1 dX3_promisesOn_48 hl (k := 6) rfl (nI_1 k) (by decide) rfl (fun ls hl => ?_)
        refine lv_goto (tgt := 22) S.1 S.2.1 dX3_promisesOn_51 (by decide) ?_
        exact ih (k + 1) (by omega) _ _ hI ls (by rw [show sumN (fun i => if (gP σ i).2.1 = k9 then 1 else 0) (k + 1) = ((sumN (fun i => if (gP σ i).2.1 = k9 then 1 else 0) k) + 1) from by simp [sumN_s, cz_42]]; exact lv_sub hl [3, 4, 1, 5, 6, 0] rfl)
  refine lv_aload_n S.1 S.2.1 dX3_promisesOn_0 rfl (lv_at hl 0 rfl) ?_
  refine lv_iload_n S.1 S.2.1 dX3_promisesOn_1 rfl (lv_at hl 1 rfl) ?_
  refine cl_q hI (rnV (As := [.int (nI k9)]) (rest := []) S hI (c_findShelf l G _ hk) (cw_X3_X3_findShelf S.2.2.2.2 ⟨Nat.le_of_ble_eq_true rfl, Nat.le_of_ble_eq_true rfl⟩) (rcX hI) rfl hl.1 (Nat.le_of_ble_eq_true rfl) dX3_promisesOn_2 ⟨Nat.le_of_ble_eq_true rfl, Nat.le_of_ble_eq_true rfl⟩) (fun r1 σ1 H locs hq1 hI => ?_)
  obtain ⟨hr1, hs1⟩ := hq1
  rw [hs1] at hI
  rw [hr1]
  show W _ _ _ _ _ _ _ _ _ _ _ _ _ _ _ (F0 _ _ _ (.ref (gB G (3 + k9)) :: _))
  refine lv_astore_n (lv' := [(2, .ref (gB G (3 + k9))), (0, .ref (gB G 0)), (1, .int (nI k9))]) S.1 S.2.1 dX3_promisesOn_5 rfl hl (by decide) rfl (fun ls hl => ?_)
  refine lv_iconst (v := 0) S.1 S.2.1 dX3_promisesOn_6 (by decide) ?_
  refine lv_istore_n (lv' := [(3, .int 0), (2, .ref (gB G (3 + k9))), (0, .ref (gB G 0)), (1, .int (nI k9))]) S.1 S.2.1 dX3_promisesOn_7 rfl hl (by decide) rfl (fun ls hl => ?_)
  refine lv_aload_n S.1 S.2.1 dX3_promisesOn_8 rfl (lv_at hl 2 rfl) ?_
  refine g_X3_X_promises S hI dX3_promisesOn_9 ?_
  refine lv_astore (lv' := [(4, .ref (gB G 2)), (3, .int 0), (2, .ref (gB G (3 + k9))), (0, .ref (gB G 0)), (1, .int (nI k9))]) S.1 S.2.1 dX3_promisesOn_12 hl (by decide) rfl (fun ls hl => ?_)
  refine lv_aload S.1 S.2.1 dX3_promisesOn_14 (lv_at hl 0 rfl) ?_
  refine n_PA S hI dX3_promisesOn_16 ?_
  refine lv_istore (lv' := [(5, .int (nI 20)), (4, .ref (gB G 2)), (3, .int 0), (2, .ref (gB G (3 + k9))), (0, .ref (gB G 0)), (1, .int (nI k9))]) S.1 S.2.1 dX3_promisesOn_17 hl (by decide) rfl (fun ls hl => ?_)
  refine lv_iconst (v := (nI 0)) S.1 S.2.1 dX3_promisesOn_19 (by rfl) ?_
  refine lv_istore (lv' := [(6, .int (nI 0)), (5, .int (nI 20)), (4, .ref (gB G 2)), (3, .int 0), (2, .ref (gB G (3 + k9))), (0, .ref (gB G 0)), (1, .int (nI k9))]) S.1 S.2.1 dX3_promisesOn_20 hl (by decide) rfl (fun ls hl => ?_)
  exact loop 20 0 rfl _ _ hI ls (lv_sub hl [5, 4, 3, 2, 1, 0] rfl)
set_option maxRecDepth 100000 in
set_option maxHeartbeats 4000000 in
theorem c_owedBy (l : Launch) (G : Gt) (σ : St) {a : Nat} (ha : a < 6) : Ct l G yX3_owedBy cX3_owedBy 7 (some .int) 2 0 0 [.ref (gB G 0), .int (nI a)] σ (Qi G (fun r σ' => r = owF σ (nI a) ∧ σ' = σ)) := by
  refine mt_intro (by decide +kernel) (Nat.le_of_ble_eq_true rfl) ?_
  intro p e s m below meth c S hr hlk hnm hI ls hl
  have hl : lv_has ls 7 [(0, .ref (gB G 0)), (1, .int (nI a))] := hl
  have loop : ∀ (n : Nat) (k : Nat), k + n = 20 → ∀ (H : Heap) (locs : List Loc), Iv G σ s H locs → ∀ ls : Array Slot, lv_has ls 7 [(0, .ref (gB G 0)), (1, .int (nI a)), (2, .int (sumN (fun i => if (gP σ i).2.1 < 6 ∧ (gP σ i).2.2.1 = nI a then 1 else 0) k)), (3, .ref (gB G 2)), (4, .int (nI 20)), (5, .int (nI k))] → W p l e (rm 2 0 0) s m ([.ref (gB G 0), .int (nI a)] : List Value).toArray below meth c H locs 0 0 (MQ below (Qi G (fun r σ' => r = owF σ (nI a) ∧ σ' = σ)) ([.ref (gB G 0), .int (nI a)] : List Value).toArray s 0 0 (gA G)) (F0 m 18 ls []) := by
    intro n
    induction n with
    | zero =>
      intro k hk0 H locs hI ls hl
      obtain rfl : k = 20 := by omega
      refine lv_iload S.1 S.2.1 dX3_owedBy_18 (lv_at hl 5 rfl) ?_
      refine lv_iload S.1 S.2.1 dX3_owedBy_20 (lv_at hl 4 rfl) ?_
      refine lv_icmp_ge (tgt := 57) S.1 S.2.1 dX3_owedBy_22 (by decide) (fun cz_22 => ?_) (fun c9 => absurd (nI_le (Nat.le_refl 20) (by omega)) c9)
      refine lv_iload_n S.1 S.2.1 dX3_owedBy_57 rfl (lv_at hl 2 rfl) ?_
      exact xt_i S hI hr hlk (⟨rfl, rfl⟩) (by decide) (by decide) dX3_owedBy_58
    | succ n ih =>
      intro k hk0 H locs hI ls hl
      have hk2 : k < 20 := by omega
      refine lv_iload S.1 S.2.1 dX3_owedBy_18 (lv_at hl 5 rfl) ?_
      refine lv_iload S.1 S.2.1 dX3_owedBy_20 (lv_at hl 4 rfl) ?_
      refine lv_icmp_ge (tgt := 57) S.1 S.2.1 dX3_owedBy_22 (by decide) (fun c9 => absurd c9 (nI_ge hk2 (by omega))) (fun cz_22 => ?_)
      refine lv_aload_n S.1 S.2.1 dX3_owedBy_25 rfl (lv_at hl 3 rfl) ?_
      refine lv_iload S.1 S.2.1 dX3_owedBy_26 (lv_at hl 5 rfl) ?_
      refine a_PA S hI hk2 dX3_owedBy_28 ?_
      refine lv_astore (lv' := [(6, .ref (gB G (9 + k))), (0, .ref (gB G 0)), (1, .int (nI a)), (2, .int (sumN (fun i => if (gP σ i).2.1 < 6 ∧ (gP σ i).2.2.1 = nI a then 1 else 0) k)), (3, .ref (gB G 2)), (4, .int (nI 20)), (5, .int (nI k))]) S.1 S.2.1 dX3_owedBy_29 hl (by decide) rfl (fun ls hl => ?_)
      refine lv_aload S.1 S.2.1 dX3_owedBy_31 (lv_at hl 0 rfl) ?_
      refine g_X3_P_shelf_r S hI (by omega) (pEta (gP σ k)) dX3_owedBy_33 ?_
      refine nn_no S (tgt := 51) dX3_owedBy_36 (by decide) (fun cz_36 => ?_) (fun cz_36 => ?_)
      · refine lv_iinc (v := (nI (k + 1))) (lv' := [(5, .int (nI (k + 1))), (6, .ref (gB G (9 + k))), (0, .ref (gB G 0)), (1, .int (nI a)), (2, .int (sumN (fun i => if (gP σ i).2.1 < 6 ∧ (gP σ i).2.2.1 = nI a then 1 else 0) k)), (3, .ref (gB G 2)), (4, .int (nI 20))]) S.1 S.2.1 dX3_owedBy_51 hl (k := 6) rfl (nI_1 k) (by decide) rfl (fun ls hl => ?_)
        refine lv_goto (tgt := 18) S.1 S.2.1 dX3_owedBy_54 (by decide) ?_
        exact ih (k + 1) (by omega) _ _ hI ls (by rw [show sumN (fun i => if (gP σ i).2.1 < 6 ∧ (gP σ i).2.2.1 = nI a then 1 else 0) (k + 1) = (sumN (fun i => if (gP σ i).2.1 < 6 ∧ (gP σ i).2.2.1 = nI a then 1 else 0) k) from by simp [sumN_s, cz_36]]; exact lv_sub hl [2, 3, 4, 5, 6, 0] rfl)
      · refine lv_aload S.1 S.2.1 dX3_owedBy_39 (lv_at hl 0 rfl) ?_
        refine g_X3_P_maker S hI (by omega) (pEta (gP σ k)) dX3_owedBy_41 ?_
        refine lv_iload_n S.1 S.2.1 dX3_owedBy_44 rfl (lv_at hl 2 rfl) ?_
        refine lv_icmp_ne (tgt := 51) S.1 S.2.1 dX3_owedBy_45 (by decide) (fun cz_45 => ?_) (fun cz_45 => ?_)
        · refine lv_iinc (v := (nI (k + 1))) (lv' := [(5, .int (nI (k + 1))), (6, .ref (gB G (9 + k))), (0, .ref (gB G 0)), (1, .int (nI a)), (2, .int (sumN (fun i => if (gP σ i).2.1 < 6 ∧ (gP σ i).2.2.1 = nI a then 1 else 0) k)), (3, .ref (gB G 2)), (4, .int (nI 20))]) S.1 S.2.1 dX3_owedBy_51 hl (k := 6) rfl (nI_1 k) (by decide) rfl (fun ls hl => ?_)
          refine lv_goto (tgt := 18) S.1 S.2.1 dX3_owedBy_54 (by decide) ?_
          exact ih (k + 1) (by omega) _ _ hI ls (by rw [show sumN (fun i => if (gP σ i).2.1 < 6 ∧ (gP σ i).2.2.1 = nI a then 1 else 0) (k + 1) = (sumN (fun i => if (gP σ i).2.1 < 6 ∧ (gP σ i).2.2.1 = nI a then 1 else 0) k) from by simp [sumN_s, cz_36, cz_45]]; exact lv_sub hl [2, 3, 4, 5, 6, 0] rfl)
        · refine lv_iinc (v := ((sumN (fun i => if (gP σ i).2.1 < 6 ∧ (gP σ i).2.2.1 = nI a then 1 else 0) k) + 1)) (lv' := [(2, .int ((sumN (fun i => if (gP σ i).2.1 < 6 ∧ (gP σ i).2.2.1 = nI a then 1 else 0) k) + 1)), (6, .ref (gB G (9 + k))), (0, .ref (gB G 0)), (1, .int (nI a)), (3, .ref (gB G 2)), (4, .int (nI 20)), (5, .int (nI k))]) S.1 S.2.1 dX3_owedBy_48 hl (k := 3) rfl rfl (by decide) rfl (fun ls hl => ?_)
          refine lv_iinc (v := (nI (k + 1))) (lv' := [(5, .int (nI (k + 1))), (2, .int ((sumN (fun i => if (gP σ i).2.1 < 6 ∧ (gP σ i).2.2.1 = nI a then 1 else 0) k) + 1)), (6, .ref (gB G (9 + k))), (0, .ref (gB G 0)), (1, .int (nI a)), (3, .ref (gB G 2)), (4, .int (nI 20))]) S.1 S.2.1 dX3_owedBy_51 hl (k := 6) rfl (nI_1 k) (by decide) rfl (fun ls hl => ?_)
          refine lv_goto (tgt := 18) S.1 S.2.1 dX3_owedBy_54 (by decide) ?_
          exact ih (k + 1) (by omega) _ _ hI ls (by rw [show sumN (fun i => if (gP σ i).2.1 < 6 ∧ (gP σ i).2.2.1 = nI a then 1 else 0) (k + 1) = ((sumN (fun i => if (gP σ i).2.1 < 6 ∧ (gP σ i).2.2.1 = nI a then 1 else 0) k) + 1) from by simp [sumN_s, cz_36, cz_45]]; exact lv_sub hl [3, 4, 1, 5, 6, 0] rfl)
  refine lv_iload_n S.1 S.2.1 dX3_owedBy_0 rfl (lv_at hl 1 rfl) ?_
  refine cl_v hI (rnS (As := [.int (nI a)]) (rest := []) S hI (c_checkMaker l G _ ha) (cw_X3_X3_checkMaker S.2.2.2.2 ⟨Nat.le_of_ble_eq_true rfl, Nat.le_of_ble_eq_true rfl⟩) rfl hl.1 (Nat.le_of_ble_eq_true rfl) dX3_owedBy_1 ⟨Nat.le_of_ble_eq_true rfl, Nat.le_of_ble_eq_true rfl⟩) (fun σ1 H locs hq1 hI => ?_)
  rw [hq1] at hI
  refine lv_iconst (v := 0) S.1 S.2.1 dX3_owedBy_4 (by decide) ?_
  refine lv_istore_n (lv' := [(2, .int 0), (0, .ref (gB G 0)), (1, .int (nI a))]) S.1 S.2.1 dX3_owedBy_5 rfl hl (by decide) rfl (fun ls hl => ?_)
  refine lv_aload_n S.1 S.2.1 dX3_owedBy_6 rfl (lv_at hl 1 rfl) ?_
  refine g_X3_X_promises S hI dX3_owedBy_7 ?_
  refine lv_astore_n (lv' := [(3, .ref (gB G 2)), (2, .int 0), (0, .ref (gB G 0)), (1, .int (nI a))]) S.1 S.2.1 dX3_owedBy_10 rfl hl (by decide) rfl (fun ls hl => ?_)
  refine lv_aload_n S.1 S.2.1 dX3_owedBy_11 rfl (lv_at hl 0 rfl) ?_
  refine n_PA S hI dX3_owedBy_12 ?_
  refine lv_istore (lv' := [(4, .int (nI 20)), (3, .ref (gB G 2)), (2, .int 0), (0, .ref (gB G 0)), (1, .int (nI a))]) S.1 S.2.1 dX3_owedBy_13 hl (by decide) rfl (fun ls hl => ?_)
  refine lv_iconst (v := (nI 0)) S.1 S.2.1 dX3_owedBy_15 (by rfl) ?_
  refine lv_istore (lv' := [(5, .int (nI 0)), (4, .int (nI 20)), (3, .ref (gB G 2)), (2, .int 0), (0, .ref (gB G 0)), (1, .int (nI a))]) S.1 S.2.1 dX3_owedBy_16 hl (by decide) rfl (fun ls hl => ?_)
  exact loop 20 0 rfl _ _ hI ls (lv_sub hl [4, 5, 3, 2, 1, 0] rfl)
set_option maxRecDepth 100000 in
set_option maxHeartbeats 4000000 in
theorem c_honourOf (l : Launch) (G : Gt) (σ : St) (hok : okP σ) {a : Nat} (ha : a < 6) : Ct l G yX3_honourOf cX3_honourOf 2 (some .int) 2 0 0 [.ref (gB G 0), .int (nI a)] σ (Qi G (fun r σ' => r = honF σ a ∧ σ' = σ)) := by
  refine mt_intro (by decide +kernel) (Nat.le_of_ble_eq_true rfl) ?_
  intro p e s m below meth c S hr hlk hnm hI ls hl
  have hl : lv_has ls 2 [(0, .ref (gB G 0)), (1, .int (nI a))] := hl
  refine lv_iload_n S.1 S.2.1 dX3_honourOf_0 rfl (lv_at hl 1 rfl) ?_
  refine cl_v hI (rnS (As := [.int (nI a)]) (rest := []) S hI (c_checkMaker l G _ ha) (cw_X3_X3_checkMaker S.2.2.2.2 ⟨Nat.le_of_ble_eq_true rfl, Nat.le_of_ble_eq_true rfl⟩) rfl hl.1 (Nat.le_of_ble_eq_true rfl) dX3_honourOf_1 ⟨Nat.le_of_ble_eq_true rfl, Nat.le_of_ble_eq_true rfl⟩) (fun σ1 H locs hq1 hI => ?_)
  rw [hq1] at hI
  refine lv_aload_n S.1 S.2.1 dX3_honourOf_4 rfl (lv_at hl 0 rfl) ?_
  refine lv_iload_n S.1 S.2.1 dX3_honourOf_5 rfl (lv_at hl 1 rfl) ?_
  refine gs_X3_KEPT S hI dX3_honourOf_6 ?_
  refine cl_i hI (rnV (As := [.int (nI a), .ref (gE G 4)]) (rest := []) S hI (c_countOf l G _ hok (nI a) (g := 4) (by decide)) (cw_X3_X3_countOf S.2.2.2.2 ⟨Nat.le_of_ble_eq_true rfl, Nat.le_of_ble_eq_true rfl⟩) (rcX hI) rfl hl.1 (Nat.le_of_ble_eq_true rfl) dX3_honourOf_9 ⟨Nat.le_of_ble_eq_true rfl, Nat.le_of_ble_eq_true rfl⟩) (fun r2 σ2 H locs hq2 hI => ?_)
  obtain ⟨hr2, hs2⟩ := hq2
  rw [hs2] at hI
  rw [hr2]
  refine lv_aload_n S.1 S.2.1 dX3_honourOf_12 rfl (lv_at hl 0 rfl) ?_
  refine lv_iload_n S.1 S.2.1 dX3_honourOf_13 rfl (lv_at hl 1 rfl) ?_
  refine gs_X3_EXPIRED S hI dX3_honourOf_14 ?_
  refine cl_i hI (rnV (As := [.int (nI a), .ref (gE G 5)]) (rest := [.int (cntF σ (nI a) 4)]) S hI (c_countOf l G _ hok (nI a) (g := 5) (by decide)) (cw_X3_X3_countOf S.2.2.2.2 ⟨Nat.le_of_ble_eq_true rfl, Nat.le_of_ble_eq_true rfl⟩) (rcX hI) rfl hl.1 (Nat.le_of_ble_eq_true rfl) dX3_honourOf_17 ⟨Nat.le_of_ble_eq_true rfl, Nat.le_of_ble_eq_true rfl⟩) (fun r3 σ3 H locs hq3 hI => ?_)
  obtain ⟨hr3, hs3⟩ := hq3
  rw [hs3] at hI
  rw [hr3]
  refine lv_isub S.1 S.2.1 dX3_honourOf_20 ?_
  exact xt_i S hI hr hlk (⟨rfl, rfl⟩) (by decide) (by decide) dX3_honourOf_21
set_option maxRecDepth 100000 in
set_option maxHeartbeats 4000000 in
theorem c_coldest (l : Launch) (G : Gt) (σ : St)  : Ct l G yX3_coldest cX3_coldest 3 (some .int) 1 0 0 [.ref (gB G 0)] σ (Qi G (fun r σ' => r = nI (coldF σ 4) ∧ σ' = σ)) := by
  refine mt_intro (by decide +kernel) (Nat.le_of_ble_eq_true rfl) ?_
  intro p e s m below meth c S hr hlk hnm hI ls hl
  have hl : lv_has ls 3 [(0, .ref (gB G 0))] := hl
  have loop : ∀ (n : Nat) (k : Nat), k + n = 4 → ∀ (H : Heap) (locs : List Loc), Iv G σ s H locs → ∀ ls : Array Slot, lv_has ls 3 [(0, .ref (gB G 0)), (1, .int (nI (coldF σ k))), (2, .int (nI (k + 1)))] → W p l e (rm 1 0 0) s m ([.ref (gB G 0)] : List Value).toArray below meth c H locs 0 0 (MQ below (Qi G (fun r σ' => r = nI (coldF σ 4) ∧ σ' = σ)) ([.ref (gB G 0)] : List Value).toArray s 0 0 (gA G)) (F0 m 4 ls []) := by
    intro n
    induction n with
    | zero =>
      intro k hk0 H locs hI ls hl
      obtain rfl : k = 4 := by omega
      refine lv_iload_n S.1 S.2.1 dX3_coldest_4 rfl (lv_at hl 2 rfl) ?_
      refine lv_iconst (v := 5) S.1 S.2.1 dX3_coldest_5 (by decide) ?_
      refine lv_icmp_ge (tgt := 38) S.1 S.2.1 dX3_coldest_6 (by decide) (fun cz_6 => ?_) (fun c9 => absurd (nI_le (a := 5) (b := 5) (Nat.le_refl 5) (by omega)) c9)
      refine lv_iload_n S.1 S.2.1 dX3_coldest_38 rfl (lv_at hl 1 rfl) ?_
      exact xt_i S hI hr hlk (⟨rfl, rfl⟩) (by decide) (by decide) dX3_coldest_39
    | succ n ih =>
      intro k hk0 H locs hI ls hl
      have hc := coldF_le σ k
      refine lv_iload_n S.1 S.2.1 dX3_coldest_4 rfl (lv_at hl 2 rfl) ?_
      refine lv_iconst (v := 5) S.1 S.2.1 dX3_coldest_5 (by decide) ?_
      refine lv_icmp_ge (tgt := 38) S.1 S.2.1 dX3_coldest_6 (by decide) (fun c9 => absurd c9 (nI_ge (b := 5) (by omega) (by omega))) (fun cz_6 => ?_)
      refine lv_aload_n S.1 S.2.1 dX3_coldest_9 rfl (lv_at hl 0 rfl) ?_
      refine g_X3_X_shelves S hI dX3_coldest_10 ?_
      refine lv_iload_n S.1 S.2.1 dX3_coldest_13 rfl (lv_at hl 2 rfl) ?_
      refine a_SA S hI (by omega) dX3_coldest_14 ?_
      refine g_X3_S_heat S hI (by omega) (sEta (gS σ (k + 1))) dX3_coldest_15 ?_
      refine lv_aload_n S.1 S.2.1 dX3_coldest_18 rfl (lv_at hl 0 rfl) ?_
      refine g_X3_X_shelves S hI dX3_coldest_19 ?_
      refine lv_iload_n S.1 S.2.1 dX3_coldest_22 rfl (lv_at hl 1 rfl) ?_
      refine a_SA S hI (by omega) dX3_coldest_23 ?_
      refine g_X3_S_heat S hI (by omega) (sEta (gS σ (coldF σ k))) dX3_coldest_24 ?_
      refine lv_icmp_ge (tgt := 32) S.1 S.2.1 dX3_coldest_27 (by decide) (fun cz_27 => ?_) (fun cz_27 => ?_)
      · refine lv_iinc (v := (nI (k + 1 + 1))) (lv' := [(2, .int (nI (k + 1 + 1))), (0, .ref (gB G 0)), (1, .int (nI (coldF σ k)))]) S.1 S.2.1 dX3_coldest_32 hl (k := 2) rfl (nI_1 (k + 1)) (by decide) rfl (fun ls hl => ?_)
        refine lv_goto (tgt := 4) S.1 S.2.1 dX3_coldest_35 (by decide) ?_
        exact ih (k + 1) (by omega) _ _ hI ls (by rw [show coldF σ (k + 1) = coldF σ k from if_pos cz_27]; exact lv_sub hl [1, 2, 0] rfl)
      · refine lv_iload_n S.1 S.2.1 dX3_coldest_30 rfl (lv_at hl 2 rfl) ?_
        refine lv_istore_n (lv' := [(1, .int (nI (k + 1))), (0, .ref (gB G 0)), (2, .int (nI (k + 1)))]) S.1 S.2.1 dX3_coldest_31 rfl hl (by decide) rfl (fun ls hl => ?_)
        refine lv_iinc (v := (nI (k + 1 + 1))) (lv' := [(2, .int (nI (k + 1 + 1))), (1, .int (nI (k + 1))), (0, .ref (gB G 0))]) S.1 S.2.1 dX3_coldest_32 hl (k := 2) rfl (nI_1 (k + 1)) (by decide) rfl (fun ls hl => ?_)
        refine lv_goto (tgt := 4) S.1 S.2.1 dX3_coldest_35 (by decide) ?_
        exact ih (k + 1) (by omega) _ _ hI ls (by rw [show coldF σ (k + 1) = k + 1 from if_neg cz_27]; exact lv_sub hl [2, 1, 0] rfl)
  refine lv_iconst (v := (nI (coldF σ 0))) S.1 S.2.1 dX3_coldest_0 (by rfl) ?_
  refine lv_istore_n (lv' := [(1, .int (nI (coldF σ 0))), (0, .ref (gB G 0))]) S.1 S.2.1 dX3_coldest_1 rfl hl (by decide) rfl (fun ls hl => ?_)
  refine lv_iconst (v := (nI (0 + 1))) S.1 S.2.1 dX3_coldest_2 (by rfl) ?_
  refine lv_istore_n (lv' := [(2, .int (nI (0 + 1))), (1, .int (nI (coldF σ 0))), (0, .ref (gB G 0))]) S.1 S.2.1 dX3_coldest_3 rfl hl (by decide) rfl (fun ls hl => ?_)
  exact loop 4 0 rfl _ _ hI ls (lv_sub hl [2, 1, 0] rfl)
set_option maxRecDepth 100000 in
set_option maxHeartbeats 4000000 in
theorem c_mostHonourable (l : Launch) (G : Gt) (σ : St) (hok : okP σ) : Ct l G yX3_mostHonourable cX3_mostHonourable 3 (some .int) 3 0 0 [.ref (gB G 0)] σ (Qi G (fun r σ' => r = nI (mostF σ 5) ∧ σ' = σ)) := by
  refine mt_intro (by decide +kernel) (Nat.le_of_ble_eq_true rfl) ?_
  intro p e s m below meth c S hr hlk hnm hI ls hl
  have hl : lv_has ls 3 [(0, .ref (gB G 0))] := hl
  have loop : ∀ (n : Nat) (k : Nat), k + n = 5 → ∀ (H : Heap) (locs : List Loc), Iv G σ s H locs → ∀ ls : Array Slot, lv_has ls 3 [(0, .ref (gB G 0)), (1, .int (nI (mostF σ k))), (2, .int (nI (k + 1)))] → W p l e (rm 3 0 0) s m ([.ref (gB G 0)] : List Value).toArray below meth c H locs 0 0 (MQ below (Qi G (fun r σ' => r = nI (mostF σ 5) ∧ σ' = σ)) ([.ref (gB G 0)] : List Value).toArray s 0 0 (gA G)) (F0 m 4 ls []) := by
    intro n
    induction n with
    | zero =>
      intro k hk0 H locs hI ls hl
      obtain rfl : k = 5 := by omega
      refine lv_iload_n S.1 S.2.1 dX3_mostHonourable_4 rfl (lv_at hl 2 rfl) ?_
      refine lv_bipush (v := 6) S.1 S.2.1 dX3_mostHonourable_5 (by decide) ?_
      refine lv_icmp_ge (tgt := 31) S.1 S.2.1 dX3_mostHonourable_7 (by decide) (fun cz_7 => ?_) (fun c9 => absurd (nI_le (a := 6) (b := 6) (Nat.le_refl 6) (by omega)) c9)
      refine lv_iload_n S.1 S.2.1 dX3_mostHonourable_31 rfl (lv_at hl 1 rfl) ?_
      exact xt_i S hI hr hlk (⟨rfl, rfl⟩) (by decide) (by decide) dX3_mostHonourable_32
    | succ n ih =>
      intro k hk0 H locs hI ls hl
      have hc := mostF_le σ k
      refine lv_iload_n S.1 S.2.1 dX3_mostHonourable_4 rfl (lv_at hl 2 rfl) ?_
      refine lv_bipush (v := 6) S.1 S.2.1 dX3_mostHonourable_5 (by decide) ?_
      refine lv_icmp_ge (tgt := 31) S.1 S.2.1 dX3_mostHonourable_7 (by decide) (fun c9 => absurd c9 (nI_ge (b := 6) (by omega) (by omega))) (fun cz_7 => ?_)
      refine lv_aload_n S.1 S.2.1 dX3_mostHonourable_10 rfl (lv_at hl 0 rfl) ?_
      refine lv_iload_n S.1 S.2.1 dX3_mostHonourable_11 rfl (lv_at hl 2 rfl) ?_
      refine cl_i hI (rnV (As := [.int (nI (k + 1))]) (rest := []) S hI (c_honourOf l G _ hok (a := k + 1) (by omega)) (cw_X3_X3_honourOf S.2.2.2.2 ⟨Nat.le_of_ble_eq_true rfl, Nat.le_of_ble_eq_true rfl⟩) (rcX hI) rfl hl.1 (Nat.le_of_ble_eq_true rfl) dX3_mostHonourable_12 ⟨Nat.le_of_ble_eq_true rfl, Nat.le_of_ble_eq_true rfl⟩) (fun r1 σ1 H locs hq1 hI => ?_)
      obtain ⟨hr1, hs1⟩ := hq1
      rw [hs1] at hI
      rw [hr1]
      refine lv_aload_n S.1 S.2.1 dX3_mostHonourable_15 rfl (lv_at hl 0 rfl) ?_
      refine lv_iload_n S.1 S.2.1 dX3_mostHonourable_16 rfl (lv_at hl 1 rfl) ?_
      refine cl_i hI (rnV (As := [.int (nI (mostF σ k))]) (rest := [.int (honF σ (k + 1))]) S hI (c_honourOf l G _ hok (a := mostF σ k) (by omega)) (cw_X3_X3_honourOf S.2.2.2.2 ⟨Nat.le_of_ble_eq_true rfl, Nat.le_of_ble_eq_true rfl⟩) (rcX hI) rfl hl.1 (Nat.le_of_ble_eq_true rfl) dX3_mostHonourable_17 ⟨Nat.le_of_ble_eq_true rfl, Nat.le_of_ble_eq_true rfl⟩) (fun r2 σ2 H locs hq2 hI => ?_)
      obtain ⟨hr2, hs2⟩ := hq2
      rw [hs2] at hI
      rw [hr2]
      refine lv_icmp_le (tgt := 25) S.1 S.2.1 dX3_mostHonourable_20 (by decide) (fun cz_20 => ?_) (fun cz_20 => ?_)
      · refine lv_iinc (v := (nI (k + 1 + 1))) (lv' := [(2, .int (nI (k + 1 + 1))), (0, .ref (gB G 0)), (1, .int (nI (mostF σ k)))]) S.1 S.2.1 dX3_mostHonourable_25 hl (k := 2) rfl (nI_1 (k + 1)) (by decide) rfl (fun ls hl => ?_)
        refine lv_goto (tgt := 4) S.1 S.2.1 dX3_mostHonourable_28 (by decide) ?_
        exact ih (k + 1) (by omega) _ _ hI ls (by rw [show mostF σ (k + 1) = mostF σ k from if_pos cz_20]; exact lv_sub hl [1, 2, 0] rfl)
      · refine lv_iload_n S.1 S.2.1 dX3_mostHonourable_23 rfl (lv_at hl 2 rfl) ?_
        refine lv_istore_n (lv' := [(1, .int (nI (k + 1))), (0, .ref (gB G 0)), (2, .int (nI (k + 1)))]) S.1 S.2.1 dX3_mostHonourable_24 rfl hl (by decide) rfl (fun ls hl => ?_)
        refine lv_iinc (v := (nI (k + 1 + 1))) (lv' := [(2, .int (nI (k + 1 + 1))), (1, .int (nI (k + 1))), (0, .ref (gB G 0))]) S.1 S.2.1 dX3_mostHonourable_25 hl (k := 2) rfl (nI_1 (k + 1)) (by decide) rfl (fun ls hl => ?_)
        refine lv_goto (tgt := 4) S.1 S.2.1 dX3_mostHonourable_28 (by decide) ?_
        exact ih (k + 1) (by omega) _ _ hI ls (by rw [show mostF σ (k + 1) = k + 1 from if_neg cz_20]; exact lv_sub hl [2, 1, 0] rfl)
  refine lv_iconst (v := (nI (mostF σ 0))) S.1 S.2.1 dX3_mostHonourable_0 (by rfl) ?_
  refine lv_istore_n (lv' := [(1, .int (nI (mostF σ 0))), (0, .ref (gB G 0))]) S.1 S.2.1 dX3_mostHonourable_1 rfl hl (by decide) rfl (fun ls hl => ?_)
  refine lv_iconst (v := (nI (0 + 1))) S.1 S.2.1 dX3_mostHonourable_2 (by rfl) ?_
  refine lv_istore_n (lv' := [(2, .int (nI (0 + 1))), (1, .int (nI (mostF σ 0))), (0, .ref (gB G 0))]) S.1 S.2.1 dX3_mostHonourable_3 rfl hl (by decide) rfl (fun ls hl => ?_)
  exact loop 5 0 rfl _ _ hI ls (lv_sub hl [2, 1, 0] rfl)
set_option maxRecDepth 100000 in
set_option maxHeartbeats 4000000 in
theorem c_hoursUntilFrozen (l : Launch) (G : Gt) (σ : St) (hok : okP σ) {i n : Nat} (hi : i < n) (hn : n ≤ 20) {ar hh pw : Int32} (hX : gX σ = (nI n, ar, hh, pw)) : Ct l G yX3_hoursUntilFrozen cX3_hoursUntilFrozen 2 (some .int) 6 0 0 [.ref (gB G 0), .int (nI i)] σ (Qi G (fun r σ' => r = hUntil pw (gS σ (gP σ i).2.1) (gP σ i) 2 ∧ Tr σ σ')) := by
  refine mt_intro (by decide +kernel) (Nat.le_of_ble_eq_true rfl) ?_
  intro p e s m below meth c S hr hlk hnm hI ls hl
  have hl : lv_has ls 2 [(0, .ref (gB G 0)), (1, .int (nI i))] := hl
  refine lv_aload_n S.1 S.2.1 dX3_hoursUntilFrozen_0 rfl (lv_at hl 0 rfl) ?_
  refine lv_aload_n S.1 S.2.1 dX3_hoursUntilFrozen_1 rfl (lv_at hl 0 rfl) ?_
  refine lv_iload_n S.1 S.2.1 dX3_hoursUntilFrozen_2 rfl (lv_at hl 1 rfl) ?_
  refine cl_q hI (rnV (As := [.int (nI i)]) (rest := [.ref (gB G 0)]) S hI (c_findPromise l G _ hi hn hX) (cw_X3_X3_findPromise S.2.2.2.2 ⟨Nat.le_of_ble_eq_true rfl, Nat.le_of_ble_eq_true rfl⟩) (rcX hI) rfl hl.1 (Nat.le_of_ble_eq_true rfl) dX3_hoursUntilFrozen_3 ⟨Nat.le_of_ble_eq_true rfl, Nat.le_of_ble_eq_true rfl⟩) (fun r1 σ1 H locs hq1 hI => ?_)
  obtain ⟨hr1, hs1⟩ := hq1
  rw [hs1] at hI
  rw [hr1]
  show W _ _ _ _ _ _ _ _ _ _ _ _ _ _ _ (F0 _ _ _ (.ref (gB G (9 + i)) :: _))
  refine gs_X3_FROZEN S hI dX3_hoursUntilFrozen_6 ?_
  refine cl_i hI (rnV (As := [.ref (gB G (9 + i)), .ref (gE G 2)]) (rest := []) S hI (c_hoursUntil l G _ hok hX (i := i) (by omega) (g := 2) (by decide)) (cw_X3_X3_hoursUntil S.2.2.2.2 ⟨Nat.le_of_ble_eq_true rfl, Nat.le_of_ble_eq_true rfl⟩) (rcX hI) rfl hl.1 (Nat.le_of_ble_eq_true rfl) dX3_hoursUntilFrozen_9 ⟨Nat.le_of_ble_eq_true rfl, Nat.le_of_ble_eq_true rfl⟩) (fun r2 σ2 H locs hq2 hI => ?_)
  obtain ⟨hr2, hs2⟩ := hq2
  exact xt_i S hI hr hlk (⟨hr2, hs2⟩) (by decide) (by decide) dX3_hoursUntilFrozen_12
set_option maxRecDepth 100000 in
set_option maxHeartbeats 4000000 in
theorem c_hoursUntilThawed (l : Launch) (G : Gt) (σ : St) (hok : okP σ) {i n : Nat} (hi : i < n) (hn : n ≤ 20) {ar hh pw : Int32} (hX : gX σ = (nI n, ar, hh, pw)) : Ct l G yX3_hoursUntilThawed cX3_hoursUntilThawed 2 (some .int) 6 0 0 [.ref (gB G 0), .int (nI i)] σ (Qi G (fun r σ' => r = hUntil pw (gS σ (gP σ i).2.1) (gP σ i) 3 ∧ Tr σ σ')) := by
  refine mt_intro (by decide +kernel) (Nat.le_of_ble_eq_true rfl) ?_
  intro p e s m below meth c S hr hlk hnm hI ls hl
  have hl : lv_has ls 2 [(0, .ref (gB G 0)), (1, .int (nI i))] := hl
  refine lv_aload_n S.1 S.2.1 dX3_hoursUntilThawed_0 rfl (lv_at hl 0 rfl) ?_
  refine lv_aload_n S.1 S.2.1 dX3_hoursUntilThawed_1 rfl (lv_at hl 0 rfl) ?_
  refine lv_iload_n S.1 S.2.1 dX3_hoursUntilThawed_2 rfl (lv_at hl 1 rfl) ?_
  refine cl_q hI (rnV (As := [.int (nI i)]) (rest := [.ref (gB G 0)]) S hI (c_findPromise l G _ hi hn hX) (cw_X3_X3_findPromise S.2.2.2.2 ⟨Nat.le_of_ble_eq_true rfl, Nat.le_of_ble_eq_true rfl⟩) (rcX hI) rfl hl.1 (Nat.le_of_ble_eq_true rfl) dX3_hoursUntilThawed_3 ⟨Nat.le_of_ble_eq_true rfl, Nat.le_of_ble_eq_true rfl⟩) (fun r1 σ1 H locs hq1 hI => ?_)
  obtain ⟨hr1, hs1⟩ := hq1
  rw [hs1] at hI
  rw [hr1]
  show W _ _ _ _ _ _ _ _ _ _ _ _ _ _ _ (F0 _ _ _ (.ref (gB G (9 + i)) :: _))
  refine gs_X3_THAWED S hI dX3_hoursUntilThawed_6 ?_
  refine cl_i hI (rnV (As := [.ref (gB G (9 + i)), .ref (gE G 3)]) (rest := []) S hI (c_hoursUntil l G _ hok hX (i := i) (by omega) (g := 3) (by decide)) (cw_X3_X3_hoursUntil S.2.2.2.2 ⟨Nat.le_of_ble_eq_true rfl, Nat.le_of_ble_eq_true rfl⟩) (rcX hI) rfl hl.1 (Nat.le_of_ble_eq_true rfl) dX3_hoursUntilThawed_9 ⟨Nat.le_of_ble_eq_true rfl, Nat.le_of_ble_eq_true rfl⟩) (fun r2 σ2 H locs hq2 hI => ?_)
  obtain ⟨hr2, hs2⟩ := hq2
  exact xt_i S hI hr hlk (⟨hr2, hs2⟩) (by decide) (by decide) dX3_hoursUntilThawed_12
set_option maxRecDepth 100000 in
set_option maxHeartbeats 4000000 in
theorem c_hoursUntilExpired (l : Launch) (G : Gt) (σ : St) (hok : okP σ) {i n : Nat} (hi : i < n) (hn : n ≤ 20) {ar hh pw : Int32} (hX : gX σ = (nI n, ar, hh, pw)) : Ct l G yX3_hoursUntilExpired cX3_hoursUntilExpired 2 (some .int) 6 0 0 [.ref (gB G 0), .int (nI i)] σ (Qi G (fun r σ' => r = hUntil pw (gS σ (gP σ i).2.1) (gP σ i) 5 ∧ Tr σ σ')) := by
  refine mt_intro (by decide +kernel) (Nat.le_of_ble_eq_true rfl) ?_
  intro p e s m below meth c S hr hlk hnm hI ls hl
  have hl : lv_has ls 2 [(0, .ref (gB G 0)), (1, .int (nI i))] := hl
  refine lv_aload_n S.1 S.2.1 dX3_hoursUntilExpired_0 rfl (lv_at hl 0 rfl) ?_
  refine lv_aload_n S.1 S.2.1 dX3_hoursUntilExpired_1 rfl (lv_at hl 0 rfl) ?_
  refine lv_iload_n S.1 S.2.1 dX3_hoursUntilExpired_2 rfl (lv_at hl 1 rfl) ?_
  refine cl_q hI (rnV (As := [.int (nI i)]) (rest := [.ref (gB G 0)]) S hI (c_findPromise l G _ hi hn hX) (cw_X3_X3_findPromise S.2.2.2.2 ⟨Nat.le_of_ble_eq_true rfl, Nat.le_of_ble_eq_true rfl⟩) (rcX hI) rfl hl.1 (Nat.le_of_ble_eq_true rfl) dX3_hoursUntilExpired_3 ⟨Nat.le_of_ble_eq_true rfl, Nat.le_of_ble_eq_true rfl⟩) (fun r1 σ1 H locs hq1 hI => ?_)
  obtain ⟨hr1, hs1⟩ := hq1
  rw [hs1] at hI
  rw [hr1]
  show W _ _ _ _ _ _ _ _ _ _ _ _ _ _ _ (F0 _ _ _ (.ref (gB G (9 + i)) :: _))
  refine gs_X3_EXPIRED S hI dX3_hoursUntilExpired_6 ?_
  refine cl_i hI (rnV (As := [.ref (gB G (9 + i)), .ref (gE G 5)]) (rest := []) S hI (c_hoursUntil l G _ hok hX (i := i) (by omega) (g := 5) (by decide)) (cw_X3_X3_hoursUntil S.2.2.2.2 ⟨Nat.le_of_ble_eq_true rfl, Nat.le_of_ble_eq_true rfl⟩) (rcX hI) rfl hl.1 (Nat.le_of_ble_eq_true rfl) dX3_hoursUntilExpired_9 ⟨Nat.le_of_ble_eq_true rfl, Nat.le_of_ble_eq_true rfl⟩) (fun r2 σ2 H locs hq2 hI => ?_)
  obtain ⟨hr2, hs2⟩ := hq2
  exact xt_i S hI hr hlk (⟨hr2, hs2⟩) (by decide) (by decide) dX3_hoursUntilExpired_12
set_option maxRecDepth 100000 in
set_option maxHeartbeats 4000000 in
theorem c_leftIn (l : Launch) (G : Gt) (σ : St) (hok : okP σ) {h : Nat} (h1 : 1 ≤ h) (hh100 : h ≤ 100) : Ct l G yX3_leftIn cX3_leftIn 7 (some .int) 6 0 0 [.ref (gB G 0), .int (nI h)] σ (Qi G (fun r σ' => r = sumN (leftF σ h) 20 ∧ Tr σ σ')) := by
  refine mt_intro (by decide +kernel) (Nat.le_of_ble_eq_true rfl) ?_
  intro p e s m below meth c S hr hlk hnm hI ls hl
  have hl : lv_has ls 7 [(0, .ref (gB G 0)), (1, .int (nI h))] := hl
  have loop : ∀ (n : Nat) (k : Nat) (σk : St), k + n = 20 → Tr σ σk → ∀ (H : Heap) (locs : List Loc), Iv G σk s H locs → ∀ ls : Array Slot, lv_has ls 7 [(0, .ref (gB G 0)), (1, .int (nI h)), (2, .int (sumN (leftF σ h) k)), (3, .ref (gB G 2)), (4, .int (nI 20)), (5, .int (nI k))] → W p l e (rm 6 0 0) s m ([.ref (gB G 0), .int (nI h)] : List Value).toArray below meth c H locs 0 0 (MQ below (Qi G (fun r σ' => r = sumN (leftF σ h) 20 ∧ Tr σ σ')) ([.ref (gB G 0), .int (nI h)] : List Value).toArray s 0 0 (gA G)) (F0 m 18 ls []) := by
    intro n
    induction n with
    | zero =>
      intro k σk hk0 ht H locs hI ls hl
      obtain rfl : k = 20 := by omega
      refine lv_iload S.1 S.2.1 dX3_leftIn_18 (lv_at hl 5 rfl) ?_
      refine lv_iload S.1 S.2.1 dX3_leftIn_20 (lv_at hl 4 rfl) ?_
      refine lv_icmp_ge (tgt := 50) S.1 S.2.1 dX3_leftIn_22 (by decide) (fun cz_22 => ?_) (fun c9 => absurd (nI_le (Nat.le_refl 20) (by omega)) c9)
      refine lv_iload_n S.1 S.2.1 dX3_leftIn_50 rfl (lv_at hl 2 rfl) ?_
      exact xt_i S hI hr hlk (⟨rfl, ht⟩) (by decide) (by decide) dX3_leftIn_51
    | succ n ih =>
      intro k σk hk0 ht H locs hI ls hl
      have hk2 : k < 20 := by omega
      refine lv_iload S.1 S.2.1 dX3_leftIn_18 (lv_at hl 5 rfl) ?_
      refine lv_iload S.1 S.2.1 dX3_leftIn_20 (lv_at hl 4 rfl) ?_
      refine lv_icmp_ge (tgt := 50) S.1 S.2.1 dX3_leftIn_22 (by decide) (fun c9 => absurd c9 (nI_ge hk2 (by omega))) (fun cz_22 => ?_)
      refine lv_aload_n S.1 S.2.1 dX3_leftIn_25 rfl (lv_at hl 3 rfl) ?_
      refine lv_iload S.1 S.2.1 dX3_leftIn_26 (lv_at hl 5 rfl) ?_
      refine a_PA S hI hk2 dX3_leftIn_28 ?_
      refine lv_astore (lv' := [(6, .ref (gB G (9 + k))), (0, .ref (gB G 0)), (1, .int (nI h)), (2, .int (sumN (leftF σ h) k)), (3, .ref (gB G 2)), (4, .int (nI 20)), (5, .int (nI k))]) S.1 S.2.1 dX3_leftIn_29 hl (by decide) rfl (fun ls hl => ?_)
      refine lv_aload_n S.1 S.2.1 dX3_leftIn_31 rfl (lv_at hl 1 rfl) ?_
      refine lv_aload S.1 S.2.1 dX3_leftIn_32 (lv_at hl 0 rfl) ?_
      refine lv_iload_n S.1 S.2.1 dX3_leftIn_34 rfl (lv_at hl 2 rfl) ?_
      refine cl_i hI (rnV (As := [.ref (gB G (9 + k)), .int (nI h)]) (rest := []) S hI (c_liesBehind l G σk (hok.tr ht) (xEta (gX σk)) (i := k) hk2 hh100) (cw_X3_X3_liesBehind S.2.2.2.2 ⟨Nat.le_of_ble_eq_true rfl, Nat.le_of_ble_eq_true rfl⟩) (rcX hI) rfl hl.1 (Nat.le_of_ble_eq_true rfl) dX3_leftIn_35 ⟨Nat.le_of_ble_eq_true rfl, Nat.le_of_ble_eq_true rfl⟩) (fun r1 σ1 H locs hq1 hI => ?_)
      obtain ⟨hr1, hs1⟩ := hq1
      refine lv_if_eq (tgt := 44) S.1 S.2.1 dX3_leftIn_38 (by decide) (fun cz_38 => ?_) (fun cz_38 => ?_)
      · refine lv_iinc (v := (nI (k + 1))) (lv' := [(5, .int (nI (k + 1))), (6, .ref (gB G (9 + k))), (0, .ref (gB G 0)), (1, .int (nI h)), (2, .int (sumN (leftF σ h) k)), (3, .ref (gB G 2)), (4, .int (nI 20))]) S.1 S.2.1 dX3_leftIn_44 hl (k := 6) rfl (nI_1 k) (by decide) rfl (fun ls hl => ?_)
        refine lv_goto (tgt := 18) S.1 S.2.1 dX3_leftIn_47 (by decide) ?_
        exact ih (k + 1) _ (by omega) (ht.trans hs1) _ _ hI ls (by rw [show sumN (leftF σ h) (k + 1) = (sumN (leftF σ h) k) from by rw [sumN_s, ← ht.leftF hok h hk2, ← hr1, cz_38, Int32.add_zero]]; exact lv_sub hl [2, 3, 4, 5, 6, 0] rfl)
      · refine lv_iinc (v := ((sumN (leftF σ h) k) + 1)) (lv' := [(2, .int ((sumN (leftF σ h) k) + 1)), (6, .ref (gB G (9 + k))), (0, .ref (gB G 0)), (1, .int (nI h)), (3, .ref (gB G 2)), (4, .int (nI 20)), (5, .int (nI k))]) S.1 S.2.1 dX3_leftIn_41 hl (k := 3) rfl rfl (by decide) rfl (fun ls hl => ?_)
        refine lv_iinc (v := (nI (k + 1))) (lv' := [(5, .int (nI (k + 1))), (2, .int ((sumN (leftF σ h) k) + 1)), (6, .ref (gB G (9 + k))), (0, .ref (gB G 0)), (1, .int (nI h)), (3, .ref (gB G 2)), (4, .int (nI 20))]) S.1 S.2.1 dX3_leftIn_44 hl (k := 6) rfl (nI_1 k) (by decide) rfl (fun ls hl => ?_)
        refine lv_goto (tgt := 18) S.1 S.2.1 dX3_leftIn_47 (by decide) ?_
        exact ih (k + 1) _ (by omega) (ht.trans hs1) _ _ hI ls (by rw [show sumN (leftF σ h) (k + 1) = ((sumN (leftF σ h) k) + 1) from by rw [sumN_s, ← ht.leftF hok h hk2, ← hr1, show r1 = 1 from (by rw [hr1] at cz_38 ⊢; exact (liesN_01 _ _ _ _).resolve_left cz_38)]]; exact lv_sub hl [3, 4, 1, 5, 6, 0] rfl)
  refine lv_iload_n S.1 S.2.1 dX3_leftIn_0 rfl (lv_at hl 1 rfl) ?_
  refine cl_v hI (rnS (As := [.int (nI h)]) (rest := []) S hI (c_checkHours l G _ h1 hh100) (cw_X3_X3_checkHours S.2.2.2.2 ⟨Nat.le_of_ble_eq_true rfl, Nat.le_of_ble_eq_true rfl⟩) rfl hl.1 (Nat.le_of_ble_eq_true rfl) dX3_leftIn_1 ⟨Nat.le_of_ble_eq_true rfl, Nat.le_of_ble_eq_true rfl⟩) (fun σ1 H locs hq1 hI => ?_)
  rw [hq1] at hI
  refine lv_iconst (v := 0) S.1 S.2.1 dX3_leftIn_4 (by decide) ?_
  refine lv_istore_n (lv' := [(2, .int 0), (0, .ref (gB G 0)), (1, .int (nI h))]) S.1 S.2.1 dX3_leftIn_5 rfl hl (by decide) rfl (fun ls hl => ?_)
  refine lv_aload_n S.1 S.2.1 dX3_leftIn_6 rfl (lv_at hl 1 rfl) ?_
  refine g_X3_X_promises S hI dX3_leftIn_7 ?_
  refine lv_astore_n (lv' := [(3, .ref (gB G 2)), (2, .int 0), (0, .ref (gB G 0)), (1, .int (nI h))]) S.1 S.2.1 dX3_leftIn_10 rfl hl (by decide) rfl (fun ls hl => ?_)
  refine lv_aload_n S.1 S.2.1 dX3_leftIn_11 rfl (lv_at hl 0 rfl) ?_
  refine n_PA S hI dX3_leftIn_12 ?_
  refine lv_istore (lv' := [(4, .int (nI 20)), (3, .ref (gB G 2)), (2, .int 0), (0, .ref (gB G 0)), (1, .int (nI h))]) S.1 S.2.1 dX3_leftIn_13 hl (by decide) rfl (fun ls hl => ?_)
  refine lv_iconst (v := (nI 0)) S.1 S.2.1 dX3_leftIn_15 (by rfl) ?_
  refine lv_istore (lv' := [(5, .int (nI 0)), (4, .int (nI 20)), (3, .ref (gB G 2)), (2, .int 0), (0, .ref (gB G 0)), (1, .int (nI h))]) S.1 S.2.1 dX3_leftIn_16 hl (by decide) rfl (fun ls hl => ?_)
  exact loop 20 0 σ rfl (Tr.rf σ) _ _ hI ls (lv_sub hl [4, 5, 3, 2, 1, 0] rfl)
set_option maxRecDepth 100000 in
set_option maxHeartbeats 4000000 in
theorem c_bestShelf (l : Launch) (G : Gt) (σ : St) {n0 : Nat} (hn0 : n0 ≤ 20) (hX : (gX σ).1 = nI n0) : Ct l G yX3_bestShelf cX3_bestShelf 8 (some .int) 6 0 0 [.ref (gB G 0)] σ (Qi G (fun r σ' => r = (if n0 < 20 then (bestF σ 5).1 else -1) ∧ Tr σ σ')) := by
  refine mt_intro (by decide +kernel) (Nat.le_of_ble_eq_true rfl) ?_
  intro p e s m below meth c S hr hlk hnm hI ls hl
  have hl : lv_has ls 8 [(0, .ref (gB G 0))] := hl
  rcases Nat.lt_or_ge n0 20 with hlt | hge
  · skip
    have loop : ∀ (n : Nat) (k : Nat) (σk : St), k + n = 5 → Tr σ σk → ∀ (H : Heap) (locs : List Loc), Iv G σk s H locs → ∀ ls : Array Slot, lv_has ls 8 [(0, .ref (gB G 0)), (1, .int ((bestF σ k).1)), (2, .int ((bestF σ k).2)), (3, .ref (gB G 1)), (4, .int (nI 5)), (5, .int (nI k))] → W p l e (rm 6 0 0) s m ([.ref (gB G 0)] : List Value).toArray below meth c H locs 0 0 (MQ below (Qi G (fun r σ' => r = (if n0 < 20 then (bestF σ 5).1 else -1) ∧ Tr σ σ')) ([.ref (gB G 0)] : List Value).toArray s 0 0 (gA G)) (F0 m 27 ls []) := by
      intro n
      induction n with
      | zero =>
        intro k σk hk0 ht H locs hI ls hl
        obtain rfl : k = 5 := by omega
        refine lv_iload S.1 S.2.1 dX3_bestShelf_27 (lv_at hl 5 rfl) ?_
        refine lv_iload S.1 S.2.1 dX3_bestShelf_29 (lv_at hl 4 rfl) ?_
        refine lv_icmp_ge (tgt := 72) S.1 S.2.1 dX3_bestShelf_31 (by decide) (fun cz_31 => ?_) (fun c9 => absurd (nI_le (Nat.le_refl 5) (by omega)) c9)
        refine lv_iload_n S.1 S.2.1 dX3_bestShelf_72 rfl (lv_at hl 1 rfl) ?_
        exact xt_i S hI hr hlk (⟨(if_pos hlt).symm, ht⟩) (by decide) (by decide) dX3_bestShelf_73
      | succ n ih =>
        intro k σk hk0 ht H locs hI ls hl
        have hk2 : k < 5 := by omega
        refine lv_iload S.1 S.2.1 dX3_bestShelf_27 (lv_at hl 5 rfl) ?_
        refine lv_iload S.1 S.2.1 dX3_bestShelf_29 (lv_at hl 4 rfl) ?_
        refine lv_icmp_ge (tgt := 72) S.1 S.2.1 dX3_bestShelf_31 (by decide) (fun c9 => absurd c9 (nI_ge hk2 (by omega))) (fun cz_31 => ?_)
        refine lv_aload_n S.1 S.2.1 dX3_bestShelf_34 rfl (lv_at hl 3 rfl) ?_
        refine lv_iload S.1 S.2.1 dX3_bestShelf_35 (lv_at hl 5 rfl) ?_
        refine a_SA S hI hk2 dX3_bestShelf_37 ?_
        refine lv_astore (lv' := [(6, .ref (gB G (3 + k))), (0, .ref (gB G 0)), (1, .int ((bestF σ k).1)), (2, .int ((bestF σ k).2)), (3, .ref (gB G 1)), (4, .int (nI 5)), (5, .int (nI k))]) S.1 S.2.1 dX3_bestShelf_38 hl (by decide) rfl (fun ls hl => ?_)
        refine lv_aload_n S.1 S.2.1 dX3_bestShelf_40 rfl (lv_at hl 1 rfl) ?_
        refine lv_aload S.1 S.2.1 dX3_bestShelf_41 (lv_at hl 0 rfl) ?_
        refine cl_i hI (rnV (As := [.ref (gB G (3 + k))]) (rest := []) S hI (c_freezeAnew l G σk (xEta (gX σk)) (j := k) hk2) (cw_X3_X3_hoursToFreezeAnew S.2.2.2.2 ⟨Nat.le_of_ble_eq_true rfl, Nat.le_of_ble_eq_true rfl⟩) (rcX hI) rfl hl.1 (Nat.le_of_ble_eq_true rfl) dX3_bestShelf_43 ⟨Nat.le_of_ble_eq_true rfl, Nat.le_of_ble_eq_true rfl⟩) (fun r1 σ1 H locs hq1 hI => ?_)
        obtain ⟨hr1, hs1⟩ := hq1
        rw [ht.S hk2, ht.X] at hr1
        rw [hr1]
        have hSk : gS σ1 k = ((gS σ1 k).1, (gS σ1 k).2) := rfl
        refine lv_istore (lv' := [(7, .int (freezeN (gX σ).2.2.2 (gS σ k))), (6, .ref (gB G (3 + k))), (0, .ref (gB G 0)), (1, .int ((bestF σ k).1)), (2, .int ((bestF σ k).2)), (3, .ref (gB G 1)), (4, .int (nI 5)), (5, .int (nI k))]) S.1 S.2.1 dX3_bestShelf_46 hl (by decide) rfl (fun ls hl => ?_)
        refine lv_iload S.1 S.2.1 dX3_bestShelf_48 (lv_at hl 0 rfl) ?_
        refine lv_iload_n S.1 S.2.1 dX3_bestShelf_50 rfl (lv_at hl 4 rfl) ?_
        refine cl_i hI (rnS (As := [.int (freezeN (gX σ).2.2.2 (gS σ k)), .int ((bestF σ k).2)]) (rest := []) S hI (c_isSooner l G _ (freezeN (gX σ).2.2.2 (gS σ k)) ((bestF σ k).2)) (cw_X3_X3_isSooner S.2.2.2.2 ⟨Nat.le_of_ble_eq_true rfl, Nat.le_of_ble_eq_true rfl⟩) rfl hl.1 (Nat.le_of_ble_eq_true rfl) dX3_bestShelf_51 ⟨Nat.le_of_ble_eq_true rfl, Nat.le_of_ble_eq_true rfl⟩) (fun r2 σ2 H locs hq2 hI => ?_)
        obtain ⟨hr2, hs2⟩ := hq2
        rw [hs2] at hI
        rw [hr2]
        refine lv_if_eq (tgt := 66) S.1 S.2.1 dX3_bestShelf_54 (by decide) (fun cz_54 => ?_) (fun cz_54 => ?_)
        · refine lv_iinc (v := (nI (k + 1))) (lv' := [(5, .int (nI (k + 1))), (7, .int (freezeN (gX σ).2.2.2 (gS σ k))), (6, .ref (gB G (3 + k))), (0, .ref (gB G 0)), (1, .int ((bestF σ k).1)), (2, .int ((bestF σ k).2)), (3, .ref (gB G 1)), (4, .int (nI 5))]) S.1 S.2.1 dX3_bestShelf_66 hl (k := 7) rfl (nI_1 k) (by decide) rfl (fun ls hl => ?_)
          refine lv_goto (tgt := 27) S.1 S.2.1 dX3_bestShelf_69 (by decide) ?_
          exact ih (k + 1) _ (by omega) (ht.trans hs1) _ _ hI ls (by rw [show bestF σ (k + 1) = bestF σ k from if_neg (ite01 cz_54)]; exact lv_sub hl [3, 4, 5, 6, 7, 0] rfl)
        · refine lv_aload S.1 S.2.1 dX3_bestShelf_57 (lv_at hl 1 rfl) ?_
          refine g_X3_S_number S hI (by omega) hSk dX3_bestShelf_59 ?_
          rw [show (if k < 5 then nI k else -1) = (nI k) from if_pos hk2]
          refine lv_istore_n (lv' := [(1, .int (nI k)), (7, .int (freezeN (gX σ).2.2.2 (gS σ k))), (6, .ref (gB G (3 + k))), (0, .ref (gB G 0)), (2, .int ((bestF σ k).2)), (3, .ref (gB G 1)), (4, .int (nI 5)), (5, .int (nI k))]) S.1 S.2.1 dX3_bestShelf_62 rfl hl (by decide) rfl (fun ls hl => ?_)
          refine lv_iload S.1 S.2.1 dX3_bestShelf_63 (lv_at hl 1 rfl) ?_
          refine lv_istore_n (lv' := [(2, .int (freezeN (gX σ).2.2.2 (gS σ k))), (1, .int (nI k)), (7, .int (freezeN (gX σ).2.2.2 (gS σ k))), (6, .ref (gB G (3 + k))), (0, .ref (gB G 0)), (3, .ref (gB G 1)), (4, .int (nI 5)), (5, .int (nI k))]) S.1 S.2.1 dX3_bestShelf_65 rfl hl (by decide) rfl (fun ls hl => ?_)
          refine lv_iinc (v := (nI (k + 1))) (lv' := [(5, .int (nI (k + 1))), (2, .int (freezeN (gX σ).2.2.2 (gS σ k))), (1, .int (nI k)), (7, .int (freezeN (gX σ).2.2.2 (gS σ k))), (6, .ref (gB G (3 + k))), (0, .ref (gB G 0)), (3, .ref (gB G 1)), (4, .int (nI 5))]) S.1 S.2.1 dX3_bestShelf_66 hl (k := 7) rfl (nI_1 k) (by decide) rfl (fun ls hl => ?_)
          refine lv_goto (tgt := 27) S.1 S.2.1 dX3_bestShelf_69 (by decide) ?_
          exact ih (k + 1) _ (by omega) (ht.trans hs1) _ _ hI ls (by rw [show bestF σ (k + 1) = (nI k, freezeN (gX σ).2.2.2 (gS σ k)) from if_pos (ite01n cz_54)]; exact lv_sub hl [5, 2, 1, 6, 7, 0] rfl)
    refine lv_aload_n S.1 S.2.1 dX3_bestShelf_0 rfl (lv_at hl 0 rfl) ?_
    refine g_X3_X_made S hI (xEta (gX σ)) dX3_bestShelf_1 ?_
    refine lv_bipush (v := 20) S.1 S.2.1 dX3_bestShelf_4 (by decide) ?_
    refine lv_icmp_lt (tgt := 11) S.1 S.2.1 dX3_bestShelf_6 (by decide) (fun cz_6 => ?_) (fun c9 => absurd (by rw [hX]; exact nI_lt (b := 20) hlt (by omega)) c9)
    refine lv_iconst (v := (-1)) S.1 S.2.1 dX3_bestShelf_11 (by decide) ?_
    refine lv_istore_n (lv' := [(1, .int (-1)), (0, .ref (gB G 0))]) S.1 S.2.1 dX3_bestShelf_12 rfl hl (by decide) rfl (fun ls hl => ?_)
    refine lv_iconst (v := (-1)) S.1 S.2.1 dX3_bestShelf_13 (by decide) ?_
    refine lv_istore_n (lv' := [(2, .int (-1)), (1, .int (-1)), (0, .ref (gB G 0))]) S.1 S.2.1 dX3_bestShelf_14 rfl hl (by decide) rfl (fun ls hl => ?_)
    refine lv_aload_n S.1 S.2.1 dX3_bestShelf_15 rfl (lv_at hl 2 rfl) ?_
    refine g_X3_X_shelves S hI dX3_bestShelf_16 ?_
    refine lv_astore_n (lv' := [(3, .ref (gB G 1)), (2, .int (-1)), (1, .int (-1)), (0, .ref (gB G 0))]) S.1 S.2.1 dX3_bestShelf_19 rfl hl (by decide) rfl (fun ls hl => ?_)
    refine lv_aload_n S.1 S.2.1 dX3_bestShelf_20 rfl (lv_at hl 0 rfl) ?_
    refine n_SA S hI dX3_bestShelf_21 ?_
    refine lv_istore (lv' := [(4, .int (nI 5)), (3, .ref (gB G 1)), (2, .int (-1)), (1, .int (-1)), (0, .ref (gB G 0))]) S.1 S.2.1 dX3_bestShelf_22 hl (by decide) rfl (fun ls hl => ?_)
    refine lv_iconst (v := (nI 0)) S.1 S.2.1 dX3_bestShelf_24 (by rfl) ?_
    refine lv_istore (lv' := [(5, .int (nI 0)), (4, .int (nI 5)), (3, .ref (gB G 1)), (2, .int (-1)), (1, .int (-1)), (0, .ref (gB G 0))]) S.1 S.2.1 dX3_bestShelf_25 hl (by decide) rfl (fun ls hl => ?_)
    exact loop 5 0 σ rfl (Tr.rf σ) _ _ hI ls (lv_sub hl [5, 4, 3, 2, 1, 0] rfl)
  · skip
    refine lv_aload_n S.1 S.2.1 dX3_bestShelf_0 rfl (lv_at hl 0 rfl) ?_
    refine g_X3_X_made S hI (xEta (gX σ)) dX3_bestShelf_1 ?_
    refine lv_bipush (v := 20) S.1 S.2.1 dX3_bestShelf_4 (by decide) ?_
    refine lv_icmp_lt (tgt := 11) S.1 S.2.1 dX3_bestShelf_6 (by decide) (fun c9 => absurd c9 (by rw [hX]; exact nI_nlt (a := n0) (b := 20) hge (by omega))) (fun cz_6 => ?_)
    refine lv_iconst (v := (-1)) S.1 S.2.1 dX3_bestShelf_9 (by decide) ?_
    exact xt_i S hI hr hlk (⟨(if_neg (by omega)).symm, Tr.rf σ⟩) (by decide) (by decide) dX3_bestShelf_10
set_option maxRecDepth 100000 in
set_option maxHeartbeats 4000000 in
theorem c_hoursOfCold (l : Launch) (G : Gt) (σ : St) (hok : okP σ) : Ct l G yX3_hoursOfCold cX3_hoursOfCold 7 (some .int) 6 0 0 [.ref (gB G 0)] σ (Qi G (fun r σ' => r = ocF σ 20 ∧ Tr σ σ')) := by
  refine mt_intro (by decide +kernel) (Nat.le_of_ble_eq_true rfl) ?_
  intro p e s m below meth c S hr hlk hnm hI ls hl
  have hl : lv_has ls 7 [(0, .ref (gB G 0))] := hl
  have loop : ∀ (n : Nat) (k : Nat) (σk : St), k + n = 20 → Tr σ σk → ∀ (H : Heap) (locs : List Loc), Iv G σk s H locs → ∀ ls : Array Slot, lv_has ls 7 [(0, .ref (gB G 0)), (1, .int (ocF σ k)), (2, .ref (gB G 2)), (3, .int (nI 20)), (4, .int (nI k))] → W p l e (rm 6 0 0) s m ([.ref (gB G 0)] : List Value).toArray below meth c H locs 0 0 (MQ below (Qi G (fun r σ' => r = ocF σ 20 ∧ Tr σ σ')) ([.ref (gB G 0)] : List Value).toArray s 0 0 (gA G)) (F0 m 13 ls []) := by
    intro n
    induction n with
    | zero =>
      intro k σk hk0 ht H locs hI ls hl
      obtain rfl : k = 20 := by omega
      refine lv_iload S.1 S.2.1 dX3_hoursOfCold_13 (lv_at hl 4 rfl) ?_
      refine lv_iload_n S.1 S.2.1 dX3_hoursOfCold_15 rfl (lv_at hl 3 rfl) ?_
      refine lv_icmp_ge (tgt := 51) S.1 S.2.1 dX3_hoursOfCold_16 (by decide) (fun cz_16 => ?_) (fun c9 => absurd (nI_le (Nat.le_refl 20) (by omega)) c9)
      refine lv_iload_n S.1 S.2.1 dX3_hoursOfCold_51 rfl (lv_at hl 1 rfl) ?_
      exact xt_i S hI hr hlk (⟨rfl, ht⟩) (by decide) (by decide) dX3_hoursOfCold_52
    | succ n ih =>
      intro k σk hk0 ht H locs hI ls hl
      have hk2 : k < 20 := by omega
      refine lv_iload S.1 S.2.1 dX3_hoursOfCold_13 (lv_at hl 4 rfl) ?_
      refine lv_iload_n S.1 S.2.1 dX3_hoursOfCold_15 rfl (lv_at hl 3 rfl) ?_
      refine lv_icmp_ge (tgt := 51) S.1 S.2.1 dX3_hoursOfCold_16 (by decide) (fun c9 => absurd c9 (nI_ge hk2 (by omega))) (fun cz_16 => ?_)
      refine lv_aload_n S.1 S.2.1 dX3_hoursOfCold_19 rfl (lv_at hl 2 rfl) ?_
      refine lv_iload S.1 S.2.1 dX3_hoursOfCold_20 (lv_at hl 4 rfl) ?_
      refine a_PA S hI hk2 dX3_hoursOfCold_22 ?_
      refine lv_astore (lv' := [(5, .ref (gB G (9 + k))), (0, .ref (gB G 0)), (1, .int (ocF σ k)), (2, .ref (gB G 2)), (3, .int (nI 20)), (4, .int (nI k))]) S.1 S.2.1 dX3_hoursOfCold_23 hl (by decide) rfl (fun ls hl => ?_)
      refine lv_aload_n S.1 S.2.1 dX3_hoursOfCold_25 rfl (lv_at hl 1 rfl) ?_
      refine lv_aload S.1 S.2.1 dX3_hoursOfCold_26 (lv_at hl 0 rfl) ?_
      refine cl_i hI (rnV (As := [.ref (gB G (9 + k))]) (rest := []) S hI (c_alarmN l G σk (hok.tr ht) (i := k) hk2) (cw_X3_X3_hoursToAlarmWithoutPower S.2.2.2.2 ⟨Nat.le_of_ble_eq_true rfl, Nat.le_of_ble_eq_true rfl⟩) (rcX hI) rfl hl.1 (Nat.le_of_ble_eq_true rfl) dX3_hoursOfCold_28 ⟨Nat.le_of_ble_eq_true rfl, Nat.le_of_ble_eq_true rfl⟩) (fun r1 σ1 H locs hq1 hI => ?_)
      obtain ⟨hr1, hs1⟩ := hq1
      rw [ht.alarmN hok hk2] at hr1
      rw [hr1]
      refine lv_istore (lv' := [(6, .int (alarmN (gS σ (gP σ k).2.1) (gP σ k))), (5, .ref (gB G (9 + k))), (0, .ref (gB G 0)), (1, .int (ocF σ k)), (2, .ref (gB G 2)), (3, .int (nI 20)), (4, .int (nI k))]) S.1 S.2.1 dX3_hoursOfCold_31 hl (by decide) rfl (fun ls hl => ?_)
      refine lv_iload S.1 S.2.1 dX3_hoursOfCold_33 (lv_at hl 0 rfl) ?_
      refine lv_iload_n S.1 S.2.1 dX3_hoursOfCold_35 rfl (lv_at hl 3 rfl) ?_
      refine cl_i hI (rnS (As := [.int (alarmN (gS σ (gP σ k).2.1) (gP σ k)), .int (ocF σ k)]) (rest := []) S hI (c_isSooner l G _ (alarmN (gS σ (gP σ k).2.1) (gP σ k)) (ocF σ k)) (cw_X3_X3_isSooner S.2.2.2.2 ⟨Nat.le_of_ble_eq_true rfl, Nat.le_of_ble_eq_true rfl⟩) rfl hl.1 (Nat.le_of_ble_eq_true rfl) dX3_hoursOfCold_36 ⟨Nat.le_of_ble_eq_true rfl, Nat.le_of_ble_eq_true rfl⟩) (fun r2 σ2 H locs hq2 hI => ?_)
      obtain ⟨hr2, hs2⟩ := hq2
      rw [hs2] at hI
      rw [hr2]
      refine lv_if_eq (tgt := 45) S.1 S.2.1 dX3_hoursOfCold_39 (by decide) (fun cz_39 => ?_) (fun cz_39 => ?_)
      · refine lv_iinc (v := (nI (k + 1))) (lv' := [(4, .int (nI (k + 1))), (6, .int (alarmN (gS σ (gP σ k).2.1) (gP σ k))), (5, .ref (gB G (9 + k))), (0, .ref (gB G 0)), (1, .int (ocF σ k)), (2, .ref (gB G 2)), (3, .int (nI 20))]) S.1 S.2.1 dX3_hoursOfCold_45 hl (k := 6) rfl (nI_1 k) (by decide) rfl (fun ls hl => ?_)
        refine lv_goto (tgt := 13) S.1 S.2.1 dX3_hoursOfCold_48 (by decide) ?_
        exact ih (k + 1) _ (by omega) (ht.trans hs1) _ _ hI ls (by rw [show ocF σ (k + 1) = ocF σ k from if_neg (ite01 cz_39)]; exact lv_sub hl [3, 4, 5, 6, 0] rfl)
      · refine lv_iload S.1 S.2.1 dX3_hoursOfCold_42 (lv_at hl 0 rfl) ?_
        refine lv_istore_n (lv' := [(1, .int (alarmN (gS σ (gP σ k).2.1) (gP σ k))), (6, .int (alarmN (gS σ (gP σ k).2.1) (gP σ k))), (5, .ref (gB G (9 + k))), (0, .ref (gB G 0)), (2, .ref (gB G 2)), (3, .int (nI 20)), (4, .int (nI k))]) S.1 S.2.1 dX3_hoursOfCold_44 rfl hl (by decide) rfl (fun ls hl => ?_)
        refine lv_iinc (v := (nI (k + 1))) (lv' := [(4, .int (nI (k + 1))), (1, .int (alarmN (gS σ (gP σ k).2.1) (gP σ k))), (6, .int (alarmN (gS σ (gP σ k).2.1) (gP σ k))), (5, .ref (gB G (9 + k))), (0, .ref (gB G 0)), (2, .ref (gB G 2)), (3, .int (nI 20))]) S.1 S.2.1 dX3_hoursOfCold_45 hl (k := 6) rfl (nI_1 k) (by decide) rfl (fun ls hl => ?_)
        refine lv_goto (tgt := 13) S.1 S.2.1 dX3_hoursOfCold_48 (by decide) ?_
        exact ih (k + 1) _ (by omega) (ht.trans hs1) _ _ hI ls (by rw [show ocF σ (k + 1) = (alarmN (gS σ (gP σ k).2.1) (gP σ k)) from if_pos (ite01n cz_39)]; exact lv_sub hl [4, 1, 5, 6, 0] rfl)
  refine lv_iconst (v := (-1)) S.1 S.2.1 dX3_hoursOfCold_0 (by decide) ?_
  refine lv_istore_n (lv' := [(1, .int (-1)), (0, .ref (gB G 0))]) S.1 S.2.1 dX3_hoursOfCold_1 rfl hl (by decide) rfl (fun ls hl => ?_)
  refine lv_aload_n S.1 S.2.1 dX3_hoursOfCold_2 rfl (lv_at hl 1 rfl) ?_
  refine g_X3_X_promises S hI dX3_hoursOfCold_3 ?_
  refine lv_astore_n (lv' := [(2, .ref (gB G 2)), (1, .int (-1)), (0, .ref (gB G 0))]) S.1 S.2.1 dX3_hoursOfCold_6 rfl hl (by decide) rfl (fun ls hl => ?_)
  refine lv_aload_n S.1 S.2.1 dX3_hoursOfCold_7 rfl (lv_at hl 0 rfl) ?_
  refine n_PA S hI dX3_hoursOfCold_8 ?_
  refine lv_istore_n (lv' := [(3, .int (nI 20)), (2, .ref (gB G 2)), (1, .int (-1)), (0, .ref (gB G 0))]) S.1 S.2.1 dX3_hoursOfCold_9 rfl hl (by decide) rfl (fun ls hl => ?_)
  refine lv_iconst (v := (nI 0)) S.1 S.2.1 dX3_hoursOfCold_10 (by rfl) ?_
  refine lv_istore (lv' := [(4, .int (nI 0)), (3, .int (nI 20)), (2, .ref (gB G 2)), (1, .int (-1)), (0, .ref (gB G 0))]) S.1 S.2.1 dX3_hoursOfCold_11 hl (by decide) rfl (fun ls hl => ?_)
  exact loop 20 0 σ rfl (Tr.rf σ) _ _ hI ls (lv_sub hl [4, 3, 2, 1, 0] rfl)
