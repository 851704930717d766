theorem TT_S (σ : St) (q : Sh) (x : Pr) : gS (TT σ q x) 5 = q := (gS_setS σ 5 q)
theorem TT_P (σ : St) (q : Sh) (x : Pr) : gP (TT σ q x) 20 = x := gP_setP _ _ _
theorem TT_same {σ : St} {q : Sh} {x : Pr} (hq : gS σ 5 = q) (hx : gP σ 20 = x) : TT σ q x = σ := by
  subst hq; subst hx
  simp only [TT, setS_same]
  exact setP_same σ 20
theorem hourP_to {x : Pr} {a b : Int32} (h : x.2.1 < 6 → a = b) : hourP a x = hourP b x := by
  by_cases hs : x.2.1 < 6
  · rw [h hs]
  · rw [show hourP a x = x from if_neg hs, show hourP b x = x from if_neg hs]
theorem ringP_to {x : Pr} {a b : Int32} (h : x.2.1 < 6 → a = b) : ringP a x = ringP b x := by
  by_cases hs : x.2.1 < 6
  · rw [h hs]
  · rw [show ringP a x = 0 from if_neg (fun q => hs q.1), show ringP b x = 0 from if_neg (fun q => hs q.1)]
theorem ringP_z (a : Int32) (x : Pr) : narrow .boolean (.int (ringP a x)) = .int (ringP a x) := by unfold ringP; split <;> rfl
theorem try_fin {σ σ1 σ2 : St} {pw r : Int32} {q : Sh} {x : Pr} (hq : gS σ 5 = q) (hx : gP σ 20 = x) (hs : x.2.1 < 6 → x.2.1 = 5) (e1 : σ1 = setS σ 5 (hourS pw ((gS σ 5).1, (gS σ 5).2))) (h : r = ringP (gS σ1 (gP σ1 20).2.1).2 (gP σ1 20) ∧ σ2 = setP σ1 20 (hourP (gS σ1 (gP σ1 20).2.1).2 (gP σ1 20))) : r = ringP (hourS pw q).2 x ∧ σ2 = TT σ (tr1 pw (q, x)).1 (tr1 pw (q, x)).2 := by
  subst e1; subst hq; subst hx
  have e2 : gP (setS σ 5 (hourS pw (gS σ 5))) 20 = gP σ 20 := rfl
  have e3 : (gP σ 20).2.1 < 6 → (gS (setS σ 5 (hourS pw (gS σ 5))) (gP σ 20).2.1).2 = (hourS pw (gS σ 5)).2 := fun hh => by rw [hs hh, gS_setS]
  obtain ⟨h1, h2⟩ := h
  refine ⟨h1.trans (ringP_to e3), h2.trans ?_⟩
  show setP (setS σ 5 (hourS pw (gS σ 5))) 20 _ = setP (setS σ 5 (hourS pw (gS σ 5))) 20 _
  exact congrArg _ (hourP_to e3)
def okT (x : Pr) : Prop := x.1 < 6 ∧ (x.2.1 < 6 → x.2.1 = 5)
theorem okT.hour {x : Pr} (h : okT x) (a : Int32) : okT (hourP a x) := ⟨hourP_g h.1, fun q => by
  rcases hourP_s a x with e | e
  · rw [e] at q ⊢; exact h.2 q
  · omega⟩
theorem okT.trN {pw : Int32} {z : Sh × Pr} (h : okT z.2) (n : Nat) : okT (trN pw n z).2 := by
  induction n with
  | zero => exact h
  | succ n ih => exact ih.hour _
theorem okT.trial {x : Pr} (h : x.1 < 6) : okT (trial x) := ⟨h, fun _ => rfl⟩
set_option maxRecDepth 100000 in
set_option maxHeartbeats 4000000 in
theorem c_tryAnHour (l : Launch) (G : Gt) (σ : St) {pw : Int32} {q : Sh} {x : Pr} (hq : gS σ 5 = q) (hx : gP σ 20 = x) (hok : okT x) : Ct l G yX3_tryAnHour cX3_tryAnHour 2 (some .boolean) 3 0 0 [.ref (gB G 0), .int pw] σ (Qi G (fun r σ' => r = ringP (hourS pw q).2 x ∧ σ' = TT σ (tr1 pw (q, x)).1 (tr1 pw (q, x)).2)) := by
  refine mt_intro (by decide +kernel) (Nat.le_of_ble_eq_true rfl) ?_
  intro p e s m below meth c S hr hlk hnm hI ls hl
  have hl : lv_has ls 2 [(0, .ref (gB G 0)), (1, .int pw)] := hl
  refine lv_aload_n S.1 S.2.1 dX3_tryAnHour_0 rfl (lv_at hl 0 rfl) ?_
  refine g_X3_X_trialShelf S hI dX3_tryAnHour_1 ?_
  refine lv_iload_n S.1 S.2.1 dX3_tryAnHour_4 rfl (lv_at hl 1 rfl) ?_
  refine cl_v hI (rnVN (As := [.int pw]) (rest := []) S hI (c_S_hour l G _ (i := 5) (by decide) (sEta _) pw) (cw_X3_X1_liveAnHour S.2.2.2.2 hI.1.2.2.2.2.2.2.2 ⟨Nat.le_of_ble_eq_true rfl, Nat.le_of_ble_eq_true rfl⟩) (rcS hI (by decide)) rfl hl.1 (Nat.le_of_ble_eq_true rfl) dX3_tryAnHour_5 ⟨Nat.le_of_ble_eq_true rfl, Nat.le_of_ble_eq_true rfl⟩) (fun σ1 H locs hq1 hI => ?_)
  have ez1 := hq1
  have hS1 : gS σ1 5 = ((gS σ 5).1, (hourS pw ((gS σ 5).1, (gS σ 5).2)).2) := by rw [ez1]; exact gS_setS _ _ _
  have hf__2 : gP σ1 20 = ((gP σ 20).1, (gP σ 20).2.1, (gP σ 20).2.2.1, (gP σ 20).2.2.2.1, (gP σ 20).2.2.2.2.1, (gP σ 20).2.2.2.2.2) := by rw [ez1]; exact (pEta (gP σ 20))
  refine lv_aload_n S.1 S.2.1 dX3_tryAnHour_8 rfl (lv_at hl 0 rfl) ?_
  refine g_X3_X_trialPromise S hI dX3_tryAnHour_9 ?_
  refine cl_i hI (rnVN (As := []) (rest := []) S hI (c_P_hour l G σ1 (i := 20) (by decide) (by rw [ez1]; show (gP σ 20).1 < 6; rw [hx]; exact hok.1)) (cw_X3_X0_liveAnHour S.2.2.2.2 hI.1.2.2.2.2.2.2.2 ⟨Nat.le_of_ble_eq_true rfl, Nat.le_of_ble_eq_true rfl⟩) (rcP hI (by decide)) rfl hl.1 (Nat.le_of_ble_eq_true rfl) dX3_tryAnHour_12 ⟨Nat.le_of_ble_eq_true rfl, Nat.le_of_ble_eq_true rfl⟩) (fun r3 σ3 H locs hq3 hI => ?_)
  exact xt_z S hI hr hlk (by rw [(try_fin hq hx hok.2 ez1 hq3).1]; exact ringP_z _ _) (try_fin hq hx hok.2 ez1 hq3) (by decide) (by decide) dX3_tryAnHour_15
set_option maxRecDepth 100000 in
set_option maxHeartbeats 4000000 in
theorem c_tried (l : Launch) (G : Gt) (σ : St) {z : Sh × Pr} {nm ar hh pw : Int32} (hX : gX σ = (nm, ar, hh, pw)) (hq : gS σ 5 = z.1) (hx : gP σ 20 = z.2) (hok : okT z.2) {g : Nat} (hg : g < 6) : Ct l G yX3_triedHoursUntil cX3_triedHoursUntil 3 (some .int) 4 0 0 [.ref (gB G 0), .ref (gE G g)] σ (Qi G (fun r σ' => r = fst1 (fun n => decide ((trN pw n z).2.1 = g)) 200 1 ∧ Tr σ σ')) := by
  refine mt_intro (by decide +kernel) (Nat.le_of_ble_eq_true rfl) ?_
  intro p e s m below meth c S hr hlk hnm hI ls hl
  have hl : lv_has ls 3 [(0, .ref (gB G 0)), (1, .ref (gE G g))] := hl
  have loop : ∀ (n : Nat) (k : Nat), k + n = 200 → fst1 (fun n => decide ((trN pw n z).2.1 = g)) 200 1 = fst1 (fun n => decide ((trN pw n z).2.1 = g)) n (k + 1) → ∀ (H : Heap) (locs : List Loc), Iv G (TT σ (trN pw k z).1 (trN pw k z).2) s H locs → ∀ ls : Array Slot, lv_has ls 3 [(0, .ref (gB G 0)), (1, .ref (gE G g)), (2, .int (nI (k + 1)))] → W p l e (rm 4 0 0) s m ([.ref (gB G 0), .ref (gE G g)] : List Value).toArray below meth c H locs 0 0 (MQ below (Qi G (fun r σ' => r = fst1 (fun n => decide ((trN pw n z).2.1 = g)) 200 1 ∧ Tr σ σ')) ([.ref (gB G 0), .ref (gE G g)] : List Value).toArray s 0 0 (gA G)) (F0 m 2 ls []) := by
    intro n
    induction n with
    | zero =>
      intro k hk hF H locs hI ls hl
      refine lv_iload_n S.1 S.2.1 dX3_triedHoursUntil_2 rfl (lv_at hl 2 rfl) ?_
      refine lv_sipush (v := 200) S.1 S.2.1 dX3_triedHoursUntil_3 (by decide) ?_
      refine lv_icmp_gt (tgt := 37) S.1 S.2.1 dX3_triedHoursUntil_6 (by decide) (fun cz_6 => ?_) (fun c9 => absurd (nI_lt (a := 200) (by omega) (by omega)) c9)
      refine lv_iconst (v := (-1)) S.1 S.2.1 dX3_triedHoursUntil_37 (by decide) ?_
      exact xt_i S hI hr hlk (⟨hF.symm, _, _, rfl⟩) (by decide) (by decide) dX3_triedHoursUntil_38
    | succ n ih =>
      intro k hk hF H locs hI ls hl
      refine lv_iload_n S.1 S.2.1 dX3_triedHoursUntil_2 rfl (lv_at hl 2 rfl) ?_
      refine lv_sipush (v := 200) S.1 S.2.1 dX3_triedHoursUntil_3 (by decide) ?_
      refine lv_icmp_gt (tgt := 37) S.1 S.2.1 dX3_triedHoursUntil_6 (by decide) (fun c9 => absurd c9 (nI_nlt (b := k + 1) (a := 200) (by omega) (by omega))) (fun cz_6 => ?_)
      refine lv_aload_n S.1 S.2.1 dX3_triedHoursUntil_9 rfl (lv_at hl 0 rfl) ?_
      refine lv_aload_n S.1 S.2.1 dX3_triedHoursUntil_10 rfl (lv_at hl 0 rfl) ?_
      refine g_X3_X_power S hI hX dX3_triedHoursUntil_11 ?_
      refine cl_i hI (rnV (As := [.int pw]) (rest := []) S hI (c_tryAnHour l G _ (pw := pw) (TT_S _ _ _) (TT_P _ _ _) (hok.trN k)) (cw_X3_X3_tryAnHour S.2.2.2.2 ⟨Nat.le_of_ble_eq_true rfl, Nat.le_of_ble_eq_true rfl⟩) (rcX hI) rfl hl.1 (Nat.le_of_ble_eq_true rfl) dX3_triedHoursUntil_14 ⟨Nat.le_of_ble_eq_true rfl, Nat.le_of_ble_eq_true rfl⟩) (fun r1 σ1 H locs hq1 hI => ?_)
      obtain ⟨hr1, hs1⟩ := hq1
      rw [TT_TT] at hs1
      rw [hs1] at hI
      have hI : Iv G (TT σ (trN pw (k + 1) z).1 (trN pw (k + 1) z).2) s H locs := hI
      refine lv_pop S.1 S.2.1 dX3_triedHoursUntil_17 rfl ?_
      refine lv_aload_n S.1 S.2.1 dX3_triedHoursUntil_18 rfl (lv_at hl 0 rfl) ?_
      refine g_X3_X_trialPromise S hI dX3_triedHoursUntil_19 ?_
      refine g_X3_P_stage S hI (by decide) (TT_P σ (trN pw (k + 1) z).1 (trN pw (k + 1) z).2) dX3_triedHoursUntil_22 ?_
      refine lv_aload_n S.1 S.2.1 dX3_triedHoursUntil_25 rfl (lv_at hl 1 rfl) ?_
      refine ag_ne S hI (hok.trN (k + 1)).1 hg (tgt := 31) dX3_triedHoursUntil_26 (by decide) (fun cz_26 => ?_) (fun cz_26 => ?_)
      · refine lv_iinc (v := (nI (k + 1 + 1))) (lv' := [(2, .int (nI (k + 1 + 1))), (0, .ref (gB G 0)), (1, .ref (gE G g))]) S.1 S.2.1 dX3_triedHoursUntil_31 hl (k := 2) rfl (nI_1 (k + 1)) (by decide) rfl (fun ls hl => ?_)
        refine lv_goto (tgt := 2) S.1 S.2.1 dX3_triedHoursUntil_34 (by decide) ?_
        exact ih (k + 1) (by omega) (hF.trans (if_neg (by rw [decide_eq_true_eq]; exact cz_26))) _ _ hI ls (lv_sub hl [1, 2, 0] rfl)
      · refine lv_iload_n S.1 S.2.1 dX3_triedHoursUntil_29 rfl (lv_at hl 2 rfl) ?_
        exact xt_i S hI hr hlk (⟨by rw [hF]; exact (if_pos (decide_eq_true cz_26)).symm, _, _, rfl⟩) (by decide) (by decide) dX3_triedHoursUntil_30
  rw [← TT_same hq hx] at hI
  refine lv_iconst (v := (nI (0 + 1))) S.1 S.2.1 dX3_triedHoursUntil_0 (by rfl) ?_
  refine lv_istore_n (lv' := [(2, .int (nI (0 + 1))), (0, .ref (gB G 0)), (1, .ref (gE G g))]) S.1 S.2.1 dX3_triedHoursUntil_1 rfl hl (by decide) rfl (fun ls hl => ?_)
  exact loop 200 0 rfl rfl _ _ hI ls (lv_sub hl [1, 2, 0] rfl)
set_option maxRecDepth 100000 in
set_option maxHeartbeats 4000000 in
theorem c_hoursUntil (l : Launch) (G : Gt) (σ : St) (hok : okP σ) {nm ar hh pw : Int32} (hX : gX σ = (nm, ar, hh, pw)) {i : Nat} (hi : i < 20) {g : Nat} (hg : g < 6) : Ct l G yX3_hoursUntil cX3_hoursUntil 4 (some .int) 5 0 0 [.ref (gB G 0), .ref (gB G (9 + i)), .ref (gE G g)] σ (Qi G (fun r σ' => r = hUntil pw (gS σ (gP σ i).2.1) (gP σ i) g ∧ Tr σ σ')) := by
  refine mt_intro (by decide +kernel) (Nat.le_of_ble_eq_true rfl) ?_
  intro p e s m below meth c S hr hlk hnm hI ls hl
  have hl : lv_has ls 4 [(0, .ref (gB G 0)), (1, .ref (gB G (9 + i))), (2, .ref (gE G g))] := hl
  by_cases hs : (gP σ i).2.1 < 6
  · have hs5 : (gP σ i).2.1 < 5 := by have := (hok i hi).2; omega
    refine lv_aload_n S.1 S.2.1 dX3_hoursUntil_0 rfl (lv_at hl 1 rfl) ?_
    refine g_X3_P_stage S hI (by omega) (pEta (gP σ i)) dX3_hoursUntil_1 ?_
    refine lv_aload_n S.1 S.2.1 dX3_hoursUntil_4 rfl (lv_at hl 2 rfl) ?_
    refine ag_ne S hI (hok i hi).1 hg (tgt := 10) dX3_hoursUntil_5 (by decide) (fun cz_5 => ?_) (fun cz_5 => ?_)
    · refine lv_aload_n S.1 S.2.1 dX3_hoursUntil_10 rfl (lv_at hl 1 rfl) ?_
      refine g_X3_P_shelf_s S hI (by omega) (pEta (gP σ i)) hs dX3_hoursUntil_11 ?_
      refine lv_astore_n (lv' := [(3, .ref (gB G (3 + (gP σ i).2.1))), (0, .ref (gB G 0)), (1, .ref (gB G (9 + i))), (2, .ref (gE G g))]) S.1 S.2.1 dX3_hoursUntil_14 rfl hl (by decide) rfl (fun ls hl => ?_)
      refine lv_aload_n S.1 S.2.1 dX3_hoursUntil_15 rfl (lv_at hl 0 rfl) ?_
      refine lv_ifnonnull (tgt := 21) S.1 S.2.1 dX3_hoursUntil_16 (by decide) ?_
      refine lv_aload_n S.1 S.2.1 dX3_hoursUntil_21 rfl (lv_at hl 1 rfl) ?_
      refine lv_aload_n S.1 S.2.1 dX3_hoursUntil_22 rfl (lv_at hl 2 rfl) ?_
      refine lv_aload_n S.1 S.2.1 dX3_hoursUntil_23 rfl (lv_at hl 0 rfl) ?_
      refine cl_v hI (rnV (As := [.ref (gB G (9 + i)), .ref (gB G (3 + (gP σ i).2.1))]) (rest := []) S hI (c_tryOut l G _ (i := i) (j := (gP σ i).2.1) hi hs5) (cw_X3_X3_tryOut S.2.2.2.2 ⟨Nat.le_of_ble_eq_true rfl, Nat.le_of_ble_eq_true rfl⟩) (rcX hI) rfl hl.1 (Nat.le_of_ble_eq_true rfl) dX3_hoursUntil_24 ⟨Nat.le_of_ble_eq_true rfl, Nat.le_of_ble_eq_true rfl⟩) (fun σ1 H locs hq1 hI => ?_)
      rw [hq1] at hI
      refine lv_aload_n S.1 S.2.1 dX3_hoursUntil_27 rfl (lv_at hl 1 rfl) ?_
      refine lv_aload_n S.1 S.2.1 dX3_hoursUntil_28 rfl (lv_at hl 3 rfl) ?_
      refine cl_i hI (rnV (As := [.ref (gE G g)]) (rest := []) S hI (c_tried l G (TT σ (gS σ (gP σ i).2.1) (trial (gP σ i))) (z := (gS σ (gP σ i).2.1, trial (gP σ i))) hX (TT_S _ _ _) (TT_P _ _ _) (okT.trial (hok i hi).1) hg) (cw_X3_X3_triedHoursUntil S.2.2.2.2 ⟨Nat.le_of_ble_eq_true rfl, Nat.le_of_ble_eq_true rfl⟩) (rcX hI) rfl hl.1 (Nat.le_of_ble_eq_true rfl) dX3_hoursUntil_29 ⟨Nat.le_of_ble_eq_true rfl, Nat.le_of_ble_eq_true rfl⟩) (fun r2 σ2 H locs hq2 hI => ?_)
      obtain ⟨hr2, hs2⟩ := hq2
      exact xt_i S hI hr hlk (⟨by rw [hr2]; exact ((if_neg cz_5).trans (if_pos hs)).symm, Tr.trans ⟨_, _, rfl⟩ hs2⟩) (by decide) (by decide) dX3_hoursUntil_32
    · refine lv_iconst (v := 0) S.1 S.2.1 dX3_hoursUntil_8 (by decide) ?_
      exact xt_i S hI hr hlk (⟨(if_pos cz_5).symm, Tr.rf σ⟩) (by decide) (by decide) dX3_hoursUntil_9
  · skip
    refine lv_aload_n S.1 S.2.1 dX3_hoursUntil_0 rfl (lv_at hl 1 rfl) ?_
    refine g_X3_P_stage S hI (by omega) (pEta (gP σ i)) dX3_hoursUntil_1 ?_
    refine lv_aload_n S.1 S.2.1 dX3_hoursUntil_4 rfl (lv_at hl 2 rfl) ?_
    refine ag_ne S hI (hok i hi).1 hg (tgt := 10) dX3_hoursUntil_5 (by decide) (fun cz_5 => ?_) (fun cz_5 => ?_)
    · refine lv_aload_n S.1 S.2.1 dX3_hoursUntil_10 rfl (lv_at hl 1 rfl) ?_
      refine g_X3_P_shelf_n S hI (by omega) (pEta (gP σ i)) hs dX3_hoursUntil_11 ?_
      refine lv_astore_nN (lv' := [(3, .null), (0, .ref (gB G 0)), (1, .ref (gB G (9 + i))), (2, .ref (gE G g))]) S.1 S.2.1 dX3_hoursUntil_14 rfl hl (by decide) rfl (fun ls hl => ?_)
      refine lv_aload_nN S.1 S.2.1 dX3_hoursUntil_15 rfl (lv_at hl 0 rfl) ?_
      refine lv_ifnonnullN S.1 S.2.1 dX3_hoursUntil_16 ?_
      refine lv_iconst (v := (-1)) S.1 S.2.1 dX3_hoursUntil_19 (by decide) ?_
      exact xt_i S hI hr hlk (⟨((if_neg cz_5).trans (if_neg hs)).symm, Tr.rf σ⟩) (by decide) (by decide) dX3_hoursUntil_20
    · refine lv_iconst (v := 0) S.1 S.2.1 dX3_hoursUntil_8 (by decide) ?_
      exact xt_i S hI hr hlk (⟨(if_pos cz_5).symm, Tr.rf σ⟩) (by decide) (by decide) dX3_hoursUntil_9
set_option maxRecDepth 100000 in
set_option maxHeartbeats 4000000 in
theorem c_liesBehind (l : Launch) (G : Gt) (σ : St) (hok : okP σ) {nm ar hh pw : Int32} (hX : gX σ = (nm, ar, hh, pw)) {i : Nat} (hi : i < 20) {h : Nat} (hh100 : h ≤ 100) : Ct l G yX3_liesBehind cX3_liesBehind 5 (some .boolean) 5 0 0 [.ref (gB G 0), .ref (gB G (9 + i)), .int (nI h)] σ (Qi G (fun r σ' => r = liesN pw (gS σ (gP σ i).2.1) (gP σ i) h ∧ Tr σ σ')) := by
  refine mt_intro (by decide +kernel) (Nat.le_of_ble_eq_true rfl) ?_
  intro p e s m below meth c S hr hlk hnm hI ls hl
  have hl : lv_has ls 5 [(0, .ref (gB G 0)), (1, .ref (gB G (9 + i))), (2, .int (nI h))] := hl
  by_cases hs : (gP σ i).2.1 < 6
  · have hs5 : (gP σ i).2.1 < 5 := by have := (hok i hi).2; omega
    obtain ⟨z, hz⟩ : ∃ z : Sh × Pr, z = (gS σ (gP σ i).2.1, trial (gP σ i)) := ⟨_, rfl⟩
    have hokz : okT z.2 := by rw [hz]; exact okT.trial (hok i hi).1
    have loop : ∀ (n : Nat) (k : Nat), k + n = h → ∀ (H : Heap) (locs : List Loc), Iv G (TT σ (trN pw k z).1 (trN pw k z).2) s H locs → ∀ ls : Array Slot, lv_has ls 5 [(0, .ref (gB G 0)), (2, .int (nI h)), (4, .int (nI k))] → W p l e (rm 5 0 0) s m ([.ref (gB G 0), .ref (gB G (9 + i)), .int (nI h)] : List Value).toArray below meth c H locs 0 0 (MQ below (Qi G (fun r σ' => r = liesN pw (gS σ (gP σ i).2.1) (gP σ i) h ∧ Tr σ σ')) ([.ref (gB G 0), .ref (gB G (9 + i)), .int (nI h)] : List Value).toArray s 0 0 (gA G)) (F0 m 20 ls []) := by
      intro n
      induction n with
      | zero =>
        intro k hk H locs hI ls hl
        obtain rfl : k = h := by omega
        refine lv_iload S.1 S.2.1 dX3_liesBehind_20 (lv_at hl 2 rfl) ?_
        refine lv_iload_n S.1 S.2.1 dX3_liesBehind_22 rfl (lv_at hl 1 rfl) ?_
        refine lv_icmp_ge (tgt := 41) S.1 S.2.1 dX3_liesBehind_23 (by decide) (fun cz_23 => ?_) (fun c9 => absurd (nI_le (Nat.le_refl _) (by omega)) c9)
        refine lv_aload_n S.1 S.2.1 dX3_liesBehind_41 rfl (lv_at hl 0 rfl) ?_
        refine g_X3_X_trialPromise S hI dX3_liesBehind_42 ?_
        refine g_X3_P_shelf_r S hI (by decide) (TT_P σ (trN pw k z).1 (trN pw k z).2) dX3_liesBehind_45 ?_
        refine nn_no S (tgt := 55) dX3_liesBehind_48 (by decide) (fun cz_48 => ?_) (fun cz_48 => ?_)
        · refine lv_iconst (v := 0) S.1 S.2.1 dX3_liesBehind_55 (by decide) ?_
          exact xt_z S hI hr hlk rfl (⟨by rw [show liesN pw (gS σ (gP σ i).2.1) (gP σ i) k = _ from if_pos hs, ← hz]; exact (if_neg cz_48).symm, _, _, rfl⟩) (by decide) (by decide) dX3_liesBehind_56
        · refine lv_iconst (v := 1) S.1 S.2.1 dX3_liesBehind_51 (by decide) ?_
          refine lv_goto (tgt := 56) S.1 S.2.1 dX3_liesBehind_52 (by decide) ?_
          exact xt_z S hI hr hlk rfl (⟨by rw [show liesN pw (gS σ (gP σ i).2.1) (gP σ i) k = _ from if_pos hs, ← hz]; exact (if_pos cz_48).symm, _, _, rfl⟩) (by decide) (by decide) dX3_liesBehind_56
      | succ n ih =>
        intro k hk H locs hI ls hl
        refine lv_iload S.1 S.2.1 dX3_liesBehind_20 (lv_at hl 2 rfl) ?_
        refine lv_iload_n S.1 S.2.1 dX3_liesBehind_22 rfl (lv_at hl 1 rfl) ?_
        refine lv_icmp_ge (tgt := 41) S.1 S.2.1 dX3_liesBehind_23 (by decide) (fun c9 => absurd c9 (nI_ge (by omega) (by omega))) (fun cz_23 => ?_)
        refine lv_aload_n S.1 S.2.1 dX3_liesBehind_26 rfl (lv_at hl 0 rfl) ?_
        refine lv_aload_n S.1 S.2.1 dX3_liesBehind_27 rfl (lv_at hl 0 rfl) ?_
        refine g_X3_X_power S hI hX dX3_liesBehind_28 ?_
        refine cl_i hI (rnV (As := [.int pw]) (rest := []) S hI (c_tryAnHour l G _ (pw := pw) (TT_S _ _ _) (TT_P _ _ _) (hokz.trN k)) (cw_X3_X3_tryAnHour S.2.2.2.2 ⟨Nat.le_of_ble_eq_true rfl, Nat.le_of_ble_eq_true rfl⟩) (rcX hI) rfl hl.1 (Nat.le_of_ble_eq_true rfl) dX3_liesBehind_31 ⟨Nat.le_of_ble_eq_true rfl, Nat.le_of_ble_eq_true rfl⟩) (fun r1 σ1 H locs hq1 hI => ?_)
        obtain ⟨hr1, hs1⟩ := hq1
        rw [TT_TT] at hs1
        rw [hs1] at hI
        have hI : Iv G (TT σ (trN pw (k + 1) z).1 (trN pw (k + 1) z).2) s H locs := hI
        refine lv_pop S.1 S.2.1 dX3_liesBehind_34 rfl ?_
        refine lv_iinc (v := (nI (k + 1))) (lv' := [(4, .int (nI (k + 1))), (0, .ref (gB G 0)), (2, .int (nI h))]) S.1 S.2.1 dX3_liesBehind_35 hl (k := 2) rfl (nI_1 k) (by decide) rfl (fun ls hl => ?_)
        refine lv_goto (tgt := 20) S.1 S.2.1 dX3_liesBehind_38 (by decide) ?_
        exact ih (k + 1) (by omega) _ _ hI ls (lv_sub hl [1, 2, 0] rfl)
    refine lv_aload_n S.1 S.2.1 dX3_liesBehind_0 rfl (lv_at hl 1 rfl) ?_
    refine g_X3_P_shelf_s S hI (by omega) (pEta (gP σ i)) hs dX3_liesBehind_1 ?_
    refine lv_astore_n (lv' := [(3, .ref (gB G (3 + (gP σ i).2.1))), (0, .ref (gB G 0)), (1, .ref (gB G (9 + i))), (2, .int (nI h))]) S.1 S.2.1 dX3_liesBehind_4 rfl hl (by decide) rfl (fun ls hl => ?_)
    refine lv_aload_n S.1 S.2.1 dX3_liesBehind_5 rfl (lv_at hl 0 rfl) ?_
    refine lv_ifnonnull (tgt := 11) S.1 S.2.1 dX3_liesBehind_6 (by decide) ?_
    refine lv_aload_n S.1 S.2.1 dX3_liesBehind_11 rfl (lv_at hl 1 rfl) ?_
    refine lv_aload_n S.1 S.2.1 dX3_liesBehind_12 rfl (lv_at hl 2 rfl) ?_
    refine lv_aload_n S.1 S.2.1 dX3_liesBehind_13 rfl (lv_at hl 0 rfl) ?_
    refine cl_v hI (rnV (As := [.ref (gB G (9 + i)), .ref (gB G (3 + (gP σ i).2.1))]) (rest := []) S hI (c_tryOut l G _ (i := i) (j := (gP σ i).2.1) hi hs5) (cw_X3_X3_tryOut S.2.2.2.2 ⟨Nat.le_of_ble_eq_true rfl, Nat.le_of_ble_eq_true rfl⟩) (rcX hI) rfl hl.1 (Nat.le_of_ble_eq_true rfl) dX3_liesBehind_14 ⟨Nat.le_of_ble_eq_true rfl, Nat.le_of_ble_eq_true rfl⟩) (fun σ1 H locs hq1 hI => ?_)
    rw [hq1] at hI
    have hI : Iv G (TT σ (trN pw 0 z).1 (trN pw 0 z).2) s H locs := by rw [hz]; exact hI
    refine lv_iconst (v := (nI 0)) S.1 S.2.1 dX3_liesBehind_17 (by rfl) ?_
    refine lv_istore (lv' := [(4, .int (nI 0)), (3, .ref (gB G (3 + (gP σ i).2.1))), (0, .ref (gB G 0)), (1, .ref (gB G (9 + i))), (2, .int (nI h))]) S.1 S.2.1 dX3_liesBehind_18 hl (by decide) rfl (fun ls hl => ?_)
    exact loop h 0 (by omega) _ _ hI ls (lv_sub hl [2, 4, 0] rfl)
  · skip
    refine lv_aload_n S.1 S.2.1 dX3_liesBehind_0 rfl (lv_at hl 1 rfl) ?_
    refine g_X3_P_shelf_n S hI (by omega) (pEta (gP σ i)) hs dX3_liesBehind_1 ?_
    refine lv_astore_nN (lv' := [(3, .null), (0, .ref (gB G 0)), (1, .ref (gB G (9 + i))), (2, .int (nI h))]) S.1 S.2.1 dX3_liesBehind_4 rfl hl (by decide) rfl (fun ls hl => ?_)
    refine lv_aload_nN S.1 S.2.1 dX3_liesBehind_5 rfl (lv_at hl 0 rfl) ?_
    refine lv_ifnonnullN S.1 S.2.1 dX3_liesBehind_6 ?_
    refine lv_iconst (v := 0) S.1 S.2.1 dX3_liesBehind_9 (by decide) ?_
    exact xt_z S hI hr hlk rfl (⟨(if_neg hs).symm, Tr.rf σ⟩) (by decide) (by decide) dX3_liesBehind_10
set_option maxRecDepth 100000 in
set_option maxHeartbeats 4000000 in
theorem c_freezeAnew (l : Launch) (G : Gt) (σ : St) {nm ar hh pw : Int32} (hX : gX σ = (nm, ar, hh, pw)) {j : Nat} (hj : j < 5) : Ct l G yX3_hoursToFreezeAnew cX3_hoursToFreezeAnew 2 (some .int) 5 0 0 [.ref (gB G 0), .ref (gB G (3 + j))] σ (Qi G (fun r σ' => r = freezeN pw (gS σ j) ∧ Tr σ σ')) := by
  refine mt_intro (by decide +kernel) (Nat.le_of_ble_eq_true rfl) ?_
  intro p e s m below meth c S hr hlk hnm hI ls hl
  have hl : lv_has ls 2 [(0, .ref (gB G 0)), (1, .ref (gB G (3 + j)))] := hl
  refine lv_aload_n S.1 S.2.1 dX3_hoursToFreezeAnew_0 rfl (lv_at hl 0 rfl) ?_
  refine g_X3_X_trialShelf S hI dX3_hoursToFreezeAnew_1 ?_
  refine lv_aload_n S.1 S.2.1 dX3_hoursToFreezeAnew_4 rfl (lv_at hl 1 rfl) ?_
  refine cl_v hI (rnVN (As := [.ref (gB G (3 + j))]) (rest := []) S hI (c_S_like l G _ (i := 5) (j := j) (by decide) (by omega) (by omega) (sEta _) (sEta _)) (cw_X3_X1_becomeLike S.2.2.2.2 hI.1.2.2.2.2.2.2.2 ⟨Nat.le_of_ble_eq_true rfl, Nat.le_of_ble_eq_true rfl⟩) (rcS hI (by decide)) rfl hl.1 (Nat.le_of_ble_eq_true rfl) dX3_hoursToFreezeAnew_5 ⟨Nat.le_of_ble_eq_true rfl, Nat.le_of_ble_eq_true rfl⟩) (fun σ1 H locs hq1 hI => ?_)
  have ez1 := hq1
  have hS1 : gS σ1 5 = ((gS σ j).1, (gS σ j).2) := by rw [ez1]; exact gS_setS _ _ _
  have hX__2 : gX σ1 = (nm, ar, hh, pw) := by rw [ez1]; exact hX
  refine lv_aload_n S.1 S.2.1 dX3_hoursToFreezeAnew_8 rfl (lv_at hl 0 rfl) ?_
  refine g_X3_X_trialShelf S hI dX3_hoursToFreezeAnew_9 ?_
  refine cl_v hI (rnVN (As := []) (rest := []) S hI (c_openDoor l G _ (i := 5) (by decide) hS1) (cw_X3_X1_openDoor S.2.2.2.2 hI.1.2.2.2.2.2.2.2 ⟨Nat.le_of_ble_eq_true rfl, Nat.le_of_ble_eq_true rfl⟩) (rcS hI (by decide)) rfl hl.1 (Nat.le_of_ble_eq_true rfl) dX3_hoursToFreezeAnew_12 ⟨Nat.le_of_ble_eq_true rfl, Nat.le_of_ble_eq_true rfl⟩) (fun σ3 H locs hq3 hI => ?_)
  have ez3 := hq3
  have hS3 : gS σ3 5 = ((gS σ j).1, (openH (gS σ j).2)) := by rw [ez3]; exact gS_setS _ _ _
  have hX__4 : gX σ3 = (nm, ar, hh, pw) := by rw [ez3]; exact hX__2
  refine lv_aload_n S.1 S.2.1 dX3_hoursToFreezeAnew_15 rfl (lv_at hl 0 rfl) ?_
  refine g_X3_X_trialPromise S hI dX3_hoursToFreezeAnew_16 ?_
  refine lv_iconst (v := 0) S.1 S.2.1 dX3_hoursToFreezeAnew_19 (by decide) ?_
  refine lv_bipush (v := 100) S.1 S.2.1 dX3_hoursToFreezeAnew_20 (by decide) ?_
  refine lv_aload_n S.1 S.2.1 dX3_hoursToFreezeAnew_22 rfl (lv_at hl 0 rfl) ?_
  refine g_X3_X_trialShelf S hI dX3_hoursToFreezeAnew_23 ?_
  refine cl_v hI (rnVN (As := [.int 0, .int 100, .ref (gB G (3 + 5))]) (rest := []) S hI (c_P_lay l G _ (i := 20) (by decide) (pEta _) 0 100 (k := 5) (by decide)) (cw_X3_X0_layAnew S.2.2.2.2 hI.1.2.2.2.2.2.2.2 ⟨Nat.le_of_ble_eq_true rfl, Nat.le_of_ble_eq_true rfl⟩) (rcP hI (by decide)) rfl hl.1 (Nat.le_of_ble_eq_true rfl) dX3_hoursToFreezeAnew_26 ⟨Nat.le_of_ble_eq_true rfl, Nat.le_of_ble_eq_true rfl⟩) (fun σ5 H locs hq5 hI => ?_)
  have ez5 := hq5
  have hP5 : gP σ5 20 = (1, 5, 0, 100, 0, 20) := by rw [ez5]; exact gP_setP _ _ _
  have hX__6 : gX σ5 = (nm, ar, hh, pw) := by rw [ez5]; exact hX__4
  have hS3__7 : gS σ5 5 = ((gS σ j).1, (openH (gS σ j).2)) := by rw [ez5]; exact hS3
  refine lv_aload_n S.1 S.2.1 dX3_hoursToFreezeAnew_29 rfl (lv_at hl 0 rfl) ?_
  refine gs_X3_FROZEN S hI dX3_hoursToFreezeAnew_30 ?_
  refine cl_i hI (rnV (As := [.ref (gE G 2)]) (rest := []) S hI (c_tried l G σ5 (z := (((gS σ j).1, openH (gS σ j).2), newP)) hX__6 hS3__7 hP5 (show okT newP from ⟨by decide, fun _ => rfl⟩) (g := 2) (by decide)) (cw_X3_X3_triedHoursUntil S.2.2.2.2 ⟨Nat.le_of_ble_eq_true rfl, Nat.le_of_ble_eq_true rfl⟩) (rcX hI) rfl hl.1 (Nat.le_of_ble_eq_true rfl) dX3_hoursToFreezeAnew_33 ⟨Nat.le_of_ble_eq_true rfl, Nat.le_of_ble_eq_true rfl⟩) (fun r8 σ8 H locs hq8 hI => ?_)
  obtain ⟨hr8, hs8⟩ := hq8
  exact xt_i S hI hr hlk (⟨hr8, Tr.trans ⟨_, _, by rw [ez5, ez3, ez1]; rw [setS_setS]; rfl⟩ hs8⟩) (by decide) (by decide) dX3_hoursToFreezeAnew_36
theorem ring_yes {r : Int32} {pw : Int32} {z : Sh × Pr} {k : Nat} (h : r = ringP (hourS pw (trN pw k z).1).2 (trN pw k z).2) (h1 : ¬ r = 0) : rgN pw z (k + 1) = true := by
  show (ringP _ _ == 1) = true
  rw [← h]
  unfold ringP at h
  split at h
  · rw [h]; rfl
  · exact absurd h h1
theorem ring_no {r : Int32} {pw : Int32} {z : Sh × Pr} {k : Nat} (h : r = ringP (hourS pw (trN pw k z).1).2 (trN pw k z).2) (h1 : r = 0) : ¬ rgN pw z (k + 1) = true := by
  show ¬ (ringP _ _ == 1) = true
  rw [← h, h1]
  decide
set_option maxRecDepth 100000 in
set_option maxHeartbeats 4000000 in
theorem c_alarmN (l : Launch) (G : Gt) (σ : St) (hok : okP σ) {i : Nat} (hi : i < 20) : Ct l G yX3_hoursToAlarmWithoutPower cX3_hoursToAlarmWithoutPower 4 (some .int) 5 0 0 [.ref (gB G 0), .ref (gB G (9 + i))] σ (Qi G (fun r σ' => r = alarmN (gS σ (gP σ i).2.1) (gP σ i) ∧ Tr σ σ')) := by
  refine mt_intro (by decide +kernel) (Nat.le_of_ble_eq_true rfl) ?_
  intro p e s m below meth c S hr hlk hnm hI ls hl
  have hl : lv_has ls 4 [(0, .ref (gB G 0)), (1, .ref (gB G (9 + i)))] := hl
  by_cases hs : (gP σ i).2.1 < 6
  · have hs5 : (gP σ i).2.1 < 5 := by have := (hok i hi).2; omega
    obtain ⟨z, hz⟩ : ∃ z : Sh × Pr, z = (gS σ (gP σ i).2.1, trial (gP σ i)) := ⟨_, rfl⟩
    have hokz : okT z.2 := by rw [hz]; exact okT.trial (hok i hi).1
    have hE : alarmN (gS σ (gP σ i).2.1) (gP σ i) = fst1 (rgN 0 z) 200 1 := by rw [hz]; exact if_pos hs
    have loop : ∀ (n : Nat) (k : Nat), k + n = 200 → fst1 (rgN 0 z) 200 1 = fst1 (rgN 0 z) n (k + 1) → ∀ (H : Heap) (locs : List Loc), Iv G (TT σ (trN 0 k z).1 (trN 0 k z).2) s H locs → ∀ ls : Array Slot, lv_has ls 4 [(0, .ref (gB G 0)), (3, .int (nI (k + 1)))] → W p l e (rm 5 0 0) s m ([.ref (gB G 0), .ref (gB G (9 + i))] : List Value).toArray below meth c H locs 0 0 (MQ below (Qi G (fun r σ' => r = alarmN (gS σ (gP σ i).2.1) (gP σ i) ∧ Tr σ σ')) ([.ref (gB G 0), .ref (gB G (9 + i))] : List Value).toArray s 0 0 (gA G)) (F0 m 19 ls []) := by
      intro n
      induction n with
      | zero =>
        intro k hk hF H locs hI ls hl
        refine lv_iload_n S.1 S.2.1 dX3_hoursToAlarmWithoutPower_19 rfl (lv_at hl 1 rfl) ?_
        refine lv_sipush (v := 200) S.1 S.2.1 dX3_hoursToAlarmWithoutPower_20 (by decide) ?_
        refine lv_icmp_gt (tgt := 42) S.1 S.2.1 dX3_hoursToAlarmWithoutPower_23 (by decide) (fun cz_23 => ?_) (fun c9 => absurd (nI_lt (a := 200) (by omega) (by omega)) c9)
        refine lv_iconst (v := (-1)) S.1 S.2.1 dX3_hoursToAlarmWithoutPower_42 (by decide) ?_
        exact xt_i S hI hr hlk (⟨hE.trans hF |>.symm, _, _, rfl⟩) (by decide) (by decide) dX3_hoursToAlarmWithoutPower_43
      | succ n ih =>
        intro k hk hF H locs hI ls hl
        refine lv_iload_n S.1 S.2.1 dX3_hoursToAlarmWithoutPower_19 rfl (lv_at hl 1 rfl) ?_
        refine lv_sipush (v := 200) S.1 S.2.1 dX3_hoursToAlarmWithoutPower_20 (by decide) ?_
        refine lv_icmp_gt (tgt := 42) S.1 S.2.1 dX3_hoursToAlarmWithoutPower_23 (by decide) (fun c9 => absurd c9 (nI_nlt (b := k + 1) (a := 200) (by omega) (by omega))) (fun cz_23 => ?_)
        refine lv_aload_n S.1 S.2.1 dX3_hoursToAlarmWithoutPower_26 rfl (lv_at hl 0 rfl) ?_
        refine lv_iconst (v := 0) S.1 S.2.1 dX3_hoursToAlarmWithoutPower_27 (by decide) ?_
        refine cl_i hI (rnV (As := [.int 0]) (rest := []) S hI (c_tryAnHour l G _ (pw := 0) (TT_S _ _ _) (TT_P _ _ _) (hokz.trN k)) (cw_X3_X3_tryAnHour S.2.2.2.2 ⟨Nat.le_of_ble_eq_true rfl, Nat.le_of_ble_eq_true rfl⟩) (rcX hI) rfl hl.1 (Nat.le_of_ble_eq_true rfl) dX3_hoursToAlarmWithoutPower_28 ⟨Nat.le_of_ble_eq_true rfl, Nat.le_of_ble_eq_true rfl⟩) (fun r1 σ1 H locs hq1 hI => ?_)
        obtain ⟨hr1, hs1⟩ := hq1
        rw [TT_TT] at hs1
        rw [hs1] at hI
        have hI : Iv G (TT σ (trN 0 (k + 1) z).1 (trN 0 (k + 1) z).2) s H locs := hI
        refine lv_if_eq (tgt := 36) S.1 S.2.1 dX3_hoursToAlarmWithoutPower_31 (by decide) (fun cz_31 => ?_) (fun cz_31 => ?_)
        · refine lv_iinc (v := (nI (k + 1 + 1))) (lv' := [(3, .int (nI (k + 1 + 1))), (0, .ref (gB G 0))]) S.1 S.2.1 dX3_hoursToAlarmWithoutPower_36 hl (k := 1) rfl (nI_1 (k + 1)) (by decide) rfl (fun ls hl => ?_)
          refine lv_goto (tgt := 19) S.1 S.2.1 dX3_hoursToAlarmWithoutPower_39 (by decide) ?_
          exact ih (k + 1) (by omega) (hF.trans (if_neg (ring_no hr1 cz_31))) _ _ hI ls (lv_sub hl [1, 0] rfl)
        · refine lv_iload_n S.1 S.2.1 dX3_hoursToAlarmWithoutPower_34 rfl (lv_at hl 1 rfl) ?_
          exact xt_i S hI hr hlk (⟨by rw [hE, hF]; exact (if_pos (ring_yes hr1 cz_31)).symm, _, _, rfl⟩) (by decide) (by decide) dX3_hoursToAlarmWithoutPower_35
    refine lv_aload_n S.1 S.2.1 dX3_hoursToAlarmWithoutPower_0 rfl (lv_at hl 1 rfl) ?_
    refine g_X3_P_shelf_s S hI (by omega) (pEta (gP σ i)) hs dX3_hoursToAlarmWithoutPower_1 ?_
    refine lv_astore_n (lv' := [(2, .ref (gB G (3 + (gP σ i).2.1))), (0, .ref (gB G 0)), (1, .ref (gB G (9 + i)))]) S.1 S.2.1 dX3_hoursToAlarmWithoutPower_4 rfl hl (by decide) rfl (fun ls hl => ?_)
    refine lv_aload_n S.1 S.2.1 dX3_hoursToAlarmWithoutPower_5 rfl (lv_at hl 0 rfl) ?_
    refine lv_ifnonnull (tgt := 11) S.1 S.2.1 dX3_hoursToAlarmWithoutPower_6 (by decide) ?_
    refine lv_aload_n S.1 S.2.1 dX3_hoursToAlarmWithoutPower_11 rfl (lv_at hl 1 rfl) ?_
    refine lv_aload_n S.1 S.2.1 dX3_hoursToAlarmWithoutPower_12 rfl (lv_at hl 2 rfl) ?_
    refine lv_aload_n S.1 S.2.1 dX3_hoursToAlarmWithoutPower_13 rfl (lv_at hl 0 rfl) ?_
    refine cl_v hI (rnV (As := [.ref (gB G (9 + i)), .ref (gB G (3 + (gP σ i).2.1))]) (rest := []) S hI (c_tryOut l G _ (i := i) (j := (gP σ i).2.1) hi hs5) (cw_X3_X3_tryOut S.2.2.2.2 ⟨Nat.le_of_ble_eq_true rfl, Nat.le_of_ble_eq_true rfl⟩) (rcX hI) rfl hl.1 (Nat.le_of_ble_eq_true rfl) dX3_hoursToAlarmWithoutPower_14 ⟨Nat.le_of_ble_eq_true rfl, Nat.le_of_ble_eq_true rfl⟩) (fun σ1 H locs hq1 hI => ?_)
    rw [hq1] at hI
    have hI : Iv G (TT σ (trN 0 0 z).1 (trN 0 0 z).2) s H locs := by rw [hz]; exact hI
    refine lv_iconst (v := (nI (0 + 1))) S.1 S.2.1 dX3_hoursToAlarmWithoutPower_17 (by rfl) ?_
    refine lv_istore_n (lv' := [(3, .int (nI (0 + 1))), (2, .ref (gB G (3 + (gP σ i).2.1))), (0, .ref (gB G 0)), (1, .ref (gB G (9 + i)))]) S.1 S.2.1 dX3_hoursToAlarmWithoutPower_18 rfl hl (by decide) rfl (fun ls hl => ?_)
    exact loop 200 0 rfl rfl _ _ hI ls (lv_sub hl [2, 0] rfl)
  · skip
    refine lv_aload_n S.1 S.2.1 dX3_hoursToAlarmWithoutPower_0 rfl (lv_at hl 1 rfl) ?_
    refine g_X3_P_shelf_n S hI (by omega) (pEta (gP σ i)) hs dX3_hoursToAlarmWithoutPower_1 ?_
    refine lv_astore_nN (lv' := [(2, .null), (0, .ref (gB G 0)), (1, .ref (gB G (9 + i)))]) S.1 S.2.1 dX3_hoursToAlarmWithoutPower_4 rfl hl (by decide) rfl (fun ls hl => ?_)
    refine lv_aload_nN S.1 S.2.1 dX3_hoursToAlarmWithoutPower_5 rfl (lv_at hl 0 rfl) ?_
    refine lv_ifnonnullN S.1 S.2.1 dX3_hoursToAlarmWithoutPower_6 ?_
    refine lv_iconst (v := (-1)) S.1 S.2.1 dX3_hoursToAlarmWithoutPower_9 (by decide) ?_
    exact xt_i S hI hr hlk (⟨(if_neg hs).symm, Tr.rf σ⟩) (by decide) (by decide) dX3_hoursToAlarmWithoutPower_10
