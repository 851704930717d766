theorem k_X_pc {D : va_G} {h0 e0 : Nat} {A : Nat → Prop} : FrameBlind (va_Pc [.ref h0] (fun U => X0 D e0 A U ∧ va_P D vwCl [(h0, .inr (2, [.null, .null, .int 0, .int 0, .int 0, .int 0, .null, .null]))] U.heap ∧ A h0 ∧ ∀ z : Nat, U.heap.size ≤ z → A z)) := fun _ U _ _ h =>
  ⟨h.1, ⟨va_K.moved (u := U) (Vm.Alike.refl U.vm) h.2.1.1, va_Z.moved (u := U) (Vm.Alike.refl U.vm) h.2.1.2.1, ⟨va_AO.moved (u := U) (Vm.Alike.refl U.vm) h.2.1.2.2.1.1, va_AO.moved (u := U) (Vm.Alike.refl U.vm) h.2.1.2.2.1.2⟩, fun w hw => nw_warm (s := U) hw (State.WarmedH.refl U) (h.2.1.2.2.2 w hw)⟩, h.2.2⟩
theorem k_M_pc {D : va_G} {h0 : Nat} {A : Nat → Prop} : FrameBlind (va_Pc [.ref h0] (fun U => va_K D vwCl [] U ∧ va_P D vwCl [(h0, .inr (3, [.int 0, .int 0, .null, .null, .null, .null]))] U.heap ∧ A h0 ∧ ∀ z : Nat, U.heap.size ≤ z → A z)) := fun _ U _ _ h => ⟨h.1, va_K.moved (u := U) (Vm.Alike.refl U.vm) h.2.1, h.2.2⟩
theorem al_longs : Cond.arrayClass .long ∈ AL := al (by decide +kernel) rfl
set_option maxRecDepth 100000 in
set_option maxHeartbeats 4000000 in
theorem law_start {p : Program} {e : Env} {s : State} {m : MethodId} {below : List Frame} {meth : Method} {c : Code} (l : Launch) (hst9 : l.stackTraces = false) (hfl : FLn) (hfc : FLc) {b L : Nat} {xs : Nat → Int32} (hL9 : L ≤ 2048) (S : CallFix p m c cL_law 9 s (#[Value.ref b]) AL RL) (hts : ∀ w ∈ lw_tbl, w.before #[Value.ref b] s = true) (hXs : va_X b L xs s s.heap) (hbl : b < s.heap.size) (hgv : gvT.before #[Value.ref b] s = true) {Q : State → Prop} (hend : ∀ (H : Heap) (ls : Array Slot), W p l e room_1 s m #[Value.ref b] below meth c H [] 601024 7293034 Q (F0 m 1731 ls [.int 1])) : W p l e room_1 s m #[Value.ref b] below meth c s.heap [] 0 0 Q (entryFrame m ([Value.ref b] : List Value).toArray 9) := by
  obtain ⟨A, hAe⟩ : ∃ A : Nat → Prop, A = fun q : Nat => s.heap.size ≤ q := ⟨_, rfl⟩
  have hA : ∀ q : Nat, s.heap.size ≤ q → A q := fun q h => by rw [hAe]; exact h
  have hAn : ∀ q : Nat, q < s.heap.size → ¬ A q := fun q h => by rw [hAe]; exact Nat.not_le.mpr h
  have hbA : ¬ A b := hAn b hbl
  obtain ⟨ge, hge, hZ, hT1, hT2, hstr, hNW⟩ := st_all (A := A) hts hgv hAn
  obtain ⟨k0, iS0, hKn0⟩ := u_known (C := RX0) (T := TX0) (N := 6) (n := 6) hts inX0 (S.2.2.2.2 _ (al (List.mem_of_getElem? (i := 96) rfl) rfl))
  obtain ⟨k1, iS1, hKn1⟩ := u_known (C := RX1) (T := TX1) (N := 3) (n := 3) hts inX1 (S.2.2.2.2 _ (al (List.mem_of_getElem? (i := 77) rfl) rfl))
  obtain ⟨k2, iS2, hKn2⟩ := u_known (C := RX3) (T := TX3) (N := 8) (n := 8) hts inX3 (S.2.2.2.2 _ (al (List.mem_of_getElem? (i := 66) rfl) rfl))
  obtain ⟨k3, iS3, hKn3⟩ := u_known (C := RX4) (T := TX4) (N := 6) (n := 6) hts inX4 (S.2.2.2.2 _ (al (List.mem_of_getElem? (i := 613) rfl) rfl))
  obtain ⟨D, hKc⟩ : ∃ D : va_G, ∀ (k : Nat) (q : vw_C), vwCl[k]? = some q → u_Kn s q.1 q.2.1 q.2.2 (D.1 k) (D.2 k) := by
    refine ⟨(fun k => if k = 0 then k0 else if k = 1 then k1 else if k = 2 then k2 else k3, fun k => if k = 0 then iS0 else if k = 1 then iS1 else if k = 2 then iS2 else iS3), ?_⟩
    intro k q hq
    match k, hq with
    | 0, hq => cases hq; exact hKn0
    | 1, hq => cases hq; exact hKn1
    | 2, hq => cases hq; exact hKn2
    | 3, hq => cases hq; exact hKn3
    | k + 4, hq => simp [vwCl] at hq
  have hS : va_S A s.heap s.heap [] := va_S.rf
  have hK : va_K D vwCl [] s := ⟨hKc, fun k q h => by simp at h⟩
  have hP : va_P D vwCl [] s.heap := fun k q h => by simp at h
  have hD : va_D A [] := ⟨fun i j p q h => by simp at h, fun k q h => by simp at h⟩
  have hO1 : va_AO "PromiseShelves$Shelf" s := va_AO.of (hts _ st_o1)
  have hO2 : va_AO "PromiseShelves$Promise" s := va_AO.of (hts _ st_o2)
  have hl := lv_entry ([.ref b]) (n := 9) (Nat.le_of_ble_eq_true rfl)
  rw [lg_entry_eq]
  generalize (lg_sl ([.ref b]) ++ List.replicate (9 - (lg_sl ([.ref b])).length) Slot.unset).toArray = ls at hl ⊢
  have hl : lv_has ls 9 [(0, .ref b)] := hl
  refine va_new (D := D) (ci := 2) (fs := [.null, .null, .int 0, .int 0, .int 0, .int 0, .null, .null]) (C := RX3) (T := TX3) (N := 8) S.1 S.2.1 S.2.2.2.2 alX3 tyX3 tyX3_ok S.2.2.2.1 (S.2.2.2.2 _ (al (List.mem_of_getElem? (i := 65) rfl) rfl)) (S.2.2.2.2 _ (al (List.mem_of_getElem? (i := 66) rfl) rfl)) (S.2.2.2.2 _ (al (List.mem_of_getElem? (i := 51) rfl) rfl)) hK hP hD hS hA rfl (fun j hj => by rcases (show j = 0 ∨ j = 1 ∨ j = 2 ∨ j = 3 ∨ j = 4 ∨ j = 5 ∨ j = 6 ∨ j = 7 by omega) with rfl | rfl | rfl | rfl | rfl | rfl | rfl | rfl <;> rfl) (Nat.le_of_ble_eq_true rfl) (Nat.le_of_ble_eq_true rfl) dL_law_0 (fun q0 H hP hD hS => ?_)
  refine lv_dup S.1 S.2.1 dL_law_3 rfl ?_
  have hA0 : A q0 := hD.2 0 _ rfl
  refine va_callv (va_runI (As := []) (rest := [.ref q0]) S (k_X l D q0 (ge 0) A) (cwI 0 S.2.2.2.2 (g_C (al (List.mem_of_getElem? (i := 69) rfl) rfl)) rfl rfl rfl (S.2.2.2.2 _ (al (List.mem_of_getElem? (i := 51) rfl) rfl)) (S.2.2.2.2 _ (al (List.mem_of_getElem? (i := 67) rfl) rfl)) (S.2.2.2.2 _ (al (List.mem_of_getElem? (i := 68) rfl) rfl)) rfl (by decide +kernel) ⟨Nat.le_of_ble_eq_true rfl, Nat.le_of_ble_eq_true rfl⟩) ⟨k_X_pc, fun U hU hW => ⟨rfl, ⟨va_K.moved hW.alike hK, by rw [hU]; exact (va_Z.kept (hZ 0 (by decide)) hS.2.1).moved hW.alike, ⟨va_AO.moved hW.alike hO1, va_AO.moved hW.alike hO2⟩, fun w hw => nw_warm hw hW (hNW w hw)⟩, by rw [hU]; exact hP, hA0, fun z hz => hA z (Nat.le_trans hS.1 (by rw [hU] at hz; exact hz))⟩⟩ rfl rfl hl.1 rfl (lv_room (Nat.le_of_ble_eq_true rfl)) dL_law_4 ⟨Nat.le_of_ble_eq_true rfl, Nat.le_of_ble_eq_true rfl⟩) hS (fun _ _ h => h) (fun _ h => h) (fun u t H1 locs ht hvm hw hB hz1 hk1 hS => ?_)
  obtain ⟨hP9, hD, hK9⟩ := hB
  rw [ht] at hP9
  have hP : va_P D vwCl (xl q0 (ge 0) u.1.1 u.1.2 u.2.1.1 u.2.1.2.1 u.2.1.2.2.1 u.2.1.2.2.2 u.2.2.1 u.2.2.2 5 20 30) H1 := hP9
  have hK1 := va_K.moved hvm.symm hK9
  refine lv_astore_n (lv' := [(1, .ref q0), (0, .ref b)]) S.1 S.2.1 dL_law_7 rfl hl (by decide) rfl (fun ls hl => ?_)
  refine va_new (D := D) (ci := 3) (fs := [.int 0, .int 0, .null, .null, .null, .null]) (C := RX4) (T := TX4) (N := 6) S.1 S.2.1 S.2.2.2.2 alX4 tyX4 tyX4_ok S.2.2.2.1 (S.2.2.2.2 _ (al (List.mem_of_getElem? (i := 612) rfl) rfl)) (S.2.2.2.2 _ (al (List.mem_of_getElem? (i := 613) rfl) rfl)) (S.2.2.2.2 _ (al (List.mem_of_getElem? (i := 56) rfl) rfl)) hK hP hD hS hA rfl (fun j hj => by rcases (show j = 0 ∨ j = 1 ∨ j = 2 ∨ j = 3 ∨ j = 4 ∨ j = 5 by omega) with rfl | rfl | rfl | rfl | rfl | rfl <;> rfl) (Nat.le_of_ble_eq_true rfl) (Nat.le_of_ble_eq_true rfl) dL_law_8 (fun qm H hP hD hS => ?_)
  refine lv_dup S.1 S.2.1 dL_law_11 rfl ?_
  have hAm : ∀ z : Nat, (z = qm ∨ H.size ≤ z) → A z := fun z h => by
    rcases h with h | h
    · rw [h]; exact k_own hD qm rfl
    · exact hA z (Nat.le_trans hS.1 h)
  refine va_callv (va_runI (As := []) (rest := [.ref qm]) S (k_M l D qm (fun z => z = qm ∨ H.size ≤ z)) (cwI 0 S.2.2.2.2 (g_C (al (List.mem_of_getElem? (i := 616) rfl) rfl)) rfl rfl rfl (S.2.2.2.2 _ (al (List.mem_of_getElem? (i := 56) rfl) rfl)) (S.2.2.2.2 _ (al (List.mem_of_getElem? (i := 614) rfl) rfl)) (S.2.2.2.2 _ (al (List.mem_of_getElem? (i := 615) rfl) rfl)) rfl (by decide +kernel) ⟨Nat.le_of_ble_eq_true rfl, Nat.le_of_ble_eq_true rfl⟩) ⟨k_M_pc (A := fun z => z = qm ∨ H.size ≤ z), fun U hU hW => ⟨rfl, va_K.moved hW.alike hK, by rw [hU]; exact k_sub (A := A) hP, Or.inl rfl, fun z hz => Or.inr (by rw [hU] at hz; exact hz)⟩⟩ rfl rfl hl.1 rfl (lv_room (Nat.le_of_ble_eq_true rfl)) dL_law_12 ⟨Nat.le_of_ble_eq_true rfl, Nat.le_of_ble_eq_true rfl⟩) hS (fun z _ h => hAm z h) hAm (fun v t H2 locs ht hvm hw hB hz1 hk1 hS => ?_)
  obtain ⟨hP9, hD9, hK9⟩ := hB
  rw [ht] at hP9
  obtain ⟨hP, hD⟩ := k_join2 hP hD hAm hk1 hP9 hD9
  have hK2 := va_K.moved hvm.symm hK9
  refine lv_astore_n (lv' := [(2, .ref qm), (1, .ref q0), (0, .ref b)]) S.1 S.2.1 dL_law_15 rfl hl (by decide) rfl (fun ls hl => ?_)
  refine lv_iconst (v := 1) S.1 S.2.1 dL_law_16 (by decide) ?_
  refine va_newa (D := D) (atype := .long) (ty := .long) S.1 S.2.1 (S.2.2.2.2 _ al_longs) rfl hK hP hD hS hA (a0 := (1, .inr (.inl (fun _ => 0)))) (fun _ => rfl) (by decide) (by decide +kernel) (by decide) (Nat.le_of_ble_eq_true rfl) (Nat.le_of_ble_eq_true rfl) dL_law_17 (fun qo c8 H hK3 hP hD hS => ?_)
  refine lv_astore_n (lv' := [(3, .ref qo), (2, .ref qm), (1, .ref q0), (0, .ref b)]) S.1 S.2.1 dL_law_19 rfl hl (by decide) rfl (fun ls hl => ?_)
  refine lv_iconst (v := (nI 0)) S.1 S.2.1 dL_law_20 (by rfl) ?_
  refine lv_istore (lv' := [(4, .int (nI 0)), (3, .ref qo), (2, .ref qm), (1, .ref q0), (0, .ref b)]) S.1 S.2.1 dL_law_21 hl (by decide) rfl (fun ls hl => ?_)
  have hP : va_P D vwCl (W1 (ge 0) q0 u qm v qo c8) H := hP
  have hD : va_D A (W1 (ge 0) q0 u qm v qo c8) := hD
  have hEv : Ev (G0 D ge A q0 u qm v qo c8) s := ⟨⟨D0i hD, D0a hD, hge⟩, hA, (hK1.app hK2).app hK3, hZ, hT1, hT2, hstr, hNW⟩
  have hI : Iv (G0 D ge A q0 u qm v qo c8) sg0 s H locs := ⟨hEv, P0 rfl hP, hS⟩
  refine W.widen (k := 36 + 21 * 0) (n := 450 + 188 * 0) (Nat.le_of_ble_eq_true rfl) (Nat.le_of_ble_eq_true rfl) ?_
  refine law_loop (G := G0 D ge A q0 u qm v qo c8) hfl hfc hst9 S hXs hbl hbA hL9 ⟨Nat.le_of_ble_eq_true rfl, Nat.le_of_ble_eq_true rfl⟩ (Nat.le_of_ble_eq_true rfl) (Nat.le_of_ble_eq_true rfl) (fun σ9 H9 locs9 ls9 hI9 => ?_) 512 0 (by omega) sg0 _ _ ls rel0 hI (lv_sub hl [4, 3, 2, 1, 0] rfl)
  refine va_forget (fun q hq => ?_) ?_
  · have h9 : A q.base := hI9.2.2.2.2 q hq
    rw [hAe] at h9
    exact h9
  refine W.widen (k := 601024) (n := 7293034) (Nat.le_of_ble_eq_true rfl) (Nat.le_of_ble_eq_true rfl) ?_
  refine lv_iconst (v := 1) S.1 S.2.1 dL_law_1730 (by decide) ?_
  exact hend _ _
