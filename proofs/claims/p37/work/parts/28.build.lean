theorem g_SW {idx : Nat} {y : MethodName} {cc : ByteArray} {maxL : Nat} {ret : Option FieldType} {hh : List (Nat × Nat × Nat × Nat)} (h1 : Cond.methodLink RL idx y ∈ AL) (h2 : Cond.static y ∈ AL) (h4 : Cond.initialized y.cls ∈ AL) (h5 : Cond.codeWith y cc maxL ret hh ∈ AL) : GoodIn AL (va_wsS RL idx y (.codeWith y cc maxL ret hh :: AL)) := by
  intro w hw
  unfold va_wsS at hw
  rcases List.mem_append.mp hw with h | h
  · simp only [List.mem_cons, List.not_mem_nil, or_false] at h
    rcases h with rfl | rfl | rfl
    · exact ⟨h1, al_good h1⟩
    · exact ⟨h2, al_good h2⟩
    · exact ⟨h4, al_good h4⟩
  · rcases List.mem_cons.mp h with rfl | h
    · exact ⟨h5, al_good h5⟩
    · exact ⟨h, al_good h⟩
set_option maxRecDepth 100000 in
theorem cwl_act {R : Room} {s : State} {args : Array Value} (ht : ∀ w ∈ AL, w.before args s = true) (hR : 8 + 1 ≤ R.frames ∧ 8 + (9 + 11) + 36 * 8 ≤ R.locals) : vx_CSW R s args RL 68 yL_act cL_act 9 (some .boolean) [(36, 194, 498, 61), (195, 287, 498, 61), (288, 363, 498, 61), (364, 415, 498, 61), (416, 448, 498, 61), (449, 497, 498, 61)] (.codeWith yL_act cL_act 9 (some .boolean) [(36, 194, 498, 61), (195, 287, 498, 61), (288, 363, 498, 61), (364, 415, 498, 61), (416, 448, 498, 61), (449, 497, 498, 61)] :: AL) (rm 8 2 27) 2 27 3 :=
  vx_cwSW 3 ht (g_SW (al (List.mem_of_getElem? (i := 537) rfl) rfl) (al (List.mem_of_getElem? (i := 538) rfl) rfl) (al (List.mem_of_getElem? (i := 23) rfl) rfl) (al (List.mem_of_getElem? (i := 539) rfl) rfl)) rfl rfl rfl (by decide +kernel) hR
section ROWL
variable {p : Program} {l : Launch} {e : Env} {R : Room} {s : State} {m : MethodId} {args : Array Value} {below : List Frame} {meth : Method} {c : Code} {H : Heap} {locs : List Loc} {cells slots mc ms : Nat} {cc : ByteArray} {pc nL : Nat} {ls : Array Slot} {rest : List Value} {G : Gt} {ws : va_W}
theorem rwL {y : MethodName} {bytes : ByteArray} {maxL d n index : Nat} {ret : Option FieldType} {hx : List (Nat × Nat × Nat × Nat)} {As : List Value} {Qc : Array Value → State → Outcome → State → Prop} (S : CallFix p m c cc nL s args AL RL) (hJ : Jw G ws s H locs) (hM : CwL l G y bytes maxL ret hx d mc ms As ws Qc)
    (cw : vx_CSW R s args RL index y bytes maxL ret hx (.codeWith y bytes maxL ret hx :: AL) (rm d mc ms) mc ms n) (hn : As.length = n) (hsz : ls.size = nL) (hW : (rest.map fun v => v.category).sum ≤ 8)
    (hdg : decode cc pc = .ok (.invokestatic index, 3)) (hf : cells + mc ≤ R.cells ∧ slots + ms ≤ R.slots) :
    va_Run p l e R s m args below meth c H locs cells slots mc ms (F0 m pc ls (As.reverse ++ rest)) rest (Qc As.toArray) (gA G) :=
  vx_runSW S hM cw ⟨ww_pc, fun _ hU hWm => ⟨rfl, ww_at hJ hU hWm⟩⟩ rfl hn hsz rfl (lv_room hW) hdg hf
end ROWL
set_option maxRecDepth 100000 in
set_option maxHeartbeats 4000000 in
theorem k_build (l : Launch) (hst9 : l.stackTraces = false) (G : Gt) {σ : St} (hp0 : Pct σ (0, 1, 0, s18, s18, 0, fun _ => (0, 0, 0, 0, 0, 0, 0))) : Cw l G yL_build cL_build 6 (some (.object "PromiseShelvesLaw$Sim")) 9 50 600 [.ref (gB G 0), .ref (gE G 6)] (wl G σ) (Uq G (fun r ws' => ∃ (σ' : St) (q0 q1 q2 q3 : Nat) (aR : Nat → Nat) (hh pw ar : Int32) (st ht : Nat → Int32) (n : Nat) (row : Nat → Z7), r = some q0 ∧ ws' = fw G σ' ((q0, q1, q2, q3), aR) (hh, pw, ar, st, ht, n, row) [] ∧ Pct σ' (hh, pw, ar, st, ht, n, row))) := by
  refine mw_intro (by decide +kernel) (Nat.le_of_ble_eq_true rfl) ?_
  intro p e s m below meth c S hr hlk hnm hJ ls hl
  have hl : lv_has ls 6 [(0, .ref (gB G 0)), (1, .ref (gE G 6))] := hl
  refine va_new (D := gD G) (ci := 3) (fs := [.int 0, .int 0, .int 0, .null, .null, .null]) (C := RX4) (T := TX4) (N := 6) S.1 S.2.1 S.2.2.2.2 alX4 tyX4 tyX4_ok S.2.2.2.1 (S.2.2.2.2 _ (al (List.mem_of_getElem? (i := 571) rfl) rfl)) (S.2.2.2.2 _ (al (List.mem_of_getElem? (i := 572) rfl) rfl)) (S.2.2.2.2 _ (al (List.mem_of_getElem? (i := 29) rfl) rfl)) hJ.K hJ.2.1 hJ.2.2.1 hJ.2.2.2 hJ.hA rfl (fun j hj => by rcases (show j = 0 ∨ j = 1 ∨ j = 2 ∨ j = 3 ∨ j = 4 ∨ j = 5 by omega) with rfl | rfl | rfl | rfl | rfl | rfl <;> rfl) (Nat.le_of_ble_eq_true rfl) (Nat.le_of_ble_eq_true rfl) dL_build_0 (fun q0 H hP hD hS => ?_)
  have hJ : Jw G (wl G σ ++ [(q0, .inr (3, [.int 0, .int 0, .int 0, .null, .null, .null]))]) s H [] := ⟨hJ.1, hP, hD, hS⟩
  refine lv_dup S.1 S.2.1 dL_build_3 rfl ?_
  refine dw_v hJ (va_runIN (As := []) (rest := [.ref q0]) S (k_init l G q0) ⟨va_cnB 0 S.2.2.2.2 (g_C (al (List.mem_of_getElem? (i := 575) rfl) rfl)) rfl rfl rfl (hJ.1.2.2.2.2.2.2.2 _ (List.mem_filter.mpr ⟨List.mem_of_getElem? (i := 573) rfl, rfl⟩)) (S.2.2.2.2 _ (al (List.mem_of_getElem? (i := 29) rfl) rfl)) (by decide +kernel) ⟨Nat.le_of_ble_eq_true rfl, Nat.le_of_ble_eq_true rfl⟩, rfl, (S.2.2.2.2 _ (al (List.mem_of_getElem? (i := 574) rfl) rfl))⟩ ⟨ww_pc, fun U hU hW => ⟨rfl, ww_at hJ hU hW⟩⟩ rfl rfl hl.1 rfl (lv_room (Nat.le_of_ble_eq_true rfl)) dL_build_4 ⟨Nat.le_of_ble_eq_true rfl, Nat.le_of_ble_eq_true rfl⟩) (fun ws0 H locs hq0 hJ => ?_)
  obtain ⟨q1, q2, q3, hw0⟩ := hq0
  subst hw0
  have loop : ∀ (kb : Nat), kb < 16 → ∀ (n9 k : Nat) (σ : St) (q3 : Nat) (aR : Nat → Nat) (hh pw ar : Int32) (st ht : Nat → Int32) (n : Nat) (row : Nat → Z7), k + n9 = 6 + kb → Pct σ (hh, pw, ar, st, ht, n, row) → ∀ (H : Heap) (locs : List Loc), Jw G (fw G σ ((q0, q1, q2, q3), aR) (hh, pw, ar, st, ht, n, row) []) s H locs → ∀ ls : Array Slot, lv_has ls 6 [(0, .ref (gB G 0)), (1, .ref (gE G 6)), (2, .ref q0), (3, .int (nI (6 + kb))), (4, .int (nI k))] → W p l e (rm 9 50 600) s m ([.ref (gB G 0), .ref (gE G 6)] : List Value).toArray below meth c H locs (4 + 2 * k) (16 + 27 * k) (MQ below (Uq G (fun r ws' => ∃ (σ' : St) (q0 q1 q2 q3 : Nat) (aR : Nat → Nat) (hh pw ar : Int32) (st ht : Nat → Int32) (n : Nat) (row : Nat → Z7), r = some q0 ∧ ws' = fw G σ' ((q0, q1, q2, q3), aR) (hh, pw, ar, st, ht, n, row) [] ∧ Pct σ' (hh, pw, ar, st, ht, n, row))) ([.ref (gB G 0), .ref (gE G 6)] : List Value).toArray s 50 600 (gA G)) (F0 m 25 ls []) := by
    intro kb hkb n9
    induction n9 with
    | zero =>
      intro k σ q3 aR hh pw ar st ht n row hk0 hp H locs hJ ls hl
      obtain rfl : k = 6 + kb := by omega
      refine lv_iload S.1 S.2.1 dL_build_25 (lv_at hl 4 rfl) ?_
      refine lv_iload_n S.1 S.2.1 dL_build_27 rfl (lv_at hl 3 rfl) ?_
      refine lv_icmp_ge (tgt := 90) S.1 S.2.1 dL_build_28 (by decide) (fun cz_28 => ?_) (fun c9 => absurd (nI_le (Nat.le_refl (6 + kb)) (by omega)) c9)
      refine lv_aload_n S.1 S.2.1 dL_build_90 rfl (lv_at hl 2 rfl) ?_
      exact yt_a S hJ hr hlk (⟨_, _, _, _, _, _, _, _, _, _, _, _, _, rfl, rfl, hp⟩) (by omega) (by omega) dL_build_91
    | succ n9 ih =>
      intro k σ q3 aR hh pw ar st ht n row hk0 hp H locs hJ ls hl
      have hk2 : k < 6 + kb := by omega
      refine lv_iload S.1 S.2.1 dL_build_25 (lv_at hl 4 rfl) ?_
      refine lv_iload_n S.1 S.2.1 dL_build_27 rfl (lv_at hl 3 rfl) ?_
      refine lv_icmp_ge (tgt := 90) S.1 S.2.1 dL_build_28 (by decide) (fun c9 => absurd c9 (nI_ge hk2 (by omega))) (fun cz_28 => ?_)
      refine lv_aload_n S.1 S.2.1 dL_build_31 rfl (lv_at hl 1 rfl) ?_
      refine lv_iconst (v := 1) S.1 S.2.1 dL_build_32 (by decide) ?_
      refine lv_iload S.1 S.2.1 dL_build_33 (lv_at hl 4 rfl) ?_
      refine lv_bipush (v := (nI 15)) S.1 S.2.1 dL_build_35 (by rfl) ?_
      refine lv_irem S.1 S.2.1 dL_build_37 (by decide) ?_
      rw [show ((nI k) - (nI k) / (nI 15) * (nI 15)) = (nI (k % 15)) from nI_rem (by omega) (by omega)]
      refine lv_iadd S.1 S.2.1 dL_build_38 ?_
      rw [show (1 + (nI (k % 15))) = (nI (1 + k % 15)) from nI_add 1 (k % 15)]
      refine dw_i hJ (rwS (As := [.ref (gE G 6), .int (nI (1 + k % 15))]) (rest := []) S hJ (k_cell l G (k := (1 + k % 15)) (by omega)) (cw_L_L_cell S.2.2.2.2 ⟨Nat.le_of_ble_eq_true rfl, Nat.le_of_ble_eq_true rfl⟩) rfl hl.1 (Nat.le_of_ble_eq_true rfl) dL_build_39 ⟨by show _ ≤ 50; omega, by show _ ≤ 600; omega⟩) (fun r1 ws1 H locs hq1 hJ => ?_)
      subst hq1
      refine lv_iload S.1 S.2.1 dL_build_42 (lv_at hl 4 rfl) ?_
      refine lv_bipush (v := (nI 15)) S.1 S.2.1 dL_build_44 (by rfl) ?_
      refine lv_idiv S.1 S.2.1 dL_build_46 (by decide) ?_
      refine lv_iconst (v := 3) S.1 S.2.1 dL_build_47 (by decide) ?_
      refine lv_imul S.1 S.2.1 dL_build_48 ?_
      refine lv_ishr S.1 S.2.1 dL_build_49 ?_
      refine lv_istore (lv' := [(5, .int (r1 >>> ((((nI k) / (nI 15)) * 3) &&& 31))), (0, .ref (gB G 0)), (1, .ref (gE G 6)), (2, .ref q0), (3, .int (nI (6 + kb))), (4, .int (nI k))]) S.1 S.2.1 dL_build_50 hl (by decide) rfl (fun ls hl => ?_)
      refine lv_aload_n S.1 S.2.1 dL_build_52 rfl (lv_at hl 1 rfl) ?_
      refine lv_aload_n S.1 S.2.1 dL_build_53 rfl (lv_at hl 3 rfl) ?_
      refine lv_iload S.1 S.2.1 dL_build_54 (lv_at hl 5 rfl) ?_
      refine lv_iconst (v := 3) S.1 S.2.1 dL_build_56 (by decide) ?_
      refine lv_irem S.1 S.2.1 dL_build_57 (by decide) ?_
      refine lv_if_ne (tgt := 74) S.1 S.2.1 dL_build_58 (by decide) (fun cz_58 => ?_) (fun cz_58 => ?_)
      · refine lv_iload S.1 S.2.1 dL_build_74 (lv_at hl 0 rfl) ?_
        refine dw_i hJ (rwL (As := [.ref (gB G 0), .ref q0, .int (r1 >>> ((((nI k) / (nI 15)) * 3) &&& 31))]) (rest := []) S hJ (k_act l hst9 G hp (r1 >>> ((((nI k) / (nI 15)) * 3) &&& 31))) (cwl_act S.2.2.2.2 ⟨Nat.le_of_ble_eq_true rfl, Nat.le_of_ble_eq_true rfl⟩) rfl hl.1 (Nat.le_of_ble_eq_true rfl) dL_build_76 ⟨by show _ ≤ 50; omega, by show _ ≤ 600; omega⟩) (fun r2 ws2 H locs hq2 hJ => ?_)
        obtain ⟨hr2, σA, q3A, aRA, hhA, pwA, arA, stA, htA, nA, rowA, hw2, hpA⟩ := hq2
        subst hw2
        rw [hr2]
        refine lv_if_ne (tgt := 84) S.1 S.2.1 dL_build_79 (by decide) (fun cz_79 => ?_) (fun c9 => absurd c9 (by decide))
        refine lv_iinc (v := (nI (k + 1))) (lv' := [(4, .int (nI (k + 1))), (5, .int (r1 >>> ((((nI k) / (nI 15)) * 3) &&& 31))), (0, .ref (gB G 0)), (1, .ref (gE G 6)), (2, .ref q0), (3, .int (nI (6 + kb)))]) S.1 S.2.1 dL_build_84 hl (k := 5) rfl (nI_1 k) (by decide) rfl (fun ls hl => ?_)
        refine lv_goto (tgt := 25) S.1 S.2.1 dL_build_87 (by decide) ?_
        refine W.widen (k := 4 + 2 * (k + 1)) (n := 16 + 27 * (k + 1)) (by omega) (by omega) ?_
        exact ih (k + 1) _ _ _ _ _ _ _ _ _ _ (by omega) hpA _ _ hJ ls (lv_sub hl [2, 3, 4, 5, 0] rfl)
      · refine lv_iload S.1 S.2.1 dL_build_61 (lv_at hl 0 rfl) ?_
        refine lv_iload S.1 S.2.1 dL_build_63 (lv_at hl 0 rfl) ?_
        refine lv_bipush (v := (nI 15)) S.1 S.2.1 dL_build_65 (by rfl) ?_
        refine dw_i hJ (rwS (As := [.int (r1 >>> ((((nI k) / (nI 15)) * 3) &&& 31)), .int (nI 15)]) (rest := [.int (r1 >>> ((((nI k) / (nI 15)) * 3) &&& 31)), .ref q0, .ref (gB G 0)]) S hJ (k_below l G (r1 >>> ((((nI k) / (nI 15)) * 3) &&& 31)) (N := 15) (by decide) (by decide)) (cw_L_L_below S.2.2.2.2 ⟨Nat.le_of_ble_eq_true rfl, Nat.le_of_ble_eq_true rfl⟩) rfl hl.1 (Nat.le_of_ble_eq_true rfl) dL_build_67 ⟨by show _ ≤ 50; omega, by show _ ≤ 600; omega⟩) (fun r3 ws3 H locs hq3 hJ => ?_)
        obtain ⟨⟨kx, hkx, hr3⟩, hw3⟩ := hq3
        subst hw3
        rw [hr3]
        refine lv_isub S.1 S.2.1 dL_build_70 ?_
        refine lv_goto (tgt := 76) S.1 S.2.1 dL_build_71 (by decide) ?_
        refine dw_i hJ (rwL (As := [.ref (gB G 0), .ref q0, .int ((r1 >>> ((((nI k) / (nI 15)) * 3) &&& 31)) - (nI kx))]) (rest := []) S hJ (k_act l hst9 G hp ((r1 >>> ((((nI k) / (nI 15)) * 3) &&& 31)) - (nI kx))) (cwl_act S.2.2.2.2 ⟨Nat.le_of_ble_eq_true rfl, Nat.le_of_ble_eq_true rfl⟩) rfl hl.1 (Nat.le_of_ble_eq_true rfl) dL_build_76 ⟨by show _ ≤ 50; omega, by show _ ≤ 600; omega⟩) (fun r4 ws4 H locs hq4 hJ => ?_)
        obtain ⟨hr4, σA, q3A, aRA, hhA, pwA, arA, stA, htA, nA, rowA, hw4, hpA⟩ := hq4
        subst hw4
        rw [hr4]
        refine lv_if_ne (tgt := 84) S.1 S.2.1 dL_build_79 (by decide) (fun cz_79 => ?_) (fun c9 => absurd c9 (by decide))
        refine lv_iinc (v := (nI (k + 1))) (lv' := [(4, .int (nI (k + 1))), (5, .int (r1 >>> ((((nI k) / (nI 15)) * 3) &&& 31))), (0, .ref (gB G 0)), (1, .ref (gE G 6)), (2, .ref q0), (3, .int (nI (6 + kb)))]) S.1 S.2.1 dL_build_84 hl (k := 5) rfl (nI_1 k) (by decide) rfl (fun ls hl => ?_)
        refine lv_goto (tgt := 25) S.1 S.2.1 dL_build_87 (by decide) ?_
        refine W.widen (k := 4 + 2 * (k + 1)) (n := 16 + 27 * (k + 1)) (by omega) (by omega) ?_
        exact ih (k + 1) _ _ _ _ _ _ _ _ _ _ (by omega) hpA _ _ hJ ls (lv_sub hl [2, 3, 4, 5, 0] rfl)
  refine lv_astore_n (lv' := [(2, .ref q0), (0, .ref (gB G 0)), (1, .ref (gE G 6))]) S.1 S.2.1 dL_build_7 rfl hl (by decide) rfl (fun ls hl => ?_)
  refine lv_bipush (v := 6) S.1 S.2.1 dL_build_8 (by decide) ?_
  refine lv_aload_n S.1 S.2.1 dL_build_10 rfl (lv_at hl 2 rfl) ?_
  refine lv_iconst (v := (nI 0)) S.1 S.2.1 dL_build_11 (by rfl) ?_
  refine dw_i hJ (rwS (As := [.ref (gE G 6), .int (nI 0)]) (rest := [.int 6]) S hJ (k_cell l G (k := 0) (by omega)) (cw_L_L_cell S.2.2.2.2 ⟨Nat.le_of_ble_eq_true rfl, Nat.le_of_ble_eq_true rfl⟩) rfl hl.1 (Nat.le_of_ble_eq_true rfl) dL_build_12 ⟨Nat.le_of_ble_eq_true rfl, Nat.le_of_ble_eq_true rfl⟩) (fun r5 ws5 H locs hq5 hJ => ?_)
  subst hq5
  refine lv_bipush (v := (nI 16)) S.1 S.2.1 dL_build_15 (by rfl) ?_
  refine dw_i hJ (rwS (As := [.int r5, .int (nI 16)]) (rest := [.int 6]) S hJ (k_below l G r5 (N := 16) (by decide) (by decide)) (cw_L_L_below S.2.2.2.2 ⟨Nat.le_of_ble_eq_true rfl, Nat.le_of_ble_eq_true rfl⟩) rfl hl.1 (Nat.le_of_ble_eq_true rfl) dL_build_17 ⟨Nat.le_of_ble_eq_true rfl, Nat.le_of_ble_eq_true rfl⟩) (fun r6 ws6 H locs hq6 hJ => ?_)
  obtain ⟨⟨kb, hkb, hr6⟩, hw6⟩ := hq6
  subst hw6
  rw [hr6]
  refine lv_iadd S.1 S.2.1 dL_build_20 ?_
  rw [show (6 + (nI kb)) = (nI (6 + kb)) from nI_add 6 kb]
  refine lv_istore_n (lv' := [(3, .int (nI (6 + kb))), (2, .ref q0), (0, .ref (gB G 0)), (1, .ref (gE G 6))]) S.1 S.2.1 dL_build_21 rfl hl (by decide) rfl (fun ls hl => ?_)
  refine lv_iconst (v := (nI 0)) S.1 S.2.1 dL_build_22 (by rfl) ?_
  refine lv_istore (lv' := [(4, .int (nI 0)), (3, .int (nI (6 + kb))), (2, .ref q0), (0, .ref (gB G 0)), (1, .ref (gE G 6))]) S.1 S.2.1 dL_build_23 hl (by decide) rfl (fun ls hl => ?_)
  refine W.widen (k := 4 + 2 * 0) (n := 16 + 27 * 0) (Nat.le_of_ble_eq_true rfl) (Nat.le_of_ble_eq_true rfl) ?_
  exact loop kb hkb (6 + kb) 0 _ _ _ _ _ _ _ _ _ _ (by omega) hp0 _ _ hJ ls (lv_sub hl [3, 4, 2, 1, 0] rfl)
