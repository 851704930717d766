section LCD
variable {p : Program} {l : Launch} {e : Env} {R : Room} {s : State} {m : MethodId} {args : Array Value} {below : List Frame} {meth : Method} {c : Code} {H : Heap} {locs : List Loc} {cells slots : Nat} {Q : State → Prop}
variable {ls : Array Slot} {G : Gt} {σ : St} {b L j : Nat} {xs : Nat → Int32}
set_option maxRecDepth 100000 in
set_option maxHeartbeats 4000000 in
theorem lc_digest (hst9 : l.stackTraces = false) (S : CallFix p m c cL_law 9 s args AL RL) (hI : Iv G σ s H locs) (hl : lv_has ls 9 [(0, .ref b), (1, .ref (gB G 0)), (2, .ref (gB G 3)), (3, .ref (gB G 8)), (4, .int (nI j))]) (hR9 : Rel σ) (hF9 : 12 ≤ R.frames ∧ 440 ≤ R.locals) (hC9 : cells + 21 ≤ R.cells) (hS9 : slots + 188 ≤ R.slots) (kont : Kont p l e R s m args below meth c (cells + 21) (slots + 188) Q G b j) : W p l e R s m args below meth c H locs cells slots Q (F0 m 1710 ls []) := by
  obtain ⟨n, th, mk, lf, nw, kp, hX, hM, hpic⟩ := hR9
  have hX4 : gX σ = (nI n, (gX σ).2.1, (gX σ).2.2.1, (gX σ).2.2.2) := by rw [← hX]
  refine lv_aload_n S.1 S.2.1 dL_law_1710 rfl (lv_at hl 1 rfl) ?_
  refine cl_l hI (rnV (As := []) (rest := []) S hI (c_digest l G σ hpic.ok hpic.1 hX4 hpic.2.2.1) (cw_L_X3_digest S.2.2.2.2 ⟨by omega, by omega⟩) (rcX hI) rfl hl.1 (Nat.le_of_ble_eq_true rfl) dL_law_1711 ⟨by omega, by omega⟩) (fun r1 σ1 H locs hq1 hI => ?_)
  obtain ⟨hr1, ht1⟩ := hq1
  refine lv_aload_n S.1 S.2.1 dL_law_1714 rfl (lv_at hl 2 rfl) ?_
  refine cl_l hI (rnV (As := []) (rest := [.long r1]) S hI (m_digest l G σ1 (show gM σ1 = _ from (congrArg (fun z => z.1) ht1.M).trans hM) hpic) (cw_L_X4_digest S.2.2.2.2 ⟨by omega, by omega⟩) (rcM hI) rfl hl.1 (Nat.le_of_ble_eq_true rfl) dL_law_1715 ⟨by omega, by omega⟩) (fun r2 σ2 H locs hq2 hI => ?_)
  obtain ⟨hr2, mk2, lf2, nw2, kp2, rfl, hp2⟩ := hq2
  rw [hr1, hr2]
  refine lw_lcmp S.1 S.2.1 dL_law_1718 ?_
  refine lv_if_eq (tgt := 1724) S.1 S.2.1 dL_law_1719 (by decide) (fun _ => ?_) (fun c9 => absurd rfl c9)
  exact kont (setM σ1 (0, nI n, mk2, lf2, nw2, kp2)) _ _ _ ⟨n, 0, mk2, lf2, nw2, kp2, (congrArg (fun z => z.1) ht1.X).trans hX, rfl, hp2.cong (fun k hk => ht1.S hk) (fun q hq => ht1.P hq) (congrArg (fun z => z.2) ht1.X)⟩ hI hl
theorem nI_4 (j : Nat) : nI j + 4 = nI (j + 4) := by rw [nI_succ (j + 3), nI_succ (j + 2), nI_succ (j + 1), nI_succ j, Int32.add_assoc, Int32.add_assoc, Int32.add_assoc]; rfl
theorem and63 (x : Int32) : ∃ k, k < 64 ∧ x &&& 63 = nI k := by
  obtain ⟨k, hk, h⟩ := pk_andE x (m := 63) 6 (by decide)
  exact ⟨k, hk, h⟩
set_option maxRecDepth 100000 in
set_option maxHeartbeats 4000000 in
theorem law_case (hfl : FLn) (hfc : FLc) (hst9 : l.stackTraces = false) (S : CallFix p m c cL_law 9 s args AL RL) (hI : Iv G σ s H locs) (hl : lv_has ls 9 [(0, .ref b), (1, .ref (gB G 0)), (2, .ref (gB G 3)), (3, .ref (gB G 8)), (4, .int (nI j))]) (hXs : va_X b L xs s s.heap) (hbl : b < s.heap.size) (hbA : ¬ gA G b) (hj9 : j + 3 < L) (hL9 : L ≤ 2048) (hR9 : Rel σ) (hF9 : 12 ≤ R.frames ∧ 440 ≤ R.locals) (hC9 : cells + 21 ≤ R.cells) (hS9 : slots + 188 ≤ R.slots) (kont : Kont p l e R s m args below meth c (cells + 21) (slots + 188) Q G b j) : W p l e R s m args below meth c H locs cells slots Q (F0 m 32 ls []) := by
  have kont1 : Kont p l e R s m args below meth c (cells + 1) (slots + 6) Q G b j := fun a1 a2 a3 a4 a5 a6 a7 => W.widen (by omega) (by omega) (kont a1 a2 a3 a4 a5 a6 a7)
  have kont0 : Kont p l e R s m args below meth c cells slots Q G b j := fun a1 a2 a3 a4 a5 a6 a7 => W.widen (by omega) (by omega) (kont a1 a2 a3 a4 a5 a6 a7)
  refine lv_aload_n S.1 S.2.1 dL_law_32 rfl (lv_at hl 0 rfl) ?_
  refine lv_iload S.1 S.2.1 dL_law_33 (lv_at hl 4 rfl) ?_
  refine sc_at S hI hXs hbl hbA (j := j) (by omega) hL9 dL_law_35 ?_
  refine lv_bipush (v := 63) S.1 S.2.1 dL_law_36 (by decide) ?_
  refine lv_iand S.1 S.2.1 dL_law_38 ?_
  obtain ⟨k9, hk9, e9⟩ := and63 (xs j)
  rw [e9]
  rcases Nat.lt_or_ge k9 34 with h34 | h34
  · rcases (show k9 = 0 ∨ k9 = 1 ∨ k9 = 2 ∨ k9 = 3 ∨ k9 = 4 ∨ k9 = 5 ∨ k9 = 6 ∨ k9 = 7 ∨ k9 = 8 ∨ k9 = 9 ∨ k9 = 10 ∨ k9 = 11 ∨ k9 = 12 ∨ k9 = 13 ∨ k9 = 14 ∨ k9 = 15 ∨ k9 = 16 ∨ k9 = 17 ∨ k9 = 18 ∨ k9 = 19 ∨ k9 = 20 ∨ k9 = 21 ∨ k9 = 22 ∨ k9 = 23 ∨ k9 = 24 ∨ k9 = 25 ∨ k9 = 26 ∨ k9 = 27 ∨ k9 = 28 ∨ k9 = 29 ∨ k9 = 30 ∨ k9 = 31 ∨ k9 = 32 ∨ k9 = 33 by omega) with rfl | rfl | rfl | rfl | rfl | rfl | rfl | rfl | rfl | rfl | rfl | rfl | rfl | rfl | rfl | rfl | rfl | rfl | rfl | rfl | rfl | rfl | rfl | rfl | rfl | rfl | rfl | rfl | rfl | rfl | rfl | rfl | rfl | rfl
    · refine lv_tableIn (tgt := 188) (off := 149) S.1 S.2.1 dL_law_39 (by decide) (by decide) (by rfl) (by decide) ?_
      exact lc_make hst9 S hI hl hXs hbl hbA hj9 hL9 hR9 hF9 (by omega) (by omega) kont1
    · refine lv_tableIn (tgt := 268) (off := 229) S.1 S.2.1 dL_law_39 (by decide) (by decide) (by rfl) (by decide) ?_
      exact lc_move hst9 S hI hl hXs hbl hbA hj9 hL9 hR9 hF9 (by omega) (by omega) kont1
    · refine lv_tableIn (tgt := 336) (off := 297) S.1 S.2.1 dL_law_39 (by decide) (by decide) (by rfl) (by decide) ?_
      exact lc_keep hst9 S hI hl hXs hbl hbA hj9 hL9 hR9 hF9 (by omega) (by omega) kont1
    · refine lv_tableIn (tgt := 392) (off := 353) S.1 S.2.1 dL_law_39 (by decide) (by decide) (by rfl) (by decide) ?_
      exact lc_set hst9 S hI hl hXs hbl hbA hj9 hL9 hR9 hF9 (by omega) (by omega) kont1
    · refine lv_tableIn (tgt := 460) (off := 421) S.1 S.2.1 dL_law_39 (by decide) (by decide) (by rfl) (by decide) ?_
      exact lc_switchPower hst9 S hI hl hR9 hF9 (by omega) (by omega) kont0
    · refine lv_tableIn (tgt := 473) (off := 434) S.1 S.2.1 dL_law_39 (by decide) (by decide) (by rfl) (by decide) ?_
      exact lc_pass hst9 S hI hl hXs hbl hbA hj9 hL9 hR9 hF9 (by omega) (by omega) kont1
    · refine lv_tableIn (tgt := 529) (off := 490) S.1 S.2.1 dL_law_39 (by decide) (by decide) (by rfl) (by decide) ?_
      exact lc_hour hst9 S hI hl hR9 hF9 (by omega) (by omega) kont0
    · refine lv_tableIn (tgt := 542) (off := 503) S.1 S.2.1 dL_law_39 (by decide) (by decide) (by rfl) (by decide) ?_
      exact lc_hasPower hst9 S hI hl hR9 hF9 (by omega) (by omega) kont0
    · refine lv_tableIn (tgt := 555) (off := 516) S.1 S.2.1 dL_law_39 (by decide) (by decide) (by rfl) (by decide) ?_
      exact lc_settingOf hst9 S hI hl hXs hbl hbA hj9 hL9 hR9 hF9 (by omega) (by omega) kont1
    · refine lv_tableIn (tgt := 611) (off := 572) S.1 S.2.1 dL_law_39 (by decide) (by decide) (by rfl) (by decide) ?_
      exact lc_heatOn hst9 S hI hl hXs hbl hbA hj9 hL9 hR9 hF9 (by omega) (by omega) kont1
    · refine lv_tableIn (tgt := 667) (off := 628) S.1 S.2.1 dL_law_39 (by decide) (by decide) (by rfl) (by decide) ?_
      exact lc_promisesOn hst9 S hI hl hXs hbl hbA hj9 hL9 hR9 hF9 (by omega) (by omega) kont1
    · refine lv_tableIn (tgt := 723) (off := 684) S.1 S.2.1 dL_law_39 (by decide) (by decide) (by rfl) (by decide) ?_
      exact lc_coldest hst9 S hI hl hR9 hF9 (by omega) (by omega) kont0
    · refine lv_tableIn (tgt := 736) (off := 697) S.1 S.2.1 dL_law_39 (by decide) (by decide) (by rfl) (by decide) ?_
      exact lc_alarms hst9 S hI hl hR9 hF9 (by omega) (by omega) kont0
    · refine lv_tableIn (tgt := 749) (off := 710) S.1 S.2.1 dL_law_39 (by decide) (by decide) (by rfl) (by decide) ?_
      exact lc_promises hst9 S hI hl hR9 hF9 (by omega) (by omega) kont0
    · refine lv_tableIn (tgt := 762) (off := 723) S.1 S.2.1 dL_law_39 (by decide) (by decide) (by rfl) (by decide) ?_
      exact lc_makerOf hst9 S hI hl hXs hbl hbA hj9 hL9 hR9 hF9 (by omega) (by omega) kont1
    · refine lv_tableIn (tgt := 818) (off := 779) S.1 S.2.1 dL_law_39 (by decide) (by decide) (by rfl) (by decide) ?_
      exact lc_shelfOf hst9 S hI hl hXs hbl hbA hj9 hL9 hR9 hF9 (by omega) (by omega) kont1
    · refine lv_tableIn (tgt := 874) (off := 835) S.1 S.2.1 dL_law_39 (by decide) (by decide) (by rfl) (by decide) ?_
      exact lc_heatOf hst9 S hI hl hXs hbl hbA hj9 hL9 hR9 hF9 (by omega) (by omega) kont1
    · refine lv_tableIn (tgt := 930) (off := 891) S.1 S.2.1 dL_law_39 (by decide) (by decide) (by rfl) (by decide) ?_
      exact lc_ageOf hst9 S hI hl hXs hbl hbA hj9 hL9 hR9 hF9 (by omega) (by omega) kont1
    · refine lv_tableIn (tgt := 986) (off := 947) S.1 S.2.1 dL_law_39 (by decide) (by decide) (by rfl) (by decide) ?_
      exact lc_hoursLeft hst9 S hI hl hXs hbl hbA hj9 hL9 hR9 hF9 (by omega) (by omega) kont1
    · refine lv_tableIn (tgt := 1042) (off := 1003) S.1 S.2.1 dL_law_39 (by decide) (by decide) (by rfl) (by decide) ?_
      exact lc_isFrozen hst9 S hI hl hXs hbl hbA hj9 hL9 hR9 hF9 (by omega) (by omega) kont1
    · refine lv_tableIn (tgt := 1105) (off := 1066) S.1 S.2.1 dL_law_39 (by decide) (by decide) (by rfl) (by decide) ?_
      exact lc_isThawed hst9 S hI hl hXs hbl hbA hj9 hL9 hR9 hF9 (by omega) (by omega) kont1
    · refine lv_tableIn (tgt := 1168) (off := 1129) S.1 S.2.1 dL_law_39 (by decide) (by decide) (by rfl) (by decide) ?_
      exact lc_isKept hst9 S hI hl hXs hbl hbA hj9 hL9 hR9 hF9 (by omega) (by omega) kont1
    · refine lv_tableIn (tgt := 1231) (off := 1192) S.1 S.2.1 dL_law_39 (by decide) (by decide) (by rfl) (by decide) ?_
      exact lc_isExpired hst9 S hI hl hXs hbl hbA hj9 hL9 hR9 hF9 (by omega) (by omega) kont1
    · refine lv_tableIn (tgt := 1294) (off := 1255) S.1 S.2.1 dL_law_39 (by decide) (by decide) (by rfl) (by decide) ?_
      exact lc_owedBy hst9 S hI hl hXs hbl hbA hj9 hL9 hR9 hF9 (by omega) (by omega) kont1
    · refine lv_tableIn (tgt := 1350) (off := 1311) S.1 S.2.1 dL_law_39 (by decide) (by decide) (by rfl) (by decide) ?_
      exact lc_honourOf hst9 S hI hl hXs hbl hbA hj9 hL9 hR9 hF9 (by omega) (by omega) kont1
    · refine lv_tableIn (tgt := 1406) (off := 1367) S.1 S.2.1 dL_law_39 (by decide) (by decide) (by rfl) (by decide) ?_
      exact lc_mostHonourable hst9 S hI hl hR9 hF9 (by omega) (by omega) kont0
    · refine lv_tableIn (tgt := 1419) (off := 1380) S.1 S.2.1 dL_law_39 (by decide) (by decide) (by rfl) (by decide) ?_
      exact lc_hoursUntilFrozen hst9 S hI hl hXs hbl hbA hj9 hL9 hR9 hF9 (by omega) (by omega) kont1
    · refine lv_tableIn (tgt := 1475) (off := 1436) S.1 S.2.1 dL_law_39 (by decide) (by decide) (by rfl) (by decide) ?_
      exact lc_hoursUntilThawed hst9 S hI hl hXs hbl hbA hj9 hL9 hR9 hF9 (by omega) (by omega) kont1
    · refine lv_tableIn (tgt := 1531) (off := 1492) S.1 S.2.1 dL_law_39 (by decide) (by decide) (by rfl) (by decide) ?_
      exact lc_hoursUntilExpired hst9 S hI hl hXs hbl hbA hj9 hL9 hR9 hF9 (by omega) (by omega) kont1
    · refine lv_tableIn (tgt := 1587) (off := 1548) S.1 S.2.1 dL_law_39 (by decide) (by decide) (by rfl) (by decide) ?_
      exact lc_leftIn hst9 S hI hl hXs hbl hbA hj9 hL9 hR9 hF9 (by omega) (by omega) kont1
    · refine lv_tableIn (tgt := 1643) (off := 1604) S.1 S.2.1 dL_law_39 (by decide) (by decide) (by rfl) (by decide) ?_
      exact lc_bestShelf hst9 S hI hl hR9 hF9 (by omega) (by omega) kont0
    · refine lv_tableIn (tgt := 1656) (off := 1617) S.1 S.2.1 dL_law_39 (by decide) (by decide) (by rfl) (by decide) ?_
      exact lc_hoursOfCold hst9 S hI hl hR9 hF9 (by omega) (by omega) kont0
    · refine lv_tableIn (tgt := 1669) (off := 1630) S.1 S.2.1 dL_law_39 (by decide) (by decide) (by rfl) (by decide) ?_
      exact lc_meanHeat hfl hfc hst9 S hI hl hR9 hF9 (by omega) (by omega) kont0
    · refine lv_tableIn (tgt := 1710) (off := 1671) S.1 S.2.1 dL_law_39 (by decide) (by decide) (by rfl) (by decide) ?_
      exact lc_digest hst9 S hI hl hR9 hF9 hC9 hS9 kont
  · refine lv_tableOut (tgt := 1724) S.1 S.2.1 dL_law_39 (Or.inr (by rw [nI_toInt (by omega)]; omega)) (by decide) ?_
    exact kont0 σ _ _ _ hR9 hI hl
set_option maxRecDepth 100000 in
set_option maxHeartbeats 4000000 in
theorem law_end (hL9 : L ≤ 2048) (hj9 : j ≤ 2052) : (Int32.ofNat L - 4 < nI j → ¬ j + 3 < L) ∧ (¬ Int32.ofNat L - 4 < nI j → j + 3 < L) := by
  have h1 : (Int32.ofNat L - 4).toInt = (L : Int) - 4 := by
    rw [Int32.toInt_sub, show (Int32.ofNat L).toInt = (L : Int) from nI_toInt (by omega), show (4 : Int32).toInt = 4 by decide]
    exact Int.bmod_eq_of_le (by omega) (by omega)
  have h2 : (nI j).toInt = (j : Int) := nI_toInt (by omega)
  rw [Int32.lt_iff_toInt_lt, h1, h2]
  constructor <;> intro h <;> omega
set_option maxRecDepth 100000 in
set_option maxHeartbeats 4000000 in
theorem law_loop (hfl : FLn) (hfc : FLc) (hst9 : l.stackTraces = false) (S : CallFix p m c cL_law 9 s args AL RL) (hXs : va_X b L xs s s.heap) (hbl : b < s.heap.size) (hbA : ¬ gA G b) (hL9 : L ≤ 2048) (hF9 : 12 ≤ R.frames ∧ 440 ≤ R.locals) (hC9 : 10788 ≤ R.cells) (hS9 : 96706 ≤ R.slots)
    (hend : ∀ (σ : St) (H : Heap) (locs : List Loc) (ls : Array Slot), Iv G σ s H locs → W p l e R s m args below meth c H locs 10788 96706 Q (F0 m 1730 ls [])) :
    ∀ (n9 t9 : Nat), t9 + n9 = 512 → ∀ (σ : St) (H : Heap) (locs : List Loc) (ls : Array Slot), Rel σ → Iv G σ s H locs → lv_has ls 9 [(0, .ref b), (1, .ref (gB G 0)), (2, .ref (gB G 3)), (3, .ref (gB G 8)), (4, .int (nI (4 * t9)))] → W p l e R s m args below meth c H locs (36 + 21 * t9) (450 + 188 * t9) Q (F0 m 23 ls []) := by
  intro n9
  induction n9 with
  | zero =>
    intro t9 ht9 σ H locs ls hR9 hI hl
    refine lv_iload S.1 S.2.1 dL_law_23 (lv_at hl 4 rfl) ?_
    refine lv_aload_n S.1 S.2.1 dL_law_25 rfl (lv_at hl 0 rfl) ?_
    refine va_slen S.1 S.2.1 hXs hbl hbA hI.2.2 dL_law_26 ?_
    refine lv_iconst (v := 4) S.1 S.2.1 dL_law_27 (by decide) ?_
    refine lv_isub S.1 S.2.1 dL_law_28 ?_
    refine lv_icmp_gt (tgt := 1730) S.1 S.2.1 dL_law_29 (by decide) (fun _ => ?_) (fun c9 => ?_)
    · exact W.widen (by omega) (by omega) (hend _ _ _ _ hI)
    · have := (law_end hL9 (j := 4 * t9) (by omega)).2 (by first | exact c9 | exact Int32.not_lt.mpr c9)
      omega
  | succ n9 ih =>
    intro t9 ht9 σ H locs ls hR9 hI hl
    refine lv_iload S.1 S.2.1 dL_law_23 (lv_at hl 4 rfl) ?_
    refine lv_aload_n S.1 S.2.1 dL_law_25 rfl (lv_at hl 0 rfl) ?_
    refine va_slen S.1 S.2.1 hXs hbl hbA hI.2.2 dL_law_26 ?_
    refine lv_iconst (v := 4) S.1 S.2.1 dL_law_27 (by decide) ?_
    refine lv_isub S.1 S.2.1 dL_law_28 ?_
    refine lv_icmp_gt (tgt := 1730) S.1 S.2.1 dL_law_29 (by decide) (fun _ => ?_) (fun c9 => ?_)
    · exact W.widen (by omega) (by omega) (hend _ _ _ _ hI)
    · have hj := (law_end hL9 (j := 4 * t9) (by omega)).2 (by first | exact c9 | exact Int32.not_lt.mpr c9)
      refine law_case hfl hfc hst9 S hI hl hXs hbl hbA hj hL9 hR9 hF9 (by omega) (by omega) (fun σ2 H2 locs2 ls2 hR2 hI2 hl2 => ?_)
      refine lv_iinc (v := (nI (4 * (t9 + 1)))) (lv' := [(4, .int (nI (4 * (t9 + 1)))), (0, .ref b), (1, .ref (gB G 0)), (2, .ref (gB G 3)), (3, .ref (gB G 8))]) S.1 S.2.1 dL_law_1724 hl2 (k := 4) rfl (by rw [show 4 * (t9 + 1) = 4 * t9 + 4 by omega]; exact nI_4 (4 * t9)) (by decide) rfl (fun ls hl => ?_)
      refine lv_goto (tgt := 23) S.1 S.2.1 dL_law_1727 (by decide) ?_
      refine W.widen (k := 36 + 21 * (t9 + 1)) (n := 450 + 188 * (t9 + 1)) (by omega) (by omega) ?_
      exact ih (t9 + 1) (by omega) σ2 _ _ ls hR2 hI2 (lv_sub hl [1, 2, 3, 4, 0] rfl)
end LCD
