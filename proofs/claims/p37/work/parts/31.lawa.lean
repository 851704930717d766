section LAWS
variable {p : Program} {l : Launch} {e : Env} {R : Room} {s : State} {m : MethodId} {args : Array Value} {below : List Frame} {meth : Method} {c : Code} {H : Heap} {locs : List Loc} {cells slots : Nat} {Q : State → Prop} {ls : Array Slot} {G : Gt} {q0 q1 q2 tt : Nat} {x4 : Int32}
theorem lw_lcmp {p : Program} {l : Launch} {e : Env} {R : Room} {s : State} {m : MethodId} {args : Array Value} {below : List Frame} {meth : Method} {c : Code} {H : Heap} {locs : List Loc} {cells slots : Nat} {Q : State → Prop} {cc : ByteArray} {pc : Nat} {ls : Array Slot} {rest : List Value} (hexec : p.tables.exec = Jvm.exec) (hb : c.code = cc) {x : Int64} (hdg : decode cc pc = .ok (.lcmp, 1)) (k : W p l e R s m args below meth c H locs cells slots Q (F0 m (pc + 1) ls (.int 0 :: rest))) : W p l e R s m args below meth c H locs cells slots Q (F0 m pc ls (.long x :: .long x :: rest)) := by
  intro T hT X
  obtain ⟨t, a, b⟩ := k T hT X
  refine ⟨t, ?_, b⟩
  have hx : ¬ x > x := Int64.lt_irrefl
  jvm_step X.here [X.here.top, hexec, hb, hdg, hx]
  exact a
set_option maxRecDepth 100000 in
set_option maxHeartbeats 4000000 in
theorem lg_acts (hst9 : l.stackTraces = false) (S : CallFix p m c cL_law 31 s args AL RL) (hF9 : 12 ≤ R.frames ∧ 448 ≤ R.locals) (hC9 : cells + 6 ≤ R.cells) (hS9 : slots + 81 ≤ R.slots) (kk9 : (∀ (σ : St) (q3 : Nat) (aR : Nat → Nat) (hh pw ar : Int32) (st ht : Nat → Int32) (n : Nat) (row : Nat → Z7), Pct σ (hh, pw, ar, st, ht, n, row) → ∀ (H : Heap) (locs : List Loc), Jw G (fw G σ ((q0, q1, q2, q3), aR) (hh, pw, ar, st, ht, n, row) []) s H locs → ∀ ls : Array Slot, lv_has ls 31 [(0, .ref (gE G 6)), (1, .ref (gB G 0)), (2, .ref q0), (3, .int (nI tt)), (4, .int x4)] → W p l e R s m args below meth c H locs (cells + 6) (slots + 81) Q (F0 m 80 ls []))) : ∀ (n9 k : Nat) (σ : St) (q3 : Nat) (aR : Nat → Nat) (hh pw ar : Int32) (st ht : Nat → Int32) (n : Nat) (row : Nat → Z7), k + n9 = 3 → Pct σ (hh, pw, ar, st, ht, n, row) → ∀ (H : Heap) (locs : List Loc), Jw G (fw G σ ((q0, q1, q2, q3), aR) (hh, pw, ar, st, ht, n, row) []) s H locs → ∀ ls : Array Slot, lv_has ls 31 [(0, .ref (gE G 6)), (1, .ref (gB G 0)), (2, .ref q0), (3, .int (nI tt)), (4, .int x4), (5, .int (nI k))] → W p l e R s m args below meth c H locs (cells + 2 * k) (slots + 27 * k) Q (F0 m 45 ls []) := by
  intro n9
  induction n9 with
  | zero =>
    intro k σ q3 aR hh pw ar st ht n row hk0 hp H locs hJ ls hl
    obtain rfl : k = 3 := by omega
    refine lv_iload S.1 S.2.1 dL_law_45 (lv_at hl 5 rfl) ?_
    refine lv_iconst (v := (nI 3)) S.1 S.2.1 dL_law_47 (by rfl) ?_
    refine lv_icmp_ge (tgt := 80) S.1 S.2.1 dL_law_48 (by decide) (fun cz_48 => ?_) (fun c9 => absurd (nI_le (a := 3) (b := 3) (Nat.le_refl 3) (by omega)) c9)
    exact kk9 _ _ _ _ _ _ _ _ _ _ hp _ _ hJ ls (lv_sub hl [0, 1, 2, 3, 4] rfl)
  | succ n9 ih =>
    intro k σ q3 aR hh pw ar st ht n row hk0 hp H locs hJ ls hl
    have hk2 : k < 3 := by omega
    refine lv_iload S.1 S.2.1 dL_law_45 (lv_at hl 5 rfl) ?_
    refine lv_iconst (v := (nI 3)) S.1 S.2.1 dL_law_47 (by rfl) ?_
    refine lv_icmp_ge (tgt := 80) S.1 S.2.1 dL_law_48 (by decide) (fun c9 => absurd c9 (nI_ge (b := 3) hk2 (by omega))) (fun cz_48 => ?_)
    refine lv_aload_n S.1 S.2.1 dL_law_51 rfl (lv_at hl 1 rfl) ?_
    refine lv_aload_n S.1 S.2.1 dL_law_52 rfl (lv_at hl 2 rfl) ?_
    refine lv_iload S.1 S.2.1 dL_law_53 (lv_at hl 4 rfl) ?_
    refine lv_iconst (v := 3) S.1 S.2.1 dL_law_55 (by decide) ?_
    refine lv_iload S.1 S.2.1 dL_law_56 (lv_at hl 5 rfl) ?_
    refine lv_imul S.1 S.2.1 dL_law_58 ?_
    refine lv_ishr S.1 S.2.1 dL_law_59 ?_
    refine lv_bipush (v := 29) S.1 S.2.1 dL_law_60 (by decide) ?_
    refine lv_iload S.1 S.2.1 dL_law_62 (lv_at hl 5 rfl) ?_
    refine lv_imul S.1 S.2.1 dL_law_64 ?_
    refine lv_iadd S.1 S.2.1 dL_law_65 ?_
    refine dw_i hJ (rwL (As := [.ref (gB G 0), .ref q0, .int ((x4 >>> ((3 * (nI k)) &&& 31)) + (29 * (nI k)))]) (rest := []) S hJ (k_act l hst9 G hp ((x4 >>> ((3 * (nI k)) &&& 31)) + (29 * (nI k)))) (cwl_act S.2.2.2.2 ⟨by omega, by omega⟩) rfl hl.1 (Nat.le_of_ble_eq_true rfl) dL_law_66 ⟨by omega, by omega⟩) (fun r1 ws1 H locs hq1 hJ => ?_)
    obtain ⟨hr1, σA, q3A, aRA, hhA, pwA, arA, stA, htA, nA, rowA, hw1, hpA⟩ := hq1
    subst hw1
    rw [hr1]
    refine lv_if_ne (tgt := 74) S.1 S.2.1 dL_law_69 (by decide) (fun cz_69 => ?_) (fun c9 => absurd c9 (by decide))
    refine lv_iinc (v := (nI (k + 1))) (lv' := [(5, .int (nI (k + 1))), (0, .ref (gE G 6)), (1, .ref (gB G 0)), (2, .ref q0), (3, .int (nI tt)), (4, .int x4)]) S.1 S.2.1 dL_law_74 hl (k := 5) rfl (nI_1 k) (by decide) rfl (fun ls hl => ?_)
    refine lv_goto (tgt := 45) S.1 S.2.1 dL_law_77 (by decide) ?_
    refine W.widen (k := cells + 2 * (k + 1)) (n := slots + 27 * (k + 1)) (by omega) (by omega) ?_
    exact ih (k + 1) _ _ _ _ _ _ _ _ _ _ (by omega) hpA _ _ hJ ls (lv_sub hl [1, 2, 3, 4, 5, 0] rfl)
set_option maxRecDepth 100000 in
set_option maxHeartbeats 4000000 in
theorem lg_looks (S : CallFix p m c cL_law 31 s args AL RL) (hF9 : 12 ≤ R.frames ∧ 448 ≤ R.locals) (hC9 : cells ≤ R.cells) (hS9 : slots ≤ R.slots) (kk9 : (∀ (σ : St) (q3 : Nat) (aR : Nat → Nat) (hh pw ar : Int32) (st ht : Nat → Int32) (n : Nat) (row : Nat → Z7), Pct σ (hh, pw, ar, st, ht, n, row) → ∀ (H : Heap) (locs : List Loc), Jw G (fw G σ ((q0, q1, q2, q3), aR) (hh, pw, ar, st, ht, n, row) []) s H locs → ∀ ls : Array Slot, lv_has ls 31 [(0, .ref (gE G 6)), (1, .ref (gB G 0)), (2, .ref q0), (3, .int (nI tt)), (4, .int x4), (5, .long (digF σ n)), (7, .int (nI n))] → W p l e R s m args below meth c H locs cells slots Q (F0 m 503 ls []))) {σ : St} {q3 : Nat} {aR : Nat → Nat} {hh pw ar : Int32} {st ht : Nat → Int32} {n : Nat} {row : Nat → Z7} (hp : Pct σ (hh, pw, ar, st, ht, n, row)) (hJ : Jw G (fw G σ ((q0, q1, q2, q3), aR) (hh, pw, ar, st, ht, n, row) []) s H locs) (hl : lv_has ls 31 [(0, .ref (gE G 6)), (1, .ref (gB G 0)), (2, .ref q0), (3, .int (nI tt)), (4, .int x4)]) : W p l e R s m args below meth c H locs cells slots Q (F0 m 80 ls []) := by
  refine lv_aload_n S.1 S.2.1 dL_law_80 rfl (lv_at hl 1 rfl) ?_
  refine cz_l hJ (rzV (As := []) (rest := []) S hJ (c_digest l _ σ hp.1.ok hp.1.1 hp.1.gx hp.1.2.2.1) (cw_L_X3_digest S.2.2.2.2 ⟨by omega, by omega⟩) (rcX hJ.iv) rfl hl.1 (Nat.le_of_ble_eq_true rfl) dL_law_81 ⟨by omega, by omega⟩) (fun r1 σ1 H locs hq1 hJ => ?_)
  obtain ⟨hr1, hT1⟩ := hq1
  have hn : n ≤ 20 := hp.1.1
  rw [hr1, ← tr_digF hp.1.ok hT1 hn]
  have hp := hp.tr hT1
  clear hr1 hT1
  revert hp hJ
  generalize σ1 = σ
  intro hJ hp
  have hX := hp.1.gx
  have hI := hp.1
  have hok := hp.1.ok
  refine lv_lstore (lv' := [(5, .long (digF σ n)), (0, .ref (gE G 6)), (1, .ref (gB G 0)), (2, .ref q0), (3, .int (nI tt)), (4, .int x4)]) S.1 S.2.1 dL_law_84 hl (by decide) rfl (fun ls hl => ?_)
  refine lv_aload_n S.1 S.2.1 dL_law_86 rfl (lv_at hl 2 rfl) ?_
  refine cz_i hJ (rzV (As := []) (rest := []) S hJ (c_promises l _ σ) (cw_L_X3_promises S.2.2.2.2 ⟨by omega, by omega⟩) (rcX hJ.iv) rfl hl.1 (Nat.le_of_ble_eq_true rfl) dL_law_87 ⟨by omega, by omega⟩) (fun r2 σ2 H locs hq2 hJ => ?_)
  obtain ⟨hr2, hs2⟩ := hq2
  rw [hs2] at hJ
  have hXn : (gX σ).1 = nI n := hp.1.2.1
  rw [hr2, hXn]
  refine lv_istore (lv' := [(7, .int (nI n)), (5, .long (digF σ n)), (0, .ref (gE G 6)), (1, .ref (gB G 0)), (2, .ref q0), (3, .int (nI tt)), (4, .int x4)]) S.1 S.2.1 dL_law_90 hl (by decide) rfl (fun ls hl => ?_)
  refine lv_iconst (v := 0) S.1 S.2.1 dL_law_92 (by decide) ?_
  refine lv_istore (lv' := [(8, .int 0), (7, .int (nI n)), (5, .long (digF σ n)), (0, .ref (gE G 6)), (1, .ref (gB G 0)), (2, .ref q0), (3, .int (nI tt)), (4, .int x4)]) S.1 S.2.1 dL_law_93 hl (by decide) rfl (fun ls hl => ?_)
  refine lv_iconst (v := 0) S.1 S.2.1 dL_law_95 (by decide) ?_
  refine lv_istore (lv' := [(9, .int 0), (8, .int 0), (7, .int (nI n)), (5, .long (digF σ n)), (0, .ref (gE G 6)), (1, .ref (gB G 0)), (2, .ref q0), (3, .int (nI tt)), (4, .int x4)]) S.1 S.2.1 dL_law_96 hl (by decide) rfl (fun ls hl => ?_)
  refine lv_iconst (v := 0) S.1 S.2.1 dL_law_98 (by decide) ?_
  refine lv_istore (lv' := [(10, .int 0), (9, .int 0), (8, .int 0), (7, .int (nI n)), (5, .long (digF σ n)), (0, .ref (gE G 6)), (1, .ref (gB G 0)), (2, .ref q0), (3, .int (nI tt)), (4, .int x4)]) S.1 S.2.1 dL_law_99 hl (by decide) rfl (fun ls hl => ?_)
  refine lv_iconst (v := (nI 0)) S.1 S.2.1 dL_law_101 (by rfl) ?_
  refine lv_istore (lv' := [(11, .int (nI 0)), (10, .int 0), (9, .int 0), (8, .int 0), (7, .int (nI n)), (5, .long (digF σ n)), (0, .ref (gE G 6)), (1, .ref (gB G 0)), (2, .ref q0), (3, .int (nI tt)), (4, .int x4)]) S.1 S.2.1 dL_law_102 hl (by decide) rfl (fun ls hl => ?_)
  have loop3 : ∀ (n9 k : Nat), k + n9 = n → ∀ (H : Heap) (locs : List Loc), Jw G (fw G σ ((q0, q1, q2, q3), aR) (hh, pw, ar, st, ht, n, row) []) s H locs → ∀ ls : Array Slot, lv_has ls 31 [(0, .ref (gE G 6)), (1, .ref (gB G 0)), (2, .ref q0), (3, .int (nI tt)), (4, .int x4), (5, .long (digF σ n)), (7, .int (nI n)), (8, .int (sumN (onF σ) 5)), (9, .int (sumN (fun w => owF σ (nI w)) 6)), (10, .int (sumN (honF σ) 6)), (11, .int (sumN (stF σ 4) k)), (12, .int (sumN (stF σ 5) k)), (13, .int (nI k))] → W p l e R s m args below meth c H locs cells slots Q (F0 m 256 ls []) := by
    intro n9
    induction n9 with
    | zero =>
      intro k hk0 H locs hJ ls hl
      have hkN : k = n := by omega
      refine lv_iload S.1 S.2.1 dL_law_256 (lv_at hl 12 rfl) ?_
      refine lv_iload S.1 S.2.1 dL_law_258 (lv_at hl 6 rfl) ?_
      refine lv_icmp_ge (tgt := 471) S.1 S.2.1 dL_law_260 (by decide) (fun cz_260 => ?_) (fun c9 => absurd (nI_le (show n ≤ k by omega) (by omega)) c9)
      refine lv_iload S.1 S.2.1 dL_law_471 (lv_at hl 7 rfl) ?_
      refine lv_iload S.1 S.2.1 dL_law_473 (lv_at hl 10 rfl) ?_
      refine lv_iadd S.1 S.2.1 dL_law_475 ?_
      refine lv_iload S.1 S.2.1 dL_law_476 (lv_at hl 11 rfl) ?_
      refine lv_iadd S.1 S.2.1 dL_law_478 ?_
      refine lv_iload S.1 S.2.1 dL_law_479 (lv_at hl 6 rfl) ?_
      refine lv_icmp_ne (tgt := 501) S.1 S.2.1 dL_law_481 (by decide) (fun c9 => absurd (by rw [hkN]; exact sum_a hI) c9) (fun cz_481 => ?_)
      refine lv_iload S.1 S.2.1 dL_law_484 (lv_at hl 8 rfl) ?_
      refine lv_iload S.1 S.2.1 dL_law_486 (lv_at hl 7 rfl) ?_
      refine lv_icmp_ne (tgt := 501) S.1 S.2.1 dL_law_488 (by decide) (fun c9 => absurd (sum_b hI) c9) (fun cz_488 => ?_)
      refine lv_iload S.1 S.2.1 dL_law_491 (lv_at hl 9 rfl) ?_
      refine lv_iload S.1 S.2.1 dL_law_493 (lv_at hl 10 rfl) ?_
      refine lv_iload S.1 S.2.1 dL_law_495 (lv_at hl 11 rfl) ?_
      refine lv_isub S.1 S.2.1 dL_law_497 ?_
      refine lv_icmp_eq (tgt := 503) S.1 S.2.1 dL_law_498 (by decide) (fun cz_498 => ?_) (fun c9 => absurd (by rw [hkN]; exact sum_c hI) c9)
      exact kk9 _ _ _ _ _ _ _ _ _ _ hp _ _ hJ ls (lv_sub hl [0, 1, 2, 3, 4, 5, 6] rfl)
    | succ n9 ih =>
      intro k hk0 H locs hJ ls hl
      have hk2 : k < n := by omega
      obtain ⟨ma, lf, ag, e1, e2, e3, e4, e5, e6, e7, e8⟩ := hI.2.2.2.2.1 k hk2
      have hcs : ((gP σ k).2.1 < 5 ∧ ag < lf ∧ ((gP σ k).1 = 1 ∨ (gP σ k).1 = 2 ∨ (gP σ k).1 = 3)) ∨ ((gP σ k).2.1 = 6 ∧ (((gP σ k).1 = 4 ∧ ag < lf) ∨ ((gP σ k).1 = 5 ∧ ag = lf))) := by omega
      have hlA : ag ≤ lf := by omega
      have eL := life_sub e3 e6 hlA
      have eG : (gP σ k).2.2.2.2.1 + ((gP σ k).2.2.2.1 - (gP σ k).2.2.2.2.1) = nI lf := by rw [eL, e6, nI_add]; congr 1; omega
      rcases hcs with ⟨hs5, hal, hg | hg | hg⟩ | ⟨hs6, ⟨hg, hal⟩ | ⟨hg, hal⟩⟩
      · refine lv_iload S.1 S.2.1 dL_law_256 (lv_at hl 12 rfl) ?_
        refine lv_iload S.1 S.2.1 dL_law_258 (lv_at hl 6 rfl) ?_
        refine lv_icmp_ge (tgt := 471) S.1 S.2.1 dL_law_260 (by decide) (fun c9 => absurd c9 (nI_ge hk2 (by omega))) (fun cz_260 => ?_)
        refine lv_aload_n S.1 S.2.1 dL_law_263 rfl (lv_at hl 1 rfl) ?_
        refine lv_iload S.1 S.2.1 dL_law_264 (lv_at hl 12 rfl) ?_
        refine cz_i hJ (rzV (As := [.int (nI k)]) (rest := []) S hJ (c_shelfOf l _ σ hok hk2 hn hX) (cw_L_X3_shelfOf S.2.2.2.2 ⟨by omega, by omega⟩) (rcX hJ.iv) rfl hl.1 (Nat.le_of_ble_eq_true rfl) dL_law_266 ⟨by omega, by omega⟩) (fun r1 σ1 H locs hq1 hJ => ?_)
        obtain ⟨hr1, hs1⟩ := hq1
        rw [hs1] at hJ
        rw [hr1, if_pos hs5]
        refine lv_if_lt (tgt := 276) S.1 S.2.1 dL_law_269 (by decide) (fun c9 => absurd c9 (nI_pos (by omega))) (fun cz_269 => ?_)
        refine lv_iconst (v := 1) S.1 S.2.1 dL_law_272 (by decide) ?_
        refine lv_goto (tgt := 277) S.1 S.2.1 dL_law_273 (by decide) ?_
        refine lv_istore (lv' := [(14, .int 1), (0, .ref (gE G 6)), (1, .ref (gB G 0)), (2, .ref q0), (3, .int (nI tt)), (4, .int x4), (5, .long (digF σ n)), (7, .int (nI n)), (8, .int (sumN (onF σ) 5)), (9, .int (sumN (fun w => owF σ (nI w)) 6)), (10, .int (sumN (honF σ) 6)), (11, .int (sumN (stF σ 4) k)), (12, .int (sumN (stF σ 5) k)), (13, .int (nI k))]) S.1 S.2.1 dL_law_277 hl (by decide) rfl (fun ls hl => ?_)
        refine lv_iload S.1 S.2.1 dL_law_279 (lv_at hl 11 rfl) ?_
        refine lv_aload_n S.1 S.2.1 dL_law_281 rfl (lv_at hl 2 rfl) ?_
        refine lv_iload S.1 S.2.1 dL_law_282 (lv_at hl 13 rfl) ?_
        refine cz_i hJ (rzV (As := [.int (nI k)]) (rest := [.int (sumN (stF σ 4) k)]) S hJ (c_isKept l _ σ hok hk2 hn hX) (cw_L_X3_isKept S.2.2.2.2 ⟨by omega, by omega⟩) (rcX hJ.iv) rfl hl.1 (Nat.le_of_ble_eq_true rfl) dL_law_284 ⟨by omega, by omega⟩) (fun r2 σ2 H locs hq2 hJ => ?_)
        obtain ⟨hr2, hs2⟩ := hq2
        rw [hs2] at hJ
        rw [hr2, show (if (gP σ k).1 = 4 then (1 : Int32) else 0) = 0 from if_neg (by omega)]
        refine lv_if_eq (tgt := 294) S.1 S.2.1 dL_law_287 (by decide) (fun cz_287 => ?_) (fun c9 => absurd (by decide) c9)
        refine lv_iconst (v := 0) S.1 S.2.1 dL_law_294 (by decide) ?_
        refine lv_iadd S.1 S.2.1 dL_law_295 ?_
        refine lv_istore (lv' := [(11, .int ((sumN (stF σ 4) k) + 0)), (14, .int 1), (0, .ref (gE G 6)), (1, .ref (gB G 0)), (2, .ref q0), (3, .int (nI tt)), (4, .int x4), (5, .long (digF σ n)), (7, .int (nI n)), (8, .int (sumN (onF σ) 5)), (9, .int (sumN (fun w => owF σ (nI w)) 6)), (10, .int (sumN (honF σ) 6)), (12, .int (sumN (stF σ 5) k)), (13, .int (nI k))]) S.1 S.2.1 dL_law_296 hl (by decide) rfl (fun ls hl => ?_)
        refine lv_iload S.1 S.2.1 dL_law_298 (lv_at hl 12 rfl) ?_
        refine lv_aload_n S.1 S.2.1 dL_law_300 rfl (lv_at hl 3 rfl) ?_
        refine lv_iload S.1 S.2.1 dL_law_301 (lv_at hl 13 rfl) ?_
        refine cz_i hJ (rzV (As := [.int (nI k)]) (rest := [.int (sumN (stF σ 5) k)]) S hJ (c_isExpired l _ σ hok hk2 hn hX) (cw_L_X3_isExpired S.2.2.2.2 ⟨by omega, by omega⟩) (rcX hJ.iv) rfl hl.1 (Nat.le_of_ble_eq_true rfl) dL_law_303 ⟨by omega, by omega⟩) (fun r3 σ3 H locs hq3 hJ => ?_)
        obtain ⟨hr3, hs3⟩ := hq3
        rw [hs3] at hJ
        rw [hr3, show (if (gP σ k).1 = 5 then (1 : Int32) else 0) = 0 from if_neg (by omega)]
        refine lv_if_eq (tgt := 313) S.1 S.2.1 dL_law_306 (by decide) (fun cz_306 => ?_) (fun c9 => absurd (by decide) c9)
        refine lv_iconst (v := 0) S.1 S.2.1 dL_law_313 (by decide) ?_
        refine lv_iadd S.1 S.2.1 dL_law_314 ?_
        refine lv_istore (lv' := [(12, .int ((sumN (stF σ 5) k) + 0)), (11, .int ((sumN (stF σ 4) k) + 0)), (14, .int 1), (0, .ref (gE G 6)), (1, .ref (gB G 0)), (2, .ref q0), (3, .int (nI tt)), (4, .int x4), (5, .long (digF σ n)), (7, .int (nI n)), (8, .int (sumN (onF σ) 5)), (9, .int (sumN (fun w => owF σ (nI w)) 6)), (10, .int (sumN (honF σ) 6)), (13, .int (nI k))]) S.1 S.2.1 dL_law_315 hl (by decide) rfl (fun ls hl => ?_)
        refine lv_aload_n S.1 S.2.1 dL_law_317 rfl (lv_at hl 4 rfl) ?_
        refine lv_iload S.1 S.2.1 dL_law_318 (lv_at hl 13 rfl) ?_
        refine cz_i hJ (rzV (As := [.int (nI k)]) (rest := []) S hJ (c_isFrozen l _ σ hok hk2 hn hX) (cw_L_X3_isFrozen S.2.2.2.2 ⟨by omega, by omega⟩) (rcX hJ.iv) rfl hl.1 (Nat.le_of_ble_eq_true rfl) dL_law_320 ⟨by omega, by omega⟩) (fun r4 σ4 H locs hq4 hJ => ?_)
        obtain ⟨hr4, hs4⟩ := hq4
        rw [hs4] at hJ
        rw [hr4, show (if (gP σ k).1 = 2 then (1 : Int32) else 0) = 0 from if_neg (by omega)]
        refine lv_if_eq (tgt := 335) S.1 S.2.1 dL_law_323 (by decide) (fun cz_323 => ?_) (fun c9 => absurd (by decide) c9)
        refine lv_iload S.1 S.2.1 dL_law_335 (lv_at hl 2 rfl) ?_
        refine lv_if_ne (tgt := 358) S.1 S.2.1 dL_law_337 (by decide) (fun cz_337 => ?_) (fun c9 => absurd c9 (by decide))
        refine lv_iload S.1 S.2.1 dL_law_358 (lv_at hl 2 rfl) ?_
        refine lv_if_eq (tgt := 391) S.1 S.2.1 dL_law_360 (by decide) (fun c9 => absurd c9 (by decide)) (fun cz_360 => ?_)
        refine lv_aload_n S.1 S.2.1 dL_law_363 rfl (lv_at hl 4 rfl) ?_
        refine lv_iload S.1 S.2.1 dL_law_364 (lv_at hl 13 rfl) ?_
        refine cz_i hJ (rzV (As := [.int (nI k)]) (rest := []) S hJ (c_isKept l _ σ hok hk2 hn hX) (cw_L_X3_isKept S.2.2.2.2 ⟨by omega, by omega⟩) (rcX hJ.iv) rfl hl.1 (Nat.le_of_ble_eq_true rfl) dL_law_366 ⟨by omega, by omega⟩) (fun r5 σ5 H locs hq5 hJ => ?_)
        obtain ⟨hr5, hs5⟩ := hq5
        rw [hs5] at hJ
        rw [hr5, show (if (gP σ k).1 = 4 then (1 : Int32) else 0) = 0 from if_neg (by omega)]
        refine lv_if_ne (tgt := 463) S.1 S.2.1 dL_law_369 (by decide) (fun c9 => absurd (by decide) c9) (fun cz_369 => ?_)
        refine lv_aload_n S.1 S.2.1 dL_law_372 rfl (lv_at hl 4 rfl) ?_
        refine lv_iload S.1 S.2.1 dL_law_373 (lv_at hl 13 rfl) ?_
        refine cz_i hJ (rzV (As := [.int (nI k)]) (rest := []) S hJ (c_isExpired l _ σ hok hk2 hn hX) (cw_L_X3_isExpired S.2.2.2.2 ⟨by omega, by omega⟩) (rcX hJ.iv) rfl hl.1 (Nat.le_of_ble_eq_true rfl) dL_law_375 ⟨by omega, by omega⟩) (fun r6 σ6 H locs hq6 hJ => ?_)
        obtain ⟨hr6, hs6⟩ := hq6
        rw [hs6] at hJ
        rw [hr6, show (if (gP σ k).1 = 5 then (1 : Int32) else 0) = 0 from if_neg (by omega)]
        refine lv_if_ne (tgt := 463) S.1 S.2.1 dL_law_378 (by decide) (fun c9 => absurd (by decide) c9) (fun cz_378 => ?_)
        refine lv_aload_n S.1 S.2.1 dL_law_381 rfl (lv_at hl 4 rfl) ?_
        refine lv_iload S.1 S.2.1 dL_law_382 (lv_at hl 13 rfl) ?_
        refine cz_i hJ (rzV (As := [.int (nI k)]) (rest := []) S hJ (c_hoursLeft l _ σ hk2 hn hX) (cw_L_X3_hoursLeft S.2.2.2.2 ⟨by omega, by omega⟩) (rcX hJ.iv) rfl hl.1 (Nat.le_of_ble_eq_true rfl) dL_law_384 ⟨by omega, by omega⟩) (fun r7 σ7 H locs hq7 hJ => ?_)
        obtain ⟨hr7, hs7⟩ := hq7
        rw [hs7] at hJ
        rw [hr7]
        refine lv_iconst (v := 1) S.1 S.2.1 dL_law_387 (by decide) ?_
        refine lv_icmp_lt (tgt := 463) S.1 S.2.1 dL_law_388 (by decide) (fun c9 => absurd c9 (by rw [eL]; exact nI_nlt (b := 1) (by omega) (by omega))) (fun cz_388 => ?_)
        refine lv_aload_n S.1 S.2.1 dL_law_391 rfl (lv_at hl 4 rfl) ?_
        refine lv_iload S.1 S.2.1 dL_law_392 (lv_at hl 13 rfl) ?_
        refine cz_i hJ (rzV (As := [.int (nI k)]) (rest := []) S hJ (c_isKept l _ σ hok hk2 hn hX) (cw_L_X3_isKept S.2.2.2.2 ⟨by omega, by omega⟩) (rcX hJ.iv) rfl hl.1 (Nat.le_of_ble_eq_true rfl) dL_law_394 ⟨by omega, by omega⟩) (fun r8 σ8 H locs hq8 hJ => ?_)
        obtain ⟨hr8, hs8⟩ := hq8
        rw [hs8] at hJ
        rw [hr8, show (if (gP σ k).1 = 4 then (1 : Int32) else 0) = 0 from if_neg (by omega)]
        refine lv_if_eq (tgt := 409) S.1 S.2.1 dL_law_397 (by decide) (fun cz_397 => ?_) (fun c9 => absurd (by decide) c9)
        refine lv_aload_n S.1 S.2.1 dL_law_409 rfl (lv_at hl 4 rfl) ?_
        refine lv_iload S.1 S.2.1 dL_law_410 (lv_at hl 13 rfl) ?_
        refine cz_i hJ (rzV (As := [.int (nI k)]) (rest := []) S hJ (c_isExpired l _ σ hok hk2 hn hX) (cw_L_X3_isExpired S.2.2.2.2 ⟨by omega, by omega⟩) (rcX hJ.iv) rfl hl.1 (Nat.le_of_ble_eq_true rfl) dL_law_412 ⟨by omega, by omega⟩) (fun r9 σ9 H locs hq9 hJ => ?_)
        obtain ⟨hr9, hs9⟩ := hq9
        rw [hs9] at hJ
        rw [hr9, show (if (gP σ k).1 = 5 then (1 : Int32) else 0) = 0 from if_neg (by omega)]
        refine lv_if_eq (tgt := 427) S.1 S.2.1 dL_law_415 (by decide) (fun cz_415 => ?_) (fun c9 => absurd (by decide) c9)
        refine lv_aload_n S.1 S.2.1 dL_law_427 rfl (lv_at hl 4 rfl) ?_
        refine lv_iload S.1 S.2.1 dL_law_428 (lv_at hl 13 rfl) ?_
        refine cz_i hJ (rzV (As := [.int (nI k)]) (rest := []) S hJ (c_ageOf l _ σ hk2 hn hX) (cw_L_X3_ageOf S.2.2.2.2 ⟨by omega, by omega⟩) (rcX hJ.iv) rfl hl.1 (Nat.le_of_ble_eq_true rfl) dL_law_430 ⟨by omega, by omega⟩) (fun r10 σ10 H locs hq10 hJ => ?_)
        obtain ⟨hr10, hs10⟩ := hq10
        rw [hs10] at hJ
        rw [hr10]
        refine lv_if_lt (tgt := 463) S.1 S.2.1 dL_law_433 (by decide) (fun c9 => absurd c9 (by rw [e6]; exact nI_pos (by omega))) (fun cz_433 => ?_)
        refine lv_aload_n S.1 S.2.1 dL_law_436 rfl (lv_at hl 4 rfl) ?_
        refine lv_iload S.1 S.2.1 dL_law_437 (lv_at hl 13 rfl) ?_
        refine cz_i hJ (rzV (As := [.int (nI k)]) (rest := []) S hJ (c_hoursLeft l _ σ hk2 hn hX) (cw_L_X3_hoursLeft S.2.2.2.2 ⟨by omega, by omega⟩) (rcX hJ.iv) rfl hl.1 (Nat.le_of_ble_eq_true rfl) dL_law_439 ⟨by omega, by omega⟩) (fun r11 σ11 H locs hq11 hJ => ?_)
        obtain ⟨hr11, hs11⟩ := hq11
        rw [hs11] at hJ
        rw [hr11]
        refine lv_if_lt (tgt := 463) S.1 S.2.1 dL_law_442 (by decide) (fun c9 => absurd c9 (by rw [eL]; exact nI_pos (by omega))) (fun cz_442 => ?_)
        refine lv_aload_n S.1 S.2.1 dL_law_445 rfl (lv_at hl 4 rfl) ?_
        refine lv_iload S.1 S.2.1 dL_law_446 (lv_at hl 13 rfl) ?_
        refine cz_i hJ (rzV (As := [.int (nI k)]) (rest := []) S hJ (c_ageOf l _ σ hk2 hn hX) (cw_L_X3_ageOf S.2.2.2.2 ⟨by omega, by omega⟩) (rcX hJ.iv) rfl hl.1 (Nat.le_of_ble_eq_true rfl) dL_law_448 ⟨by omega, by omega⟩) (fun r12 σ12 H locs hq12 hJ => ?_)
        obtain ⟨hr12, hs12⟩ := hq12
        rw [hs12] at hJ
        rw [hr12]
        refine lv_aload_n S.1 S.2.1 dL_law_451 rfl (lv_at hl 4 rfl) ?_
        refine lv_iload S.1 S.2.1 dL_law_452 (lv_at hl 13 rfl) ?_
        refine cz_i hJ (rzV (As := [.int (nI k)]) (rest := [.int ((gP σ k).2.2.2.2.1)]) S hJ (c_hoursLeft l _ σ hk2 hn hX) (cw_L_X3_hoursLeft S.2.2.2.2 ⟨by omega, by omega⟩) (rcX hJ.iv) rfl hl.1 (Nat.le_of_ble_eq_true rfl) dL_law_454 ⟨by omega, by omega⟩) (fun r13 σ13 H locs hq13 hJ => ?_)
        obtain ⟨hr13, hs13⟩ := hq13
        rw [hs13] at hJ
        rw [hr13]
        refine lv_iadd S.1 S.2.1 dL_law_457 ?_
        refine lv_bipush (v := 100) S.1 S.2.1 dL_law_458 (by decide) ?_
        refine lv_icmp_le (tgt := 465) S.1 S.2.1 dL_law_460 (by decide) (fun cz_460 => ?_) (fun c9 => absurd (by rw [eG]; exact nI_le (b := 100) e5 (by omega)) c9)
        refine lv_iinc (v := (nI (k + 1))) (lv' := [(13, .int (nI (k + 1))), (12, .int ((sumN (stF σ 5) k) + 0)), (11, .int ((sumN (stF σ 4) k) + 0)), (14, .int 1), (0, .ref (gE G 6)), (1, .ref (gB G 0)), (2, .ref q0), (3, .int (nI tt)), (4, .int x4), (5, .long (digF σ n)), (7, .int (nI n)), (8, .int (sumN (onF σ) 5)), (9, .int (sumN (fun w => owF σ (nI w)) 6)), (10, .int (sumN (honF σ) 6))]) S.1 S.2.1 dL_law_465 hl (k := 13) rfl (nI_1 k) (by decide) rfl (fun ls hl => ?_)
        refine lv_goto (tgt := 256) S.1 S.2.1 dL_law_468 (by decide) ?_
        exact ih (k + 1) (by omega) _ _ hJ ls (by rw [show sumN (stF σ 4) (k + 1) = ((sumN (stF σ 4) k) + 0) from (by rw [sumN_s]; exact congrArg (fun z => sumN (stF σ 4) k + z) (if_neg (by omega))), show sumN (stF σ 5) (k + 1) = ((sumN (stF σ 5) k) + 0) from (by rw [sumN_s]; exact congrArg (fun z => sumN (stF σ 5) k + z) (if_neg (by omega)))]; exact lv_sub hl [4, 5, 6, 7, 8, 9, 10, 11, 12, 13, 2, 1, 0] rfl)
      · refine lv_iload S.1 S.2.1 dL_law_256 (lv_at hl 12 rfl) ?_
        refine lv_iload S.1 S.2.1 dL_law_258 (lv_at hl 6 rfl) ?_
        refine lv_icmp_ge (tgt := 471) S.1 S.2.1 dL_law_260 (by decide) (fun c9 => absurd c9 (nI_ge hk2 (by omega))) (fun cz_260 => ?_)
        refine lv_aload_n S.1 S.2.1 dL_law_263 rfl (lv_at hl 1 rfl) ?_
        refine lv_iload S.1 S.2.1 dL_law_264 (lv_at hl 12 rfl) ?_
        refine cz_i hJ (rzV (As := [.int (nI k)]) (rest := []) S hJ (c_shelfOf l _ σ hok hk2 hn hX) (cw_L_X3_shelfOf S.2.2.2.2 ⟨by omega, by omega⟩) (rcX hJ.iv) rfl hl.1 (Nat.le_of_ble_eq_true rfl) dL_law_266 ⟨by omega, by omega⟩) (fun r1 σ1 H locs hq1 hJ => ?_)
        obtain ⟨hr1, hs1⟩ := hq1
        rw [hs1] at hJ
        rw [hr1, if_pos hs5]
        refine lv_if_lt (tgt := 276) S.1 S.2.1 dL_law_269 (by decide) (fun c9 => absurd c9 (nI_pos (by omega))) (fun cz_269 => ?_)
        refine lv_iconst (v := 1) S.1 S.2.1 dL_law_272 (by decide) ?_
        refine lv_goto (tgt := 277) S.1 S.2.1 dL_law_273 (by decide) ?_
        refine lv_istore (lv' := [(14, .int 1), (0, .ref (gE G 6)), (1, .ref (gB G 0)), (2, .ref q0), (3, .int (nI tt)), (4, .int x4), (5, .long (digF σ n)), (7, .int (nI n)), (8, .int (sumN (onF σ) 5)), (9, .int (sumN (fun w => owF σ (nI w)) 6)), (10, .int (sumN (honF σ) 6)), (11, .int (sumN (stF σ 4) k)), (12, .int (sumN (stF σ 5) k)), (13, .int (nI k))]) S.1 S.2.1 dL_law_277 hl (by decide) rfl (fun ls hl => ?_)
        refine lv_iload S.1 S.2.1 dL_law_279 (lv_at hl 11 rfl) ?_
        refine lv_aload_n S.1 S.2.1 dL_law_281 rfl (lv_at hl 2 rfl) ?_
        refine lv_iload S.1 S.2.1 dL_law_282 (lv_at hl 13 rfl) ?_
        refine cz_i hJ (rzV (As := [.int (nI k)]) (rest := [.int (sumN (stF σ 4) k)]) S hJ (c_isKept l _ σ hok hk2 hn hX) (cw_L_X3_isKept S.2.2.2.2 ⟨by omega, by omega⟩) (rcX hJ.iv) rfl hl.1 (Nat.le_of_ble_eq_true rfl) dL_law_284 ⟨by omega, by omega⟩) (fun r2 σ2 H locs hq2 hJ => ?_)
        obtain ⟨hr2, hs2⟩ := hq2
        rw [hs2] at hJ
        rw [hr2, show (if (gP σ k).1 = 4 then (1 : Int32) else 0) = 0 from if_neg (by omega)]
        refine lv_if_eq (tgt := 294) S.1 S.2.1 dL_law_287 (by decide) (fun cz_287 => ?_) (fun c9 => absurd (by decide) c9)
        refine lv_iconst (v := 0) S.1 S.2.1 dL_law_294 (by decide) ?_
        refine lv_iadd S.1 S.2.1 dL_law_295 ?_
        refine lv_istore (lv' := [(11, .int ((sumN (stF σ 4) k) + 0)), (14, .int 1), (0, .ref (gE G 6)), (1, .ref (gB G 0)), (2, .ref q0), (3, .int (nI tt)), (4, .int x4), (5, .long (digF σ n)), (7, .int (nI n)), (8, .int (sumN (onF σ) 5)), (9, .int (sumN (fun w => owF σ (nI w)) 6)), (10, .int (sumN (honF σ) 6)), (12, .int (sumN (stF σ 5) k)), (13, .int (nI k))]) S.1 S.2.1 dL_law_296 hl (by decide) rfl (fun ls hl => ?_)
        refine lv_iload S.1 S.2.1 dL_law_298 (lv_at hl 12 rfl) ?_
        refine lv_aload_n S.1 S.2.1 dL_law_300 rfl (lv_at hl 3 rfl) ?_
        refine lv_iload S.1 S.2.1 dL_law_301 (lv_at hl 13 rfl) ?_
        refine cz_i hJ (rzV (As := [.int (nI k)]) (rest := [.int (sumN (stF σ 5) k)]) S hJ (c_isExpired l _ σ hok hk2 hn hX) (cw_L_X3_isExpired S.2.2.2.2 ⟨by omega, by omega⟩) (rcX hJ.iv) rfl hl.1 (Nat.le_of_ble_eq_true rfl) dL_law_303 ⟨by omega, by omega⟩) (fun r3 σ3 H locs hq3 hJ => ?_)
        obtain ⟨hr3, hs3⟩ := hq3
        rw [hs3] at hJ
        rw [hr3, show (if (gP σ k).1 = 5 then (1 : Int32) else 0) = 0 from if_neg (by omega)]
        refine lv_if_eq (tgt := 313) S.1 S.2.1 dL_law_306 (by decide) (fun cz_306 => ?_) (fun c9 => absurd (by decide) c9)
        refine lv_iconst (v := 0) S.1 S.2.1 dL_law_313 (by decide) ?_
        refine lv_iadd S.1 S.2.1 dL_law_314 ?_
        refine lv_istore (lv' := [(12, .int ((sumN (stF σ 5) k) + 0)), (11, .int ((sumN (stF σ 4) k) + 0)), (14, .int 1), (0, .ref (gE G 6)), (1, .ref (gB G 0)), (2, .ref q0), (3, .int (nI tt)), (4, .int x4), (5, .long (digF σ n)), (7, .int (nI n)), (8, .int (sumN (onF σ) 5)), (9, .int (sumN (fun w => owF σ (nI w)) 6)), (10, .int (sumN (honF σ) 6)), (13, .int (nI k))]) S.1 S.2.1 dL_law_315 hl (by decide) rfl (fun ls hl => ?_)
        refine lv_aload_n S.1 S.2.1 dL_law_317 rfl (lv_at hl 4 rfl) ?_
        refine lv_iload S.1 S.2.1 dL_law_318 (lv_at hl 13 rfl) ?_
        refine cz_i hJ (rzV (As := [.int (nI k)]) (rest := []) S hJ (c_isFrozen l _ σ hok hk2 hn hX) (cw_L_X3_isFrozen S.2.2.2.2 ⟨by omega, by omega⟩) (rcX hJ.iv) rfl hl.1 (Nat.le_of_ble_eq_true rfl) dL_law_320 ⟨by omega, by omega⟩) (fun r4 σ4 H locs hq4 hJ => ?_)
        obtain ⟨hr4, hs4⟩ := hq4
        rw [hs4] at hJ
        rw [hr4, show (if (gP σ k).1 = 2 then (1 : Int32) else 0) = 1 from if_pos hg]
        refine lv_if_eq (tgt := 335) S.1 S.2.1 dL_law_323 (by decide) (fun c9 => absurd c9 (by decide)) (fun cz_323 => ?_)
        refine lv_aload_n S.1 S.2.1 dL_law_326 rfl (lv_at hl 4 rfl) ?_
        refine lv_iload S.1 S.2.1 dL_law_327 (lv_at hl 13 rfl) ?_
        refine cz_i hJ (rzV (As := [.int (nI k)]) (rest := []) S hJ (c_isThawed l _ σ hok hk2 hn hX) (cw_L_X3_isThawed S.2.2.2.2 ⟨by omega, by omega⟩) (rcX hJ.iv) rfl hl.1 (Nat.le_of_ble_eq_true rfl) dL_law_329 ⟨by omega, by omega⟩) (fun r5 σ5 H locs hq5 hJ => ?_)
        obtain ⟨hr5, hs5⟩ := hq5
        rw [hs5] at hJ
        rw [hr5, show (if (gP σ k).1 = 3 then (1 : Int32) else 0) = 0 from if_neg (by omega)]
        refine lv_if_ne (tgt := 463) S.1 S.2.1 dL_law_332 (by decide) (fun c9 => absurd (by decide) c9) (fun cz_332 => ?_)
        refine lv_iload S.1 S.2.1 dL_law_335 (lv_at hl 2 rfl) ?_
        refine lv_if_ne (tgt := 358) S.1 S.2.1 dL_law_337 (by decide) (fun cz_337 => ?_) (fun c9 => absurd c9 (by decide))
        refine lv_iload S.1 S.2.1 dL_law_358 (lv_at hl 2 rfl) ?_
        refine lv_if_eq (tgt := 391) S.1 S.2.1 dL_law_360 (by decide) (fun c9 => absurd c9 (by decide)) (fun cz_360 => ?_)
        refine lv_aload_n S.1 S.2.1 dL_law_363 rfl (lv_at hl 4 rfl) ?_
        refine lv_iload S.1 S.2.1 dL_law_364 (lv_at hl 13 rfl) ?_
        refine cz_i hJ (rzV (As := [.int (nI k)]) (rest := []) S hJ (c_isKept l _ σ hok hk2 hn hX) (cw_L_X3_isKept S.2.2.2.2 ⟨by omega, by omega⟩) (rcX hJ.iv) rfl hl.1 (Nat.le_of_ble_eq_true rfl) dL_law_366 ⟨by omega, by omega⟩) (fun r6 σ6 H locs hq6 hJ => ?_)
        obtain ⟨hr6, hs6⟩ := hq6
        rw [hs6] at hJ
        rw [hr6, show (if (gP σ k).1 = 4 then (1 : Int32) else 0) = 0 from if_neg (by omega)]
        refine lv_if_ne (tgt := 463) S.1 S.2.1 dL_law_369 (by decide) (fun c9 => absurd (by decide) c9) (fun cz_369 => ?_)
        refine lv_aload_n S.1 S.2.1 dL_law_372 rfl (lv_at hl 4 rfl) ?_
        refine lv_iload S.1 S.2.1 dL_law_373 (lv_at hl 13 rfl) ?_
        refine cz_i hJ (rzV (As := [.int (nI k)]) (rest := []) S hJ (c_isExpired l _ σ hok hk2 hn hX) (cw_L_X3_isExpired S.2.2.2.2 ⟨by omega, by omega⟩) (rcX hJ.iv) rfl hl.1 (Nat.le_of_ble_eq_true rfl) dL_law_375 ⟨by omega, by omega⟩) (fun r7 σ7 H locs hq7 hJ => ?_)
        obtain ⟨hr7, hs7⟩ := hq7
        rw [hs7] at hJ
        rw [hr7, show (if (gP σ k).1 = 5 then (1 : Int32) else 0) = 0 from if_neg (by omega)]
        refine lv_if_ne (tgt := 463) S.1 S.2.1 dL_law_378 (by decide) (fun c9 => absurd (by decide) c9) (fun cz_378 => ?_)
        refine lv_aload_n S.1 S.2.1 dL_law_381 rfl (lv_at hl 4 rfl) ?_
        refine lv_iload S.1 S.2.1 dL_law_382 (lv_at hl 13 rfl) ?_
        refine cz_i hJ (rzV (As := [.int (nI k)]) (rest := []) S hJ (c_hoursLeft l _ σ hk2 hn hX) (cw_L_X3_hoursLeft S.2.2.2.2 ⟨by omega, by omega⟩) (rcX hJ.iv) rfl hl.1 (Nat.le_of_ble_eq_true rfl) dL_law_384 ⟨by omega, by omega⟩) (fun r8 σ8 H locs hq8 hJ => ?_)
        obtain ⟨hr8, hs8⟩ := hq8
        rw [hs8] at hJ
        rw [hr8]
        refine lv_iconst (v := 1) S.1 S.2.1 dL_law_387 (by decide) ?_
        refine lv_icmp_lt (tgt := 463) S.1 S.2.1 dL_law_388 (by decide) (fun c9 => absurd c9 (by rw [eL]; exact nI_nlt (b := 1) (by omega) (by omega))) (fun cz_388 => ?_)
        refine lv_aload_n S.1 S.2.1 dL_law_391 rfl (lv_at hl 4 rfl) ?_
        refine lv_iload S.1 S.2.1 dL_law_392 (lv_at hl 13 rfl) ?_
        refine cz_i hJ (rzV (As := [.int (nI k)]) (rest := []) S hJ (c_isKept l _ σ hok hk2 hn hX) (cw_L_X3_isKept S.2.2.2.2 ⟨by omega, by omega⟩) (rcX hJ.iv) rfl hl.1 (Nat.le_of_ble_eq_true rfl) dL_law_394 ⟨by omega, by omega⟩) (fun r9 σ9 H locs hq9 hJ => ?_)
        obtain ⟨hr9, hs9⟩ := hq9
        rw [hs9] at hJ
        rw [hr9, show (if (gP σ k).1 = 4 then (1 : Int32) else 0) = 0 from if_neg (by omega)]
        refine lv_if_eq (tgt := 409) S.1 S.2.1 dL_law_397 (by decide) (fun cz_397 => ?_) (fun c9 => absurd (by decide) c9)
        refine lv_aload_n S.1 S.2.1 dL_law_409 rfl (lv_at hl 4 rfl) ?_
        refine lv_iload S.1 S.2.1 dL_law_410 (lv_at hl 13 rfl) ?_
        refine cz_i hJ (rzV (As := [.int (nI k)]) (rest := []) S hJ (c_isExpired l _ σ hok hk2 hn hX) (cw_L_X3_isExpired S.2.2.2.2 ⟨by omega, by omega⟩) (rcX hJ.iv) rfl hl.1 (Nat.le_of_ble_eq_true rfl) dL_law_412 ⟨by omega, by omega⟩) (fun r10 σ10 H locs hq10 hJ => ?_)
        obtain ⟨hr10, hs10⟩ := hq10
        rw [hs10] at hJ
        rw [hr10, show (if (gP σ k).1 = 5 then (1 : Int32) else 0) = 0 from if_neg (by omega)]
        refine lv_if_eq (tgt := 427) S.1 S.2.1 dL_law_415 (by decide) (fun cz_415 => ?_) (fun c9 => absurd (by decide) c9)
        refine lv_aload_n S.1 S.2.1 dL_law_427 rfl (lv_at hl 4 rfl) ?_
        refine lv_iload S.1 S.2.1 dL_law_428 (lv_at hl 13 rfl) ?_
        refine cz_i hJ (rzV (As := [.int (nI k)]) (rest := []) S hJ (c_ageOf l _ σ hk2 hn hX) (cw_L_X3_ageOf S.2.2.2.2 ⟨by omega, by omega⟩) (rcX hJ.iv) rfl hl.1 (Nat.le_of_ble_eq_true rfl) dL_law_430 ⟨by omega, by omega⟩) (fun r11 σ11 H locs hq11 hJ => ?_)
        obtain ⟨hr11, hs11⟩ := hq11
        rw [hs11] at hJ
        rw [hr11]
        refine lv_if_lt (tgt := 463) S.1 S.2.1 dL_law_433 (by decide) (fun c9 => absurd c9 (by rw [e6]; exact nI_pos (by omega))) (fun cz_433 => ?_)
        refine lv_aload_n S.1 S.2.1 dL_law_436 rfl (lv_at hl 4 rfl) ?_
        refine lv_iload S.1 S.2.1 dL_law_437 (lv_at hl 13 rfl) ?_
        refine cz_i hJ (rzV (As := [.int (nI k)]) (rest := []) S hJ (c_hoursLeft l _ σ hk2 hn hX) (cw_L_X3_hoursLeft S.2.2.2.2 ⟨by omega, by omega⟩) (rcX hJ.iv) rfl hl.1 (Nat.le_of_ble_eq_true rfl) dL_law_439 ⟨by omega, by omega⟩) (fun r12 σ12 H locs hq12 hJ => ?_)
        obtain ⟨hr12, hs12⟩ := hq12
        rw [hs12] at hJ
        rw [hr12]
        refine lv_if_lt (tgt := 463) S.1 S.2.1 dL_law_442 (by decide) (fun c9 => absurd c9 (by rw [eL]; exact nI_pos (by omega))) (fun cz_442 => ?_)
        refine lv_aload_n S.1 S.2.1 dL_law_445 rfl (lv_at hl 4 rfl) ?_
        refine lv_iload S.1 S.2.1 dL_law_446 (lv_at hl 13 rfl) ?_
        refine cz_i hJ (rzV (As := [.int (nI k)]) (rest := []) S hJ (c_ageOf l _ σ hk2 hn hX) (cw_L_X3_ageOf S.2.2.2.2 ⟨by omega, by omega⟩) (rcX hJ.iv) rfl hl.1 (Nat.le_of_ble_eq_true rfl) dL_law_448 ⟨by omega, by omega⟩) (fun r13 σ13 H locs hq13 hJ => ?_)
        obtain ⟨hr13, hs13⟩ := hq13
        rw [hs13] at hJ
        rw [hr13]
        refine lv_aload_n S.1 S.2.1 dL_law_451 rfl (lv_at hl 4 rfl) ?_
        refine lv_iload S.1 S.2.1 dL_law_452 (lv_at hl 13 rfl) ?_
        refine cz_i hJ (rzV (As := [.int (nI k)]) (rest := [.int ((gP σ k).2.2.2.2.1)]) S hJ (c_hoursLeft l _ σ hk2 hn hX) (cw_L_X3_hoursLeft S.2.2.2.2 ⟨by omega, by omega⟩) (rcX hJ.iv) rfl hl.1 (Nat.le_of_ble_eq_true rfl) dL_law_454 ⟨by omega, by omega⟩) (fun r14 σ14 H locs hq14 hJ => ?_)
        obtain ⟨hr14, hs14⟩ := hq14
        rw [hs14] at hJ
        rw [hr14]
        refine lv_iadd S.1 S.2.1 dL_law_457 ?_
        refine lv_bipush (v := 100) S.1 S.2.1 dL_law_458 (by decide) ?_
        refine lv_icmp_le (tgt := 465) S.1 S.2.1 dL_law_460 (by decide) (fun cz_460 => ?_) (fun c9 => absurd (by rw [eG]; exact nI_le (b := 100) e5 (by omega)) c9)
        refine lv_iinc (v := (nI (k + 1))) (lv' := [(13, .int (nI (k + 1))), (12, .int ((sumN (stF σ 5) k) + 0)), (11, .int ((sumN (stF σ 4) k) + 0)), (14, .int 1), (0, .ref (gE G 6)), (1, .ref (gB G 0)), (2, .ref q0), (3, .int (nI tt)), (4, .int x4), (5, .long (digF σ n)), (7, .int (nI n)), (8, .int (sumN (onF σ) 5)), (9, .int (sumN (fun w => owF σ (nI w)) 6)), (10, .int (sumN (honF σ) 6))]) S.1 S.2.1 dL_law_465 hl (k := 13) rfl (nI_1 k) (by decide) rfl (fun ls hl => ?_)
        refine lv_goto (tgt := 256) S.1 S.2.1 dL_law_468 (by decide) ?_
        exact ih (k + 1) (by omega) _ _ hJ ls (by rw [show sumN (stF σ 4) (k + 1) = ((sumN (stF σ 4) k) + 0) from (by rw [sumN_s]; exact congrArg (fun z => sumN (stF σ 4) k + z) (if_neg (by omega))), show sumN (stF σ 5) (k + 1) = ((sumN (stF σ 5) k) + 0) from (by rw [sumN_s]; exact congrArg (fun z => sumN (stF σ 5) k + z) (if_neg (by omega)))]; exact lv_sub hl [4, 5, 6, 7, 8, 9, 10, 11, 12, 13, 2, 1, 0] rfl)
      · refine lv_iload S.1 S.2.1 dL_law_256 (lv_at hl 12 rfl) ?_
        refine lv_iload S.1 S.2.1 dL_law_258 (lv_at hl 6 rfl) ?_
        refine lv_icmp_ge (tgt := 471) S.1 S.2.1 dL_law_260 (by decide) (fun c9 => absurd c9 (nI_ge hk2 (by omega))) (fun cz_260 => ?_)
        refine lv_aload_n S.1 S.2.1 dL_law_263 rfl (lv_at hl 1 rfl) ?_
        refine lv_iload S.1 S.2.1 dL_law_264 (lv_at hl 12 rfl) ?_
        refine cz_i hJ (rzV (As := [.int (nI k)]) (rest := []) S hJ (c_shelfOf l _ σ hok hk2 hn hX) (cw_L_X3_shelfOf S.2.2.2.2 ⟨by omega, by omega⟩) (rcX hJ.iv) rfl hl.1 (Nat.le_of_ble_eq_true rfl) dL_law_266 ⟨by omega, by omega⟩) (fun r1 σ1 H locs hq1 hJ => ?_)
        obtain ⟨hr1, hs1⟩ := hq1
        rw [hs1] at hJ
        rw [hr1, if_pos hs5]
        refine lv_if_lt (tgt := 276) S.1 S.2.1 dL_law_269 (by decide) (fun c9 => absurd c9 (nI_pos (by omega))) (fun cz_269 => ?_)
        refine lv_iconst (v := 1) S.1 S.2.1 dL_law_272 (by decide) ?_
        refine lv_goto (tgt := 277) S.1 S.2.1 dL_law_273 (by decide) ?_
        refine lv_istore (lv' := [(14, .int 1), (0, .ref (gE G 6)), (1, .ref (gB G 0)), (2, .ref q0), (3, .int (nI tt)), (4, .int x4), (5, .long (digF σ n)), (7, .int (nI n)), (8, .int (sumN (onF σ) 5)), (9, .int (sumN (fun w => owF σ (nI w)) 6)), (10, .int (sumN (honF σ) 6)), (11, .int (sumN (stF σ 4) k)), (12, .int (sumN (stF σ 5) k)), (13, .int (nI k))]) S.1 S.2.1 dL_law_277 hl (by decide) rfl (fun ls hl => ?_)
        refine lv_iload S.1 S.2.1 dL_law_279 (lv_at hl 11 rfl) ?_
        refine lv_aload_n S.1 S.2.1 dL_law_281 rfl (lv_at hl 2 rfl) ?_
        refine lv_iload S.1 S.2.1 dL_law_282 (lv_at hl 13 rfl) ?_
        refine cz_i hJ (rzV (As := [.int (nI k)]) (rest := [.int (sumN (stF σ 4) k)]) S hJ (c_isKept l _ σ hok hk2 hn hX) (cw_L_X3_isKept S.2.2.2.2 ⟨by omega, by omega⟩) (rcX hJ.iv) rfl hl.1 (Nat.le_of_ble_eq_true rfl) dL_law_284 ⟨by omega, by omega⟩) (fun r2 σ2 H locs hq2 hJ => ?_)
        obtain ⟨hr2, hs2⟩ := hq2
        rw [hs2] at hJ
        rw [hr2, show (if (gP σ k).1 = 4 then (1 : Int32) else 0) = 0 from if_neg (by omega)]
        refine lv_if_eq (tgt := 294) S.1 S.2.1 dL_law_287 (by decide) (fun cz_287 => ?_) (fun c9 => absurd (by decide) c9)
        refine lv_iconst (v := 0) S.1 S.2.1 dL_law_294 (by decide) ?_
        refine lv_iadd S.1 S.2.1 dL_law_295 ?_
        refine lv_istore (lv' := [(11, .int ((sumN (stF σ 4) k) + 0)), (14, .int 1), (0, .ref (gE G 6)), (1, .ref (gB G 0)), (2, .ref q0), (3, .int (nI tt)), (4, .int x4), (5, .long (digF σ n)), (7, .int (nI n)), (8, .int (sumN (onF σ) 5)), (9, .int (sumN (fun w => owF σ (nI w)) 6)), (10, .int (sumN (honF σ) 6)), (12, .int (sumN (stF σ 5) k)), (13, .int (nI k))]) S.1 S.2.1 dL_law_296 hl (by decide) rfl (fun ls hl => ?_)
        refine lv_iload S.1 S.2.1 dL_law_298 (lv_at hl 12 rfl) ?_
        refine lv_aload_n S.1 S.2.1 dL_law_300 rfl (lv_at hl 3 rfl) ?_
        refine lv_iload S.1 S.2.1 dL_law_301 (lv_at hl 13 rfl) ?_
        refine cz_i hJ (rzV (As := [.int (nI k)]) (rest := [.int (sumN (stF σ 5) k)]) S hJ (c_isExpired l _ σ hok hk2 hn hX) (cw_L_X3_isExpired S.2.2.2.2 ⟨by omega, by omega⟩) (rcX hJ.iv) rfl hl.1 (Nat.le_of_ble_eq_true rfl) dL_law_303 ⟨by omega, by omega⟩) (fun r3 σ3 H locs hq3 hJ => ?_)
        obtain ⟨hr3, hs3⟩ := hq3
        rw [hs3] at hJ
        rw [hr3, show (if (gP σ k).1 = 5 then (1 : Int32) else 0) = 0 from if_neg (by omega)]
        refine lv_if_eq (tgt := 313) S.1 S.2.1 dL_law_306 (by decide) (fun cz_306 => ?_) (fun c9 => absurd (by decide) c9)
        refine lv_iconst (v := 0) S.1 S.2.1 dL_law_313 (by decide) ?_
        refine lv_iadd S.1 S.2.1 dL_law_314 ?_
        refine lv_istore (lv' := [(12, .int ((sumN (stF σ 5) k) + 0)), (11, .int ((sumN (stF σ 4) k) + 0)), (14, .int 1), (0, .ref (gE G 6)), (1, .ref (gB G 0)), (2, .ref q0), (3, .int (nI tt)), (4, .int x4), (5, .long (digF σ n)), (7, .int (nI n)), (8, .int (sumN (onF σ) 5)), (9, .int (sumN (fun w => owF σ (nI w)) 6)), (10, .int (sumN (honF σ) 6)), (13, .int (nI k))]) S.1 S.2.1 dL_law_315 hl (by decide) rfl (fun ls hl => ?_)
        refine lv_aload_n S.1 S.2.1 dL_law_317 rfl (lv_at hl 4 rfl) ?_
        refine lv_iload S.1 S.2.1 dL_law_318 (lv_at hl 13 rfl) ?_
        refine cz_i hJ (rzV (As := [.int (nI k)]) (rest := []) S hJ (c_isFrozen l _ σ hok hk2 hn hX) (cw_L_X3_isFrozen S.2.2.2.2 ⟨by omega, by omega⟩) (rcX hJ.iv) rfl hl.1 (Nat.le_of_ble_eq_true rfl) dL_law_320 ⟨by omega, by omega⟩) (fun r4 σ4 H locs hq4 hJ => ?_)
        obtain ⟨hr4, hs4⟩ := hq4
        rw [hs4] at hJ
        rw [hr4, show (if (gP σ k).1 = 2 then (1 : Int32) else 0) = 0 from if_neg (by omega)]
        refine lv_if_eq (tgt := 335) S.1 S.2.1 dL_law_323 (by decide) (fun cz_323 => ?_) (fun c9 => absurd (by decide) c9)
        refine lv_iload S.1 S.2.1 dL_law_335 (lv_at hl 2 rfl) ?_
        refine lv_if_ne (tgt := 358) S.1 S.2.1 dL_law_337 (by decide) (fun cz_337 => ?_) (fun c9 => absurd c9 (by decide))
        refine lv_iload S.1 S.2.1 dL_law_358 (lv_at hl 2 rfl) ?_
        refine lv_if_eq (tgt := 391) S.1 S.2.1 dL_law_360 (by decide) (fun c9 => absurd c9 (by decide)) (fun cz_360 => ?_)
        refine lv_aload_n S.1 S.2.1 dL_law_363 rfl (lv_at hl 4 rfl) ?_
        refine lv_iload S.1 S.2.1 dL_law_364 (lv_at hl 13 rfl) ?_
        refine cz_i hJ (rzV (As := [.int (nI k)]) (rest := []) S hJ (c_isKept l _ σ hok hk2 hn hX) (cw_L_X3_isKept S.2.2.2.2 ⟨by omega, by omega⟩) (rcX hJ.iv) rfl hl.1 (Nat.le_of_ble_eq_true rfl) dL_law_366 ⟨by omega, by omega⟩) (fun r5 σ5 H locs hq5 hJ => ?_)
        obtain ⟨hr5, hs5⟩ := hq5
        rw [hs5] at hJ
        rw [hr5, show (if (gP σ k).1 = 4 then (1 : Int32) else 0) = 0 from if_neg (by omega)]
        refine lv_if_ne (tgt := 463) S.1 S.2.1 dL_law_369 (by decide) (fun c9 => absurd (by decide) c9) (fun cz_369 => ?_)
        refine lv_aload_n S.1 S.2.1 dL_law_372 rfl (lv_at hl 4 rfl) ?_
        refine lv_iload S.1 S.2.1 dL_law_373 (lv_at hl 13 rfl) ?_
        refine cz_i hJ (rzV (As := [.int (nI k)]) (rest := []) S hJ (c_isExpired l _ σ hok hk2 hn hX) (cw_L_X3_isExpired S.2.2.2.2 ⟨by omega, by omega⟩) (rcX hJ.iv) rfl hl.1 (Nat.le_of_ble_eq_true rfl) dL_law_375 ⟨by omega, by omega⟩) (fun r6 σ6 H locs hq6 hJ => ?_)
        obtain ⟨hr6, hs6⟩ := hq6
        rw [hs6] at hJ
        rw [hr6, show (if (gP σ k).1 = 5 then (1 : Int32) else 0) = 0 from if_neg (by omega)]
        refine lv_if_ne (tgt := 463) S.1 S.2.1 dL_law_378 (by decide) (fun c9 => absurd (by decide) c9) (fun cz_378 => ?_)
        refine lv_aload_n S.1 S.2.1 dL_law_381 rfl (lv_at hl 4 rfl) ?_
        refine lv_iload S.1 S.2.1 dL_law_382 (lv_at hl 13 rfl) ?_
        refine cz_i hJ (rzV (As := [.int (nI k)]) (rest := []) S hJ (c_hoursLeft l _ σ hk2 hn hX) (cw_L_X3_hoursLeft S.2.2.2.2 ⟨by omega, by omega⟩) (rcX hJ.iv) rfl hl.1 (Nat.le_of_ble_eq_true rfl) dL_law_384 ⟨by omega, by omega⟩) (fun r7 σ7 H locs hq7 hJ => ?_)
        obtain ⟨hr7, hs7⟩ := hq7
        rw [hs7] at hJ
        rw [hr7]
        refine lv_iconst (v := 1) S.1 S.2.1 dL_law_387 (by decide) ?_
        refine lv_icmp_lt (tgt := 463) S.1 S.2.1 dL_law_388 (by decide) (fun c9 => absurd c9 (by rw [eL]; exact nI_nlt (b := 1) (by omega) (by omega))) (fun cz_388 => ?_)
        refine lv_aload_n S.1 S.2.1 dL_law_391 rfl (lv_at hl 4 rfl) ?_
        refine lv_iload S.1 S.2.1 dL_law_392 (lv_at hl 13 rfl) ?_
        refine cz_i hJ (rzV (As := [.int (nI k)]) (rest := []) S hJ (c_isKept l _ σ hok hk2 hn hX) (cw_L_X3_isKept S.2.2.2.2 ⟨by omega, by omega⟩) (rcX hJ.iv) rfl hl.1 (Nat.le_of_ble_eq_true rfl) dL_law_394 ⟨by omega, by omega⟩) (fun r8 σ8 H locs hq8 hJ => ?_)
        obtain ⟨hr8, hs8⟩ := hq8
        rw [hs8] at hJ
        rw [hr8, show (if (gP σ k).1 = 4 then (1 : Int32) else 0) = 0 from if_neg (by omega)]
        refine lv_if_eq (tgt := 409) S.1 S.2.1 dL_law_397 (by decide) (fun cz_397 => ?_) (fun c9 => absurd (by decide) c9)
        refine lv_aload_n S.1 S.2.1 dL_law_409 rfl (lv_at hl 4 rfl) ?_
        refine lv_iload S.1 S.2.1 dL_law_410 (lv_at hl 13 rfl) ?_
        refine cz_i hJ (rzV (As := [.int (nI k)]) (rest := []) S hJ (c_isExpired l _ σ hok hk2 hn hX) (cw_L_X3_isExpired S.2.2.2.2 ⟨by omega, by omega⟩) (rcX hJ.iv) rfl hl.1 (Nat.le_of_ble_eq_true rfl) dL_law_412 ⟨by omega, by omega⟩) (fun r9 σ9 H locs hq9 hJ => ?_)
        obtain ⟨hr9, hs9⟩ := hq9
        rw [hs9] at hJ
        rw [hr9, show (if (gP σ k).1 = 5 then (1 : Int32) else 0) = 0 from if_neg (by omega)]
        refine lv_if_eq (tgt := 427) S.1 S.2.1 dL_law_415 (by decide) (fun cz_415 => ?_) (fun c9 => absurd (by decide) c9)
        refine lv_aload_n S.1 S.2.1 dL_law_427 rfl (lv_at hl 4 rfl) ?_
        refine lv_iload S.1 S.2.1 dL_law_428 (lv_at hl 13 rfl) ?_
        refine cz_i hJ (rzV (As := [.int (nI k)]) (rest := []) S hJ (c_ageOf l _ σ hk2 hn hX) (cw_L_X3_ageOf S.2.2.2.2 ⟨by omega, by omega⟩) (rcX hJ.iv) rfl hl.1 (Nat.le_of_ble_eq_true rfl) dL_law_430 ⟨by omega, by omega⟩) (fun r10 σ10 H locs hq10 hJ => ?_)
        obtain ⟨hr10, hs10⟩ := hq10
        rw [hs10] at hJ
        rw [hr10]
        refine lv_if_lt (tgt := 463) S.1 S.2.1 dL_law_433 (by decide) (fun c9 => absurd c9 (by rw [e6]; exact nI_pos (by omega))) (fun cz_433 => ?_)
        refine lv_aload_n S.1 S.2.1 dL_law_436 rfl (lv_at hl 4 rfl) ?_
        refine lv_iload S.1 S.2.1 dL_law_437 (lv_at hl 13 rfl) ?_
        refine cz_i hJ (rzV (As := [.int (nI k)]) (rest := []) S hJ (c_hoursLeft l _ σ hk2 hn hX) (cw_L_X3_hoursLeft S.2.2.2.2 ⟨by omega, by omega⟩) (rcX hJ.iv) rfl hl.1 (Nat.le_of_ble_eq_true rfl) dL_law_439 ⟨by omega, by omega⟩) (fun r11 σ11 H locs hq11 hJ => ?_)
        obtain ⟨hr11, hs11⟩ := hq11
        rw [hs11] at hJ
        rw [hr11]
        refine lv_if_lt (tgt := 463) S.1 S.2.1 dL_law_442 (by decide) (fun c9 => absurd c9 (by rw [eL]; exact nI_pos (by omega))) (fun cz_442 => ?_)
        refine lv_aload_n S.1 S.2.1 dL_law_445 rfl (lv_at hl 4 rfl) ?_
        refine lv_iload S.1 S.2.1 dL_law_446 (lv_at hl 13 rfl) ?_
        refine cz_i hJ (rzV (As := [.int (nI k)]) (rest := []) S hJ (c_ageOf l _ σ hk2 hn hX) (cw_L_X3_ageOf S.2.2.2.2 ⟨by omega, by omega⟩) (rcX hJ.iv) rfl hl.1 (Nat.le_of_ble_eq_true rfl) dL_law_448 ⟨by omega, by omega⟩) (fun r12 σ12 H locs hq12 hJ => ?_)
        obtain ⟨hr12, hs12⟩ := hq12
        rw [hs12] at hJ
        rw [hr12]
        refine lv_aload_n S.1 S.2.1 dL_law_451 rfl (lv_at hl 4 rfl) ?_
        refine lv_iload S.1 S.2.1 dL_law_452 (lv_at hl 13 rfl) ?_
        refine cz_i hJ (rzV (As := [.int (nI k)]) (rest := [.int ((gP σ k).2.2.2.2.1)]) S hJ (c_hoursLeft l _ σ hk2 hn hX) (cw_L_X3_hoursLeft S.2.2.2.2 ⟨by omega, by omega⟩) (rcX hJ.iv) rfl hl.1 (Nat.le_of_ble_eq_true rfl) dL_law_454 ⟨by omega, by omega⟩) (fun r13 σ13 H locs hq13 hJ => ?_)
        obtain ⟨hr13, hs13⟩ := hq13
        rw [hs13] at hJ
        rw [hr13]
        refine lv_iadd S.1 S.2.1 dL_law_457 ?_
        refine lv_bipush (v := 100) S.1 S.2.1 dL_law_458 (by decide) ?_
        refine lv_icmp_le (tgt := 465) S.1 S.2.1 dL_law_460 (by decide) (fun cz_460 => ?_) (fun c9 => absurd (by rw [eG]; exact nI_le (b := 100) e5 (by omega)) c9)
        refine lv_iinc (v := (nI (k + 1))) (lv' := [(13, .int (nI (k + 1))), (12, .int ((sumN (stF σ 5) k) + 0)), (11, .int ((sumN (stF σ 4) k) + 0)), (14, .int 1), (0, .ref (gE G 6)), (1, .ref (gB G 0)), (2, .ref q0), (3, .int (nI tt)), (4, .int x4), (5, .long (digF σ n)), (7, .int (nI n)), (8, .int (sumN (onF σ) 5)), (9, .int (sumN (fun w => owF σ (nI w)) 6)), (10, .int (sumN (honF σ) 6))]) S.1 S.2.1 dL_law_465 hl (k := 13) rfl (nI_1 k) (by decide) rfl (fun ls hl => ?_)
        refine lv_goto (tgt := 256) S.1 S.2.1 dL_law_468 (by decide) ?_
        exact ih (k + 1) (by omega) _ _ hJ ls (by rw [show sumN (stF σ 4) (k + 1) = ((sumN (stF σ 4) k) + 0) from (by rw [sumN_s]; exact congrArg (fun z => sumN (stF σ 4) k + z) (if_neg (by omega))), show sumN (stF σ 5) (k + 1) = ((sumN (stF σ 5) k) + 0) from (by rw [sumN_s]; exact congrArg (fun z => sumN (stF σ 5) k + z) (if_neg (by omega)))]; exact lv_sub hl [4, 5, 6, 7, 8, 9, 10, 11, 12, 13, 2, 1, 0] rfl)
      · refine lv_iload S.1 S.2.1 dL_law_256 (lv_at hl 12 rfl) ?_
        refine lv_iload S.1 S.2.1 dL_law_258 (lv_at hl 6 rfl) ?_
        refine lv_icmp_ge (tgt := 471) S.1 S.2.1 dL_law_260 (by decide) (fun c9 => absurd c9 (nI_ge hk2 (by omega))) (fun cz_260 => ?_)
        refine lv_aload_n S.1 S.2.1 dL_law_263 rfl (lv_at hl 1 rfl) ?_
        refine lv_iload S.1 S.2.1 dL_law_264 (lv_at hl 12 rfl) ?_
        refine cz_i hJ (rzV (As := [.int (nI k)]) (rest := []) S hJ (c_shelfOf l _ σ hok hk2 hn hX) (cw_L_X3_shelfOf S.2.2.2.2 ⟨by omega, by omega⟩) (rcX hJ.iv) rfl hl.1 (Nat.le_of_ble_eq_true rfl) dL_law_266 ⟨by omega, by omega⟩) (fun r1 σ1 H locs hq1 hJ => ?_)
        obtain ⟨hr1, hs1⟩ := hq1
        rw [hs1] at hJ
        rw [hr1, if_neg (show ¬ (gP σ k).2.1 < 5 by omega)]
        refine lv_if_lt (tgt := 276) S.1 S.2.1 dL_law_269 (by decide) (fun cz_269 => ?_) (fun c9 => absurd (by decide) c9)
        refine lv_iconst (v := 0) S.1 S.2.1 dL_law_276 (by decide) ?_
        refine lv_istore (lv' := [(14, .int 0), (0, .ref (gE G 6)), (1, .ref (gB G 0)), (2, .ref q0), (3, .int (nI tt)), (4, .int x4), (5, .long (digF σ n)), (7, .int (nI n)), (8, .int (sumN (onF σ) 5)), (9, .int (sumN (fun w => owF σ (nI w)) 6)), (10, .int (sumN (honF σ) 6)), (11, .int (sumN (stF σ 4) k)), (12, .int (sumN (stF σ 5) k)), (13, .int (nI k))]) S.1 S.2.1 dL_law_277 hl (by decide) rfl (fun ls hl => ?_)
        refine lv_iload S.1 S.2.1 dL_law_279 (lv_at hl 11 rfl) ?_
        refine lv_aload_n S.1 S.2.1 dL_law_281 rfl (lv_at hl 2 rfl) ?_
        refine lv_iload S.1 S.2.1 dL_law_282 (lv_at hl 13 rfl) ?_
        refine cz_i hJ (rzV (As := [.int (nI k)]) (rest := [.int (sumN (stF σ 4) k)]) S hJ (c_isKept l _ σ hok hk2 hn hX) (cw_L_X3_isKept S.2.2.2.2 ⟨by omega, by omega⟩) (rcX hJ.iv) rfl hl.1 (Nat.le_of_ble_eq_true rfl) dL_law_284 ⟨by omega, by omega⟩) (fun r2 σ2 H locs hq2 hJ => ?_)
        obtain ⟨hr2, hs2⟩ := hq2
        rw [hs2] at hJ
        rw [hr2, show (if (gP σ k).1 = 4 then (1 : Int32) else 0) = 1 from if_pos hg]
        refine lv_if_eq (tgt := 294) S.1 S.2.1 dL_law_287 (by decide) (fun c9 => absurd c9 (by decide)) (fun cz_287 => ?_)
        refine lv_iconst (v := 1) S.1 S.2.1 dL_law_290 (by decide) ?_
        refine lv_goto (tgt := 295) S.1 S.2.1 dL_law_291 (by decide) ?_
        refine lv_iadd S.1 S.2.1 dL_law_295 ?_
        refine lv_istore (lv' := [(11, .int ((sumN (stF σ 4) k) + 1)), (14, .int 0), (0, .ref (gE G 6)), (1, .ref (gB G 0)), (2, .ref q0), (3, .int (nI tt)), (4, .int x4), (5, .long (digF σ n)), (7, .int (nI n)), (8, .int (sumN (onF σ) 5)), (9, .int (sumN (fun w => owF σ (nI w)) 6)), (10, .int (sumN (honF σ) 6)), (12, .int (sumN (stF σ 5) k)), (13, .int (nI k))]) S.1 S.2.1 dL_law_296 hl (by decide) rfl (fun ls hl => ?_)
        refine lv_iload S.1 S.2.1 dL_law_298 (lv_at hl 12 rfl) ?_
        refine lv_aload_n S.1 S.2.1 dL_law_300 rfl (lv_at hl 3 rfl) ?_
        refine lv_iload S.1 S.2.1 dL_law_301 (lv_at hl 13 rfl) ?_
        refine cz_i hJ (rzV (As := [.int (nI k)]) (rest := [.int (sumN (stF σ 5) k)]) S hJ (c_isExpired l _ σ hok hk2 hn hX) (cw_L_X3_isExpired S.2.2.2.2 ⟨by omega, by omega⟩) (rcX hJ.iv) rfl hl.1 (Nat.le_of_ble_eq_true rfl) dL_law_303 ⟨by omega, by omega⟩) (fun r3 σ3 H locs hq3 hJ => ?_)
        obtain ⟨hr3, hs3⟩ := hq3
        rw [hs3] at hJ
        rw [hr3, show (if (gP σ k).1 = 5 then (1 : Int32) else 0) = 0 from if_neg (by omega)]
        refine lv_if_eq (tgt := 313) S.1 S.2.1 dL_law_306 (by decide) (fun cz_306 => ?_) (fun c9 => absurd (by decide) c9)
        refine lv_iconst (v := 0) S.1 S.2.1 dL_law_313 (by decide) ?_
        refine lv_iadd S.1 S.2.1 dL_law_314 ?_
        refine lv_istore (lv' := [(12, .int ((sumN (stF σ 5) k) + 0)), (11, .int ((sumN (stF σ 4) k) + 1)), (14, .int 0), (0, .ref (gE G 6)), (1, .ref (gB G 0)), (2, .ref q0), (3, .int (nI tt)), (4, .int x4), (5, .long (digF σ n)), (7, .int (nI n)), (8, .int (sumN (onF σ) 5)), (9, .int (sumN (fun w => owF σ (nI w)) 6)), (10, .int (sumN (honF σ) 6)), (13, .int (nI k))]) S.1 S.2.1 dL_law_315 hl (by decide) rfl (fun ls hl => ?_)
        refine lv_aload_n S.1 S.2.1 dL_law_317 rfl (lv_at hl 4 rfl) ?_
        refine lv_iload S.1 S.2.1 dL_law_318 (lv_at hl 13 rfl) ?_
        refine cz_i hJ (rzV (As := [.int (nI k)]) (rest := []) S hJ (c_isFrozen l _ σ hok hk2 hn hX) (cw_L_X3_isFrozen S.2.2.2.2 ⟨by omega, by omega⟩) (rcX hJ.iv) rfl hl.1 (Nat.le_of_ble_eq_true rfl) dL_law_320 ⟨by omega, by omega⟩) (fun r4 σ4 H locs hq4 hJ => ?_)
        obtain ⟨hr4, hs4⟩ := hq4
        rw [hs4] at hJ
        rw [hr4, show (if (gP σ k).1 = 2 then (1 : Int32) else 0) = 0 from if_neg (by omega)]
        refine lv_if_eq (tgt := 335) S.1 S.2.1 dL_law_323 (by decide) (fun cz_323 => ?_) (fun c9 => absurd (by decide) c9)
        refine lv_iload S.1 S.2.1 dL_law_335 (lv_at hl 2 rfl) ?_
        refine lv_if_ne (tgt := 358) S.1 S.2.1 dL_law_337 (by decide) (fun c9 => absurd (by decide) c9) (fun cz_337 => ?_)
        refine lv_aload_n S.1 S.2.1 dL_law_340 rfl (lv_at hl 4 rfl) ?_
        refine lv_iload S.1 S.2.1 dL_law_341 (lv_at hl 13 rfl) ?_
        refine cz_i hJ (rzV (As := [.int (nI k)]) (rest := []) S hJ (c_isFrozen l _ σ hok hk2 hn hX) (cw_L_X3_isFrozen S.2.2.2.2 ⟨by omega, by omega⟩) (rcX hJ.iv) rfl hl.1 (Nat.le_of_ble_eq_true rfl) dL_law_343 ⟨by omega, by omega⟩) (fun r5 σ5 H locs hq5 hJ => ?_)
        obtain ⟨hr5, hs5⟩ := hq5
        rw [hs5] at hJ
        rw [hr5, show (if (gP σ k).1 = 2 then (1 : Int32) else 0) = 0 from if_neg (by omega)]
        refine lv_if_ne (tgt := 463) S.1 S.2.1 dL_law_346 (by decide) (fun c9 => absurd (by decide) c9) (fun cz_346 => ?_)
        refine lv_aload_n S.1 S.2.1 dL_law_349 rfl (lv_at hl 4 rfl) ?_
        refine lv_iload S.1 S.2.1 dL_law_350 (lv_at hl 13 rfl) ?_
        refine cz_i hJ (rzV (As := [.int (nI k)]) (rest := []) S hJ (c_isThawed l _ σ hok hk2 hn hX) (cw_L_X3_isThawed S.2.2.2.2 ⟨by omega, by omega⟩) (rcX hJ.iv) rfl hl.1 (Nat.le_of_ble_eq_true rfl) dL_law_352 ⟨by omega, by omega⟩) (fun r6 σ6 H locs hq6 hJ => ?_)
        obtain ⟨hr6, hs6⟩ := hq6
        rw [hs6] at hJ
        rw [hr6, show (if (gP σ k).1 = 3 then (1 : Int32) else 0) = 0 from if_neg (by omega)]
        refine lv_if_ne (tgt := 463) S.1 S.2.1 dL_law_355 (by decide) (fun c9 => absurd (by decide) c9) (fun cz_355 => ?_)
        refine lv_iload S.1 S.2.1 dL_law_358 (lv_at hl 2 rfl) ?_
        refine lv_if_eq (tgt := 391) S.1 S.2.1 dL_law_360 (by decide) (fun cz_360 => ?_) (fun c9 => absurd (by decide) c9)
        refine lv_aload_n S.1 S.2.1 dL_law_391 rfl (lv_at hl 4 rfl) ?_
        refine lv_iload S.1 S.2.1 dL_law_392 (lv_at hl 13 rfl) ?_
        refine cz_i hJ (rzV (As := [.int (nI k)]) (rest := []) S hJ (c_isKept l _ σ hok hk2 hn hX) (cw_L_X3_isKept S.2.2.2.2 ⟨by omega, by omega⟩) (rcX hJ.iv) rfl hl.1 (Nat.le_of_ble_eq_true rfl) dL_law_394 ⟨by omega, by omega⟩) (fun r7 σ7 H locs hq7 hJ => ?_)
        obtain ⟨hr7, hs7⟩ := hq7
        rw [hs7] at hJ
        rw [hr7, show (if (gP σ k).1 = 4 then (1 : Int32) else 0) = 1 from if_pos hg]
        refine lv_if_eq (tgt := 409) S.1 S.2.1 dL_law_397 (by decide) (fun c9 => absurd c9 (by decide)) (fun cz_397 => ?_)
        refine lv_aload_n S.1 S.2.1 dL_law_400 rfl (lv_at hl 4 rfl) ?_
        refine lv_iload S.1 S.2.1 dL_law_401 (lv_at hl 13 rfl) ?_
        refine cz_i hJ (rzV (As := [.int (nI k)]) (rest := []) S hJ (c_isExpired l _ σ hok hk2 hn hX) (cw_L_X3_isExpired S.2.2.2.2 ⟨by omega, by omega⟩) (rcX hJ.iv) rfl hl.1 (Nat.le_of_ble_eq_true rfl) dL_law_403 ⟨by omega, by omega⟩) (fun r8 σ8 H locs hq8 hJ => ?_)
        obtain ⟨hr8, hs8⟩ := hq8
        rw [hs8] at hJ
        rw [hr8, show (if (gP σ k).1 = 5 then (1 : Int32) else 0) = 0 from if_neg (by omega)]
        refine lv_if_ne (tgt := 463) S.1 S.2.1 dL_law_406 (by decide) (fun c9 => absurd (by decide) c9) (fun cz_406 => ?_)
        refine lv_aload_n S.1 S.2.1 dL_law_409 rfl (lv_at hl 4 rfl) ?_
        refine lv_iload S.1 S.2.1 dL_law_410 (lv_at hl 13 rfl) ?_
        refine cz_i hJ (rzV (As := [.int (nI k)]) (rest := []) S hJ (c_isExpired l _ σ hok hk2 hn hX) (cw_L_X3_isExpired S.2.2.2.2 ⟨by omega, by omega⟩) (rcX hJ.iv) rfl hl.1 (Nat.le_of_ble_eq_true rfl) dL_law_412 ⟨by omega, by omega⟩) (fun r9 σ9 H locs hq9 hJ => ?_)
        obtain ⟨hr9, hs9⟩ := hq9
        rw [hs9] at hJ
        rw [hr9, show (if (gP σ k).1 = 5 then (1 : Int32) else 0) = 0 from if_neg (by omega)]
        refine lv_if_eq (tgt := 427) S.1 S.2.1 dL_law_415 (by decide) (fun cz_415 => ?_) (fun c9 => absurd (by decide) c9)
        refine lv_aload_n S.1 S.2.1 dL_law_427 rfl (lv_at hl 4 rfl) ?_
        refine lv_iload S.1 S.2.1 dL_law_428 (lv_at hl 13 rfl) ?_
        refine cz_i hJ (rzV (As := [.int (nI k)]) (rest := []) S hJ (c_ageOf l _ σ hk2 hn hX) (cw_L_X3_ageOf S.2.2.2.2 ⟨by omega, by omega⟩) (rcX hJ.iv) rfl hl.1 (Nat.le_of_ble_eq_true rfl) dL_law_430 ⟨by omega, by omega⟩) (fun r10 σ10 H locs hq10 hJ => ?_)
        obtain ⟨hr10, hs10⟩ := hq10
        rw [hs10] at hJ
        rw [hr10]
        refine lv_if_lt (tgt := 463) S.1 S.2.1 dL_law_433 (by decide) (fun c9 => absurd c9 (by rw [e6]; exact nI_pos (by omega))) (fun cz_433 => ?_)
        refine lv_aload_n S.1 S.2.1 dL_law_436 rfl (lv_at hl 4 rfl) ?_
        refine lv_iload S.1 S.2.1 dL_law_437 (lv_at hl 13 rfl) ?_
        refine cz_i hJ (rzV (As := [.int (nI k)]) (rest := []) S hJ (c_hoursLeft l _ σ hk2 hn hX) (cw_L_X3_hoursLeft S.2.2.2.2 ⟨by omega, by omega⟩) (rcX hJ.iv) rfl hl.1 (Nat.le_of_ble_eq_true rfl) dL_law_439 ⟨by omega, by omega⟩) (fun r11 σ11 H locs hq11 hJ => ?_)
        obtain ⟨hr11, hs11⟩ := hq11
        rw [hs11] at hJ
        rw [hr11]
        refine lv_if_lt (tgt := 463) S.1 S.2.1 dL_law_442 (by decide) (fun c9 => absurd c9 (by rw [eL]; exact nI_pos (by omega))) (fun cz_442 => ?_)
        refine lv_aload_n S.1 S.2.1 dL_law_445 rfl (lv_at hl 4 rfl) ?_
        refine lv_iload S.1 S.2.1 dL_law_446 (lv_at hl 13 rfl) ?_
        refine cz_i hJ (rzV (As := [.int (nI k)]) (rest := []) S hJ (c_ageOf l _ σ hk2 hn hX) (cw_L_X3_ageOf S.2.2.2.2 ⟨by omega, by omega⟩) (rcX hJ.iv) rfl hl.1 (Nat.le_of_ble_eq_true rfl) dL_law_448 ⟨by omega, by omega⟩) (fun r12 σ12 H locs hq12 hJ => ?_)
        obtain ⟨hr12, hs12⟩ := hq12
        rw [hs12] at hJ
        rw [hr12]
        refine lv_aload_n S.1 S.2.1 dL_law_451 rfl (lv_at hl 4 rfl) ?_
        refine lv_iload S.1 S.2.1 dL_law_452 (lv_at hl 13 rfl) ?_
        refine cz_i hJ (rzV (As := [.int (nI k)]) (rest := [.int ((gP σ k).2.2.2.2.1)]) S hJ (c_hoursLeft l _ σ hk2 hn hX) (cw_L_X3_hoursLeft S.2.2.2.2 ⟨by omega, by omega⟩) (rcX hJ.iv) rfl hl.1 (Nat.le_of_ble_eq_true rfl) dL_law_454 ⟨by omega, by omega⟩) (fun r13 σ13 H locs hq13 hJ => ?_)
        obtain ⟨hr13, hs13⟩ := hq13
        rw [hs13] at hJ
        rw [hr13]
        refine lv_iadd S.1 S.2.1 dL_law_457 ?_
        refine lv_bipush (v := 100) S.1 S.2.1 dL_law_458 (by decide) ?_
        refine lv_icmp_le (tgt := 465) S.1 S.2.1 dL_law_460 (by decide) (fun cz_460 => ?_) (fun c9 => absurd (by rw [eG]; exact nI_le (b := 100) e5 (by omega)) c9)
        refine lv_iinc (v := (nI (k + 1))) (lv' := [(13, .int (nI (k + 1))), (12, .int ((sumN (stF σ 5) k) + 0)), (11, .int ((sumN (stF σ 4) k) + 1)), (14, .int 0), (0, .ref (gE G 6)), (1, .ref (gB G 0)), (2, .ref q0), (3, .int (nI tt)), (4, .int x4), (5, .long (digF σ n)), (7, .int (nI n)), (8, .int (sumN (onF σ) 5)), (9, .int (sumN (fun w => owF σ (nI w)) 6)), (10, .int (sumN (honF σ) 6))]) S.1 S.2.1 dL_law_465 hl (k := 13) rfl (nI_1 k) (by decide) rfl (fun ls hl => ?_)
        refine lv_goto (tgt := 256) S.1 S.2.1 dL_law_468 (by decide) ?_
        exact ih (k + 1) (by omega) _ _ hJ ls (by rw [show sumN (stF σ 4) (k + 1) = ((sumN (stF σ 4) k) + 1) from (by rw [sumN_s]; exact congrArg (fun z => sumN (stF σ 4) k + z) (if_pos hg)), show sumN (stF σ 5) (k + 1) = ((sumN (stF σ 5) k) + 0) from (by rw [sumN_s]; exact congrArg (fun z => sumN (stF σ 5) k + z) (if_neg (by omega)))]; exact lv_sub hl [4, 5, 6, 7, 8, 9, 10, 11, 12, 13, 2, 1, 0] rfl)
      · refine lv_iload S.1 S.2.1 dL_law_256 (lv_at hl 12 rfl) ?_
        refine lv_iload S.1 S.2.1 dL_law_258 (lv_at hl 6 rfl) ?_
        refine lv_icmp_ge (tgt := 471) S.1 S.2.1 dL_law_260 (by decide) (fun c9 => absurd c9 (nI_ge hk2 (by omega))) (fun cz_260 => ?_)
        refine lv_aload_n S.1 S.2.1 dL_law_263 rfl (lv_at hl 1 rfl) ?_
        refine lv_iload S.1 S.2.1 dL_law_264 (lv_at hl 12 rfl) ?_
        refine cz_i hJ (rzV (As := [.int (nI k)]) (rest := []) S hJ (c_shelfOf l _ σ hok hk2 hn hX) (cw_L_X3_shelfOf S.2.2.2.2 ⟨by omega, by omega⟩) (rcX hJ.iv) rfl hl.1 (Nat.le_of_ble_eq_true rfl) dL_law_266 ⟨by omega, by omega⟩) (fun r1 σ1 H locs hq1 hJ => ?_)
        obtain ⟨hr1, hs1⟩ := hq1
        rw [hs1] at hJ
        rw [hr1, if_neg (show ¬ (gP σ k).2.1 < 5 by omega)]
        refine lv_if_lt (tgt := 276) S.1 S.2.1 dL_law_269 (by decide) (fun cz_269 => ?_) (fun c9 => absurd (by decide) c9)
        refine lv_iconst (v := 0) S.1 S.2.1 dL_law_276 (by decide) ?_
        refine lv_istore (lv' := [(14, .int 0), (0, .ref (gE G 6)), (1, .ref (gB G 0)), (2, .ref q0), (3, .int (nI tt)), (4, .int x4), (5, .long (digF σ n)), (7, .int (nI n)), (8, .int (sumN (onF σ) 5)), (9, .int (sumN (fun w => owF σ (nI w)) 6)), (10, .int (sumN (honF σ) 6)), (11, .int (sumN (stF σ 4) k)), (12, .int (sumN (stF σ 5) k)), (13, .int (nI k))]) S.1 S.2.1 dL_law_277 hl (by decide) rfl (fun ls hl => ?_)
        refine lv_iload S.1 S.2.1 dL_law_279 (lv_at hl 11 rfl) ?_
        refine lv_aload_n S.1 S.2.1 dL_law_281 rfl (lv_at hl 2 rfl) ?_
        refine lv_iload S.1 S.2.1 dL_law_282 (lv_at hl 13 rfl) ?_
        refine cz_i hJ (rzV (As := [.int (nI k)]) (rest := [.int (sumN (stF σ 4) k)]) S hJ (c_isKept l _ σ hok hk2 hn hX) (cw_L_X3_isKept S.2.2.2.2 ⟨by omega, by omega⟩) (rcX hJ.iv) rfl hl.1 (Nat.le_of_ble_eq_true rfl) dL_law_284 ⟨by omega, by omega⟩) (fun r2 σ2 H locs hq2 hJ => ?_)
        obtain ⟨hr2, hs2⟩ := hq2
        rw [hs2] at hJ
        rw [hr2, show (if (gP σ k).1 = 4 then (1 : Int32) else 0) = 0 from if_neg (by omega)]
        refine lv_if_eq (tgt := 294) S.1 S.2.1 dL_law_287 (by decide) (fun cz_287 => ?_) (fun c9 => absurd (by decide) c9)
        refine lv_iconst (v := 0) S.1 S.2.1 dL_law_294 (by decide) ?_
        refine lv_iadd S.1 S.2.1 dL_law_295 ?_
        refine lv_istore (lv' := [(11, .int ((sumN (stF σ 4) k) + 0)), (14, .int 0), (0, .ref (gE G 6)), (1, .ref (gB G 0)), (2, .ref q0), (3, .int (nI tt)), (4, .int x4), (5, .long (digF σ n)), (7, .int (nI n)), (8, .int (sumN (onF σ) 5)), (9, .int (sumN (fun w => owF σ (nI w)) 6)), (10, .int (sumN (honF σ) 6)), (12, .int (sumN (stF σ 5) k)), (13, .int (nI k))]) S.1 S.2.1 dL_law_296 hl (by decide) rfl (fun ls hl => ?_)
        refine lv_iload S.1 S.2.1 dL_law_298 (lv_at hl 12 rfl) ?_
        refine lv_aload_n S.1 S.2.1 dL_law_300 rfl (lv_at hl 3 rfl) ?_
        refine lv_iload S.1 S.2.1 dL_law_301 (lv_at hl 13 rfl) ?_
        refine cz_i hJ (rzV (As := [.int (nI k)]) (rest := [.int (sumN (stF σ 5) k)]) S hJ (c_isExpired l _ σ hok hk2 hn hX) (cw_L_X3_isExpired S.2.2.2.2 ⟨by omega, by omega⟩) (rcX hJ.iv) rfl hl.1 (Nat.le_of_ble_eq_true rfl) dL_law_303 ⟨by omega, by omega⟩) (fun r3 σ3 H locs hq3 hJ => ?_)
        obtain ⟨hr3, hs3⟩ := hq3
        rw [hs3] at hJ
        rw [hr3, show (if (gP σ k).1 = 5 then (1 : Int32) else 0) = 1 from if_pos hg]
        refine lv_if_eq (tgt := 313) S.1 S.2.1 dL_law_306 (by decide) (fun c9 => absurd c9 (by decide)) (fun cz_306 => ?_)
        refine lv_iconst (v := 1) S.1 S.2.1 dL_law_309 (by decide) ?_
        refine lv_goto (tgt := 314) S.1 S.2.1 dL_law_310 (by decide) ?_
        refine lv_iadd S.1 S.2.1 dL_law_314 ?_
        refine lv_istore (lv' := [(12, .int ((sumN (stF σ 5) k) + 1)), (11, .int ((sumN (stF σ 4) k) + 0)), (14, .int 0), (0, .ref (gE G 6)), (1, .ref (gB G 0)), (2, .ref q0), (3, .int (nI tt)), (4, .int x4), (5, .long (digF σ n)), (7, .int (nI n)), (8, .int (sumN (onF σ) 5)), (9, .int (sumN (fun w => owF σ (nI w)) 6)), (10, .int (sumN (honF σ) 6)), (13, .int (nI k))]) S.1 S.2.1 dL_law_315 hl (by decide) rfl (fun ls hl => ?_)
        refine lv_aload_n S.1 S.2.1 dL_law_317 rfl (lv_at hl 4 rfl) ?_
        refine lv_iload S.1 S.2.1 dL_law_318 (lv_at hl 13 rfl) ?_
        refine cz_i hJ (rzV (As := [.int (nI k)]) (rest := []) S hJ (c_isFrozen l _ σ hok hk2 hn hX) (cw_L_X3_isFrozen S.2.2.2.2 ⟨by omega, by omega⟩) (rcX hJ.iv) rfl hl.1 (Nat.le_of_ble_eq_true rfl) dL_law_320 ⟨by omega, by omega⟩) (fun r4 σ4 H locs hq4 hJ => ?_)
        obtain ⟨hr4, hs4⟩ := hq4
        rw [hs4] at hJ
        rw [hr4, show (if (gP σ k).1 = 2 then (1 : Int32) else 0) = 0 from if_neg (by omega)]
        refine lv_if_eq (tgt := 335) S.1 S.2.1 dL_law_323 (by decide) (fun cz_323 => ?_) (fun c9 => absurd (by decide) c9)
        refine lv_iload S.1 S.2.1 dL_law_335 (lv_at hl 2 rfl) ?_
        refine lv_if_ne (tgt := 358) S.1 S.2.1 dL_law_337 (by decide) (fun c9 => absurd (by decide) c9) (fun cz_337 => ?_)
        refine lv_aload_n S.1 S.2.1 dL_law_340 rfl (lv_at hl 4 rfl) ?_
        refine lv_iload S.1 S.2.1 dL_law_341 (lv_at hl 13 rfl) ?_
        refine cz_i hJ (rzV (As := [.int (nI k)]) (rest := []) S hJ (c_isFrozen l _ σ hok hk2 hn hX) (cw_L_X3_isFrozen S.2.2.2.2 ⟨by omega, by omega⟩) (rcX hJ.iv) rfl hl.1 (Nat.le_of_ble_eq_true rfl) dL_law_343 ⟨by omega, by omega⟩) (fun r5 σ5 H locs hq5 hJ => ?_)
        obtain ⟨hr5, hs5⟩ := hq5
        rw [hs5] at hJ
        rw [hr5, show (if (gP σ k).1 = 2 then (1 : Int32) else 0) = 0 from if_neg (by omega)]
        refine lv_if_ne (tgt := 463) S.1 S.2.1 dL_law_346 (by decide) (fun c9 => absurd (by decide) c9) (fun cz_346 => ?_)
        refine lv_aload_n S.1 S.2.1 dL_law_349 rfl (lv_at hl 4 rfl) ?_
        refine lv_iload S.1 S.2.1 dL_law_350 (lv_at hl 13 rfl) ?_
        refine cz_i hJ (rzV (As := [.int (nI k)]) (rest := []) S hJ (c_isThawed l _ σ hok hk2 hn hX) (cw_L_X3_isThawed S.2.2.2.2 ⟨by omega, by omega⟩) (rcX hJ.iv) rfl hl.1 (Nat.le_of_ble_eq_true rfl) dL_law_352 ⟨by omega, by omega⟩) (fun r6 σ6 H locs hq6 hJ => ?_)
        obtain ⟨hr6, hs6⟩ := hq6
        rw [hs6] at hJ
        rw [hr6, show (if (gP σ k).1 = 3 then (1 : Int32) else 0) = 0 from if_neg (by omega)]
        refine lv_if_ne (tgt := 463) S.1 S.2.1 dL_law_355 (by decide) (fun c9 => absurd (by decide) c9) (fun cz_355 => ?_)
        refine lv_iload S.1 S.2.1 dL_law_358 (lv_at hl 2 rfl) ?_
        refine lv_if_eq (tgt := 391) S.1 S.2.1 dL_law_360 (by decide) (fun cz_360 => ?_) (fun c9 => absurd (by decide) c9)
        refine lv_aload_n S.1 S.2.1 dL_law_391 rfl (lv_at hl 4 rfl) ?_
        refine lv_iload S.1 S.2.1 dL_law_392 (lv_at hl 13 rfl) ?_
        refine cz_i hJ (rzV (As := [.int (nI k)]) (rest := []) S hJ (c_isKept l _ σ hok hk2 hn hX) (cw_L_X3_isKept S.2.2.2.2 ⟨by omega, by omega⟩) (rcX hJ.iv) rfl hl.1 (Nat.le_of_ble_eq_true rfl) dL_law_394 ⟨by omega, by omega⟩) (fun r7 σ7 H locs hq7 hJ => ?_)
        obtain ⟨hr7, hs7⟩ := hq7
        rw [hs7] at hJ
        rw [hr7, show (if (gP σ k).1 = 4 then (1 : Int32) else 0) = 0 from if_neg (by omega)]
        refine lv_if_eq (tgt := 409) S.1 S.2.1 dL_law_397 (by decide) (fun cz_397 => ?_) (fun c9 => absurd (by decide) c9)
        refine lv_aload_n S.1 S.2.1 dL_law_409 rfl (lv_at hl 4 rfl) ?_
        refine lv_iload S.1 S.2.1 dL_law_410 (lv_at hl 13 rfl) ?_
        refine cz_i hJ (rzV (As := [.int (nI k)]) (rest := []) S hJ (c_isExpired l _ σ hok hk2 hn hX) (cw_L_X3_isExpired S.2.2.2.2 ⟨by omega, by omega⟩) (rcX hJ.iv) rfl hl.1 (Nat.le_of_ble_eq_true rfl) dL_law_412 ⟨by omega, by omega⟩) (fun r8 σ8 H locs hq8 hJ => ?_)
        obtain ⟨hr8, hs8⟩ := hq8
        rw [hs8] at hJ
        rw [hr8, show (if (gP σ k).1 = 5 then (1 : Int32) else 0) = 1 from if_pos hg]
        refine lv_if_eq (tgt := 427) S.1 S.2.1 dL_law_415 (by decide) (fun c9 => absurd c9 (by decide)) (fun cz_415 => ?_)
        refine lv_aload_n S.1 S.2.1 dL_law_418 rfl (lv_at hl 4 rfl) ?_
        refine lv_iload S.1 S.2.1 dL_law_419 (lv_at hl 13 rfl) ?_
        refine cz_i hJ (rzV (As := [.int (nI k)]) (rest := []) S hJ (c_hoursLeft l _ σ hk2 hn hX) (cw_L_X3_hoursLeft S.2.2.2.2 ⟨by omega, by omega⟩) (rcX hJ.iv) rfl hl.1 (Nat.le_of_ble_eq_true rfl) dL_law_421 ⟨by omega, by omega⟩) (fun r9 σ9 H locs hq9 hJ => ?_)
        obtain ⟨hr9, hs9⟩ := hq9
        rw [hs9] at hJ
        rw [hr9]
        refine lv_if_ne (tgt := 463) S.1 S.2.1 dL_law_424 (by decide) (fun c9 => absurd (by rw [eL, hal, Nat.sub_self]; rfl) c9) (fun cz_424 => ?_)
        refine lv_aload_n S.1 S.2.1 dL_law_427 rfl (lv_at hl 4 rfl) ?_
        refine lv_iload S.1 S.2.1 dL_law_428 (lv_at hl 13 rfl) ?_
        refine cz_i hJ (rzV (As := [.int (nI k)]) (rest := []) S hJ (c_ageOf l _ σ hk2 hn hX) (cw_L_X3_ageOf S.2.2.2.2 ⟨by omega, by omega⟩) (rcX hJ.iv) rfl hl.1 (Nat.le_of_ble_eq_true rfl) dL_law_430 ⟨by omega, by omega⟩) (fun r10 σ10 H locs hq10 hJ => ?_)
        obtain ⟨hr10, hs10⟩ := hq10
        rw [hs10] at hJ
        rw [hr10]
        refine lv_if_lt (tgt := 463) S.1 S.2.1 dL_law_433 (by decide) (fun c9 => absurd c9 (by rw [e6]; exact nI_pos (by omega))) (fun cz_433 => ?_)
        refine lv_aload_n S.1 S.2.1 dL_law_436 rfl (lv_at hl 4 rfl) ?_
        refine lv_iload S.1 S.2.1 dL_law_437 (lv_at hl 13 rfl) ?_
        refine cz_i hJ (rzV (As := [.int (nI k)]) (rest := []) S hJ (c_hoursLeft l _ σ hk2 hn hX) (cw_L_X3_hoursLeft S.2.2.2.2 ⟨by omega, by omega⟩) (rcX hJ.iv) rfl hl.1 (Nat.le_of_ble_eq_true rfl) dL_law_439 ⟨by omega, by omega⟩) (fun r11 σ11 H locs hq11 hJ => ?_)
        obtain ⟨hr11, hs11⟩ := hq11
        rw [hs11] at hJ
        rw [hr11]
        refine lv_if_lt (tgt := 463) S.1 S.2.1 dL_law_442 (by decide) (fun c9 => absurd c9 (by rw [eL]; exact nI_pos (by omega))) (fun cz_442 => ?_)
        refine lv_aload_n S.1 S.2.1 dL_law_445 rfl (lv_at hl 4 rfl) ?_
        refine lv_iload S.1 S.2.1 dL_law_446 (lv_at hl 13 rfl) ?_
        refine cz_i hJ (rzV (As := [.int (nI k)]) (rest := []) S hJ (c_ageOf l _ σ hk2 hn hX) (cw_L_X3_ageOf S.2.2.2.2 ⟨by omega, by omega⟩) (rcX hJ.iv) rfl hl.1 (Nat.le_of_ble_eq_true rfl) dL_law_448 ⟨by omega, by omega⟩) (fun r12 σ12 H locs hq12 hJ => ?_)
        obtain ⟨hr12, hs12⟩ := hq12
        rw [hs12] at hJ
        rw [hr12]
        refine lv_aload_n S.1 S.2.1 dL_law_451 rfl (lv_at hl 4 rfl) ?_
        refine lv_iload S.1 S.2.1 dL_law_452 (lv_at hl 13 rfl) ?_
        refine cz_i hJ (rzV (As := [.int (nI k)]) (rest := [.int ((gP σ k).2.2.2.2.1)]) S hJ (c_hoursLeft l _ σ hk2 hn hX) (cw_L_X3_hoursLeft S.2.2.2.2 ⟨by omega, by omega⟩) (rcX hJ.iv) rfl hl.1 (Nat.le_of_ble_eq_true rfl) dL_law_454 ⟨by omega, by omega⟩) (fun r13 σ13 H locs hq13 hJ => ?_)
        obtain ⟨hr13, hs13⟩ := hq13
        rw [hs13] at hJ
        rw [hr13]
        refine lv_iadd S.1 S.2.1 dL_law_457 ?_
        refine lv_bipush (v := 100) S.1 S.2.1 dL_law_458 (by decide) ?_
        refine lv_icmp_le (tgt := 465) S.1 S.2.1 dL_law_460 (by decide) (fun cz_460 => ?_) (fun c9 => absurd (by rw [eG]; exact nI_le (b := 100) e5 (by omega)) c9)
        refine lv_iinc (v := (nI (k + 1))) (lv' := [(13, .int (nI (k + 1))), (12, .int ((sumN (stF σ 5) k) + 1)), (11, .int ((sumN (stF σ 4) k) + 0)), (14, .int 0), (0, .ref (gE G 6)), (1, .ref (gB G 0)), (2, .ref q0), (3, .int (nI tt)), (4, .int x4), (5, .long (digF σ n)), (7, .int (nI n)), (8, .int (sumN (onF σ) 5)), (9, .int (sumN (fun w => owF σ (nI w)) 6)), (10, .int (sumN (honF σ) 6))]) S.1 S.2.1 dL_law_465 hl (k := 13) rfl (nI_1 k) (by decide) rfl (fun ls hl => ?_)
        refine lv_goto (tgt := 256) S.1 S.2.1 dL_law_468 (by decide) ?_
        exact ih (k + 1) (by omega) _ _ hJ ls (by rw [show sumN (stF σ 4) (k + 1) = ((sumN (stF σ 4) k) + 0) from (by rw [sumN_s]; exact congrArg (fun z => sumN (stF σ 4) k + z) (if_neg (by omega))), show sumN (stF σ 5) (k + 1) = ((sumN (stF σ 5) k) + 1) from (by rw [sumN_s]; exact congrArg (fun z => sumN (stF σ 5) k + z) (if_pos hg))]; exact lv_sub hl [4, 5, 6, 7, 8, 9, 10, 11, 12, 13, 2, 1, 0] rfl)
  have loop2 : ∀ (n9 k : Nat), k + n9 = 6 → ∀ (H : Heap) (locs : List Loc), Jw G (fw G σ ((q0, q1, q2, q3), aR) (hh, pw, ar, st, ht, n, row) []) s H locs → ∀ ls : Array Slot, lv_has ls 31 [(0, .ref (gE G 6)), (1, .ref (gB G 0)), (2, .ref q0), (3, .int (nI tt)), (4, .int x4), (5, .long (digF σ n)), (7, .int (nI n)), (8, .int (sumN (onF σ) 5)), (9, .int (sumN (fun w => owF σ (nI w)) k)), (10, .int (sumN (honF σ) k)), (11, .int (nI k))] → W p l e R s m args below meth c H locs cells slots Q (F0 m 193 ls []) := by
    intro n9
    induction n9 with
    | zero =>
      intro k hk0 H locs hJ ls hl
      have hkN : k = 6 := by omega
      subst hkN
      refine lv_iload S.1 S.2.1 dL_law_193 (lv_at hl 10 rfl) ?_
      refine lv_bipush (v := (nI 6)) S.1 S.2.1 dL_law_195 (by rfl) ?_
      refine lv_icmp_ge (tgt := 247) S.1 S.2.1 dL_law_197 (by decide) (fun cz_197 => ?_) (fun c9 => absurd (nI_le (a := 6) (b := 6) (Nat.le_refl 6) (by omega)) c9)
      refine lv_iconst (v := 0) S.1 S.2.1 dL_law_247 (by decide) ?_
      refine lv_istore (lv' := [(11, .int 0), (0, .ref (gE G 6)), (1, .ref (gB G 0)), (2, .ref q0), (3, .int (nI tt)), (4, .int x4), (5, .long (digF σ n)), (7, .int (nI n)), (8, .int (sumN (onF σ) 5)), (9, .int (sumN (fun w => owF σ (nI w)) 6)), (10, .int (sumN (honF σ) 6))]) S.1 S.2.1 dL_law_248 hl (by decide) rfl (fun ls hl => ?_)
      refine lv_iconst (v := 0) S.1 S.2.1 dL_law_250 (by decide) ?_
      refine lv_istore (lv' := [(12, .int 0), (11, .int 0), (0, .ref (gE G 6)), (1, .ref (gB G 0)), (2, .ref q0), (3, .int (nI tt)), (4, .int x4), (5, .long (digF σ n)), (7, .int (nI n)), (8, .int (sumN (onF σ) 5)), (9, .int (sumN (fun w => owF σ (nI w)) 6)), (10, .int (sumN (honF σ) 6))]) S.1 S.2.1 dL_law_251 hl (by decide) rfl (fun ls hl => ?_)
      refine lv_iconst (v := (nI 0)) S.1 S.2.1 dL_law_253 (by rfl) ?_
      refine lv_istore (lv' := [(13, .int (nI 0)), (12, .int 0), (11, .int 0), (0, .ref (gE G 6)), (1, .ref (gB G 0)), (2, .ref q0), (3, .int (nI tt)), (4, .int x4), (5, .long (digF σ n)), (7, .int (nI n)), (8, .int (sumN (onF σ) 5)), (9, .int (sumN (fun w => owF σ (nI w)) 6)), (10, .int (sumN (honF σ) 6))]) S.1 S.2.1 dL_law_254 hl (by decide) rfl (fun ls hl => ?_)
      exact loop3 n 0 (by omega) _ _ hJ ls (lv_sub hl [3, 4, 5, 6, 7, 8, 9, 10, 11, 12, 2, 1, 0] rfl)
    | succ n9 ih =>
      intro k hk0 H locs hJ ls hl
      have hk2 : k < 6 := by omega
      have hm6 : mostF σ 5 < 6 := by have := mostF_le σ 5; omega
      refine lv_iload S.1 S.2.1 dL_law_193 (lv_at hl 10 rfl) ?_
      refine lv_bipush (v := (nI 6)) S.1 S.2.1 dL_law_195 (by rfl) ?_
      refine lv_icmp_ge (tgt := 247) S.1 S.2.1 dL_law_197 (by decide) (fun c9 => absurd c9 (nI_ge (b := 6) hk2 (by omega))) (fun cz_197 => ?_)
      refine lv_iload S.1 S.2.1 dL_law_200 (lv_at hl 8 rfl) ?_
      refine lv_aload_n S.1 S.2.1 dL_law_202 rfl (lv_at hl 1 rfl) ?_
      refine lv_iload S.1 S.2.1 dL_law_203 (lv_at hl 10 rfl) ?_
      refine cz_i hJ (rzV (As := [.int (nI k)]) (rest := [.int (sumN (fun w => owF σ (nI w)) k)]) S hJ (c_owedBy l _ σ hk2) (cw_L_X3_owedBy S.2.2.2.2 ⟨by omega, by omega⟩) (rcX hJ.iv) rfl hl.1 (Nat.le_of_ble_eq_true rfl) dL_law_205 ⟨by omega, by omega⟩) (fun r1 σ1 H locs hq1 hJ => ?_)
      obtain ⟨hr1, hs1⟩ := hq1
      rw [hs1] at hJ
      rw [hr1]
      refine lv_iadd S.1 S.2.1 dL_law_208 ?_
      refine lv_istore (lv' := [(9, .int ((sumN (fun w => owF σ (nI w)) k) + (owF σ (nI k)))), (0, .ref (gE G 6)), (1, .ref (gB G 0)), (2, .ref q0), (3, .int (nI tt)), (4, .int x4), (5, .long (digF σ n)), (7, .int (nI n)), (8, .int (sumN (onF σ) 5)), (10, .int (sumN (honF σ) k)), (11, .int (nI k))]) S.1 S.2.1 dL_law_209 hl (by decide) rfl (fun ls hl => ?_)
      refine lv_iload S.1 S.2.1 dL_law_211 (lv_at hl 9 rfl) ?_
      refine lv_aload_n S.1 S.2.1 dL_law_213 rfl (lv_at hl 2 rfl) ?_
      refine lv_iload S.1 S.2.1 dL_law_214 (lv_at hl 10 rfl) ?_
      refine cz_i hJ (rzV (As := [.int (nI k)]) (rest := [.int (sumN (honF σ) k)]) S hJ (c_honourOf l _ σ hok (a := k) hk2) (cw_L_X3_honourOf S.2.2.2.2 ⟨by omega, by omega⟩) (rcX hJ.iv) rfl hl.1 (Nat.le_of_ble_eq_true rfl) dL_law_216 ⟨by omega, by omega⟩) (fun r2 σ2 H locs hq2 hJ => ?_)
      obtain ⟨hr2, hs2⟩ := hq2
      rw [hs2] at hJ
      rw [hr2]
      refine lv_iadd S.1 S.2.1 dL_law_219 ?_
      refine lv_istore (lv' := [(10, .int ((sumN (honF σ) k) + (honF σ k))), (9, .int ((sumN (fun w => owF σ (nI w)) k) + (owF σ (nI k)))), (0, .ref (gE G 6)), (1, .ref (gB G 0)), (2, .ref q0), (3, .int (nI tt)), (4, .int x4), (5, .long (digF σ n)), (7, .int (nI n)), (8, .int (sumN (onF σ) 5)), (11, .int (nI k))]) S.1 S.2.1 dL_law_220 hl (by decide) rfl (fun ls hl => ?_)
      refine lv_aload_n S.1 S.2.1 dL_law_222 rfl (lv_at hl 3 rfl) ?_
      refine lv_iload S.1 S.2.1 dL_law_223 (lv_at hl 10 rfl) ?_
      refine cz_i hJ (rzV (As := [.int (nI k)]) (rest := []) S hJ (c_honourOf l _ σ hok (a := k) hk2) (cw_L_X3_honourOf S.2.2.2.2 ⟨by omega, by omega⟩) (rcX hJ.iv) rfl hl.1 (Nat.le_of_ble_eq_true rfl) dL_law_225 ⟨by omega, by omega⟩) (fun r3 σ3 H locs hq3 hJ => ?_)
      obtain ⟨hr3, hs3⟩ := hq3
      rw [hs3] at hJ
      rw [hr3]
      refine lv_aload_n S.1 S.2.1 dL_law_228 rfl (lv_at hl 3 rfl) ?_
      refine lv_aload_n S.1 S.2.1 dL_law_229 rfl (lv_at hl 3 rfl) ?_
      refine cz_i hJ (rzV (As := []) (rest := [.ref (gB G 0), .int (honF σ k)]) S hJ (c_mostHonourable l _ σ hok) (cw_L_X3_mostHonourable S.2.2.2.2 ⟨by omega, by omega⟩) (rcX hJ.iv) rfl hl.1 (Nat.le_of_ble_eq_true rfl) dL_law_230 ⟨by omega, by omega⟩) (fun r4 σ4 H locs hq4 hJ => ?_)
      obtain ⟨hr4, hs4⟩ := hq4
      rw [hs4] at hJ
      rw [hr4]
      refine cz_i hJ (rzV (As := [.int (nI (mostF σ 5))]) (rest := [.int (honF σ k)]) S hJ (c_honourOf l _ σ hok (a := (mostF σ 5)) hm6) (cw_L_X3_honourOf S.2.2.2.2 ⟨by omega, by omega⟩) (rcX hJ.iv) rfl hl.1 (Nat.le_of_ble_eq_true rfl) dL_law_233 ⟨by omega, by omega⟩) (fun r5 σ5 H locs hq5 hJ => ?_)
      obtain ⟨hr5, hs5⟩ := hq5
      rw [hs5] at hJ
      rw [hr5]
      refine lv_icmp_le (tgt := 241) S.1 S.2.1 dL_law_236 (by decide) (fun cz_236 => ?_) (fun c9 => absurd (mostF_max σ (by omega)) c9)
      refine lv_iinc (v := (nI (k + 1))) (lv' := [(11, .int (nI (k + 1))), (10, .int ((sumN (honF σ) k) + (honF σ k))), (9, .int ((sumN (fun w => owF σ (nI w)) k) + (owF σ (nI k)))), (0, .ref (gE G 6)), (1, .ref (gB G 0)), (2, .ref q0), (3, .int (nI tt)), (4, .int x4), (5, .long (digF σ n)), (7, .int (nI n)), (8, .int (sumN (onF σ) 5))]) S.1 S.2.1 dL_law_241 hl (k := 10) rfl (nI_1 k) (by decide) rfl (fun ls hl => ?_)
      refine lv_goto (tgt := 193) S.1 S.2.1 dL_law_244 (by decide) ?_
      exact ih (k + 1) (by omega) _ _ hJ ls (lv_sub hl [3, 4, 5, 6, 7, 8, 9, 10, 2, 1, 0] rfl)
  have loop1 : ∀ (n9 k : Nat), k + n9 = 5 → ∀ (H : Heap) (locs : List Loc), Jw G (fw G σ ((q0, q1, q2, q3), aR) (hh, pw, ar, st, ht, n, row) []) s H locs → ∀ ls : Array Slot, lv_has ls 31 [(0, .ref (gE G 6)), (1, .ref (gB G 0)), (2, .ref q0), (3, .int (nI tt)), (4, .int x4), (5, .long (digF σ n)), (7, .int (nI n)), (8, .int (sumN (onF σ) k)), (9, .int 0), (10, .int 0), (11, .int (nI k))] → W p l e R s m args below meth c H locs cells slots Q (F0 m 104 ls []) := by
    intro n9
    induction n9 with
    | zero =>
      intro k hk0 H locs hJ ls hl
      have hkN : k = 5 := by omega
      subst hkN
      refine lv_iload S.1 S.2.1 dL_law_104 (lv_at hl 10 rfl) ?_
      refine lv_iconst (v := (nI 5)) S.1 S.2.1 dL_law_106 (by rfl) ?_
      refine lv_icmp_ge (tgt := 190) S.1 S.2.1 dL_law_107 (by decide) (fun cz_107 => ?_) (fun c9 => absurd (nI_le (a := 5) (b := 5) (Nat.le_refl 5) (by omega)) c9)
      refine lv_iconst (v := (nI 0)) S.1 S.2.1 dL_law_190 (by rfl) ?_
      refine lv_istore (lv' := [(11, .int (nI 0)), (0, .ref (gE G 6)), (1, .ref (gB G 0)), (2, .ref q0), (3, .int (nI tt)), (4, .int x4), (5, .long (digF σ n)), (7, .int (nI n)), (8, .int (sumN (onF σ) 5)), (9, .int 0), (10, .int 0)]) S.1 S.2.1 dL_law_191 hl (by decide) rfl (fun ls hl => ?_)
      exact loop2 6 0 rfl _ _ hJ ls (lv_sub hl [1, 2, 3, 4, 5, 6, 7, 8, 9, 10, 0] rfl)
    | succ n9 ih =>
      intro k hk0 H locs hJ ls hl
      have hk2 : k < 5 := by omega
      have hc5 : coldF σ 4 < 5 := by have := coldF_le σ 4; omega
      have hB := hI.2.2.2.1 k hk2
      refine lv_iload S.1 S.2.1 dL_law_104 (lv_at hl 10 rfl) ?_
      refine lv_iconst (v := (nI 5)) S.1 S.2.1 dL_law_106 (by rfl) ?_
      refine lv_icmp_ge (tgt := 190) S.1 S.2.1 dL_law_107 (by decide) (fun c9 => absurd c9 (nI_ge (b := 5) hk2 (by omega))) (fun cz_107 => ?_)
      refine lv_iload S.1 S.2.1 dL_law_110 (lv_at hl 7 rfl) ?_
      refine lv_aload_n S.1 S.2.1 dL_law_112 rfl (lv_at hl 1 rfl) ?_
      refine lv_iload S.1 S.2.1 dL_law_113 (lv_at hl 10 rfl) ?_
      refine cz_i hJ (rzV (As := [.int (nI k)]) (rest := [.int (sumN (onF σ) k)]) S hJ (c_promisesOn l _ σ hk2) (cw_L_X3_promisesOn S.2.2.2.2 ⟨by omega, by omega⟩) (rcX hJ.iv) rfl hl.1 (Nat.le_of_ble_eq_true rfl) dL_law_115 ⟨by omega, by omega⟩) (fun r1 σ1 H locs hq1 hJ => ?_)
      obtain ⟨hr1, hs1⟩ := hq1
      rw [hs1] at hJ
      rw [hr1]
      refine lv_iadd S.1 S.2.1 dL_law_118 ?_
      refine lv_istore (lv' := [(8, .int ((sumN (onF σ) k) + (onF σ k))), (0, .ref (gE G 6)), (1, .ref (gB G 0)), (2, .ref q0), (3, .int (nI tt)), (4, .int x4), (5, .long (digF σ n)), (7, .int (nI n)), (9, .int 0), (10, .int 0), (11, .int (nI k))]) S.1 S.2.1 dL_law_119 hl (by decide) rfl (fun ls hl => ?_)
      refine lv_aload_n S.1 S.2.1 dL_law_121 rfl (lv_at hl 2 rfl) ?_
      refine lv_iload S.1 S.2.1 dL_law_122 (lv_at hl 10 rfl) ?_
      refine cz_i hJ (rzV (As := [.int (nI k)]) (rest := []) S hJ (c_settingOf l _ σ hk2) (cw_L_X3_settingOf S.2.2.2.2 ⟨by omega, by omega⟩) (rcX hJ.iv) rfl hl.1 (Nat.le_of_ble_eq_true rfl) dL_law_124 ⟨by omega, by omega⟩) (fun r2 σ2 H locs hq2 hJ => ?_)
      obtain ⟨hr2, hs2⟩ := hq2
      rw [hs2] at hJ
      rw [hr2]
      refine lv_bipush (v := (-30)) S.1 S.2.1 dL_law_127 (by decide) ?_
      refine lv_icmp_lt (tgt := 182) S.1 S.2.1 dL_law_129 (by decide) (fun c9 => absurd c9 (Int32.not_lt.mpr hB.1)) (fun cz_129 => ?_)
      refine lv_aload_n S.1 S.2.1 dL_law_132 rfl (lv_at hl 2 rfl) ?_
      refine lv_iload S.1 S.2.1 dL_law_133 (lv_at hl 10 rfl) ?_
      refine cz_i hJ (rzV (As := [.int (nI k)]) (rest := []) S hJ (c_settingOf l _ σ hk2) (cw_L_X3_settingOf S.2.2.2.2 ⟨by omega, by omega⟩) (rcX hJ.iv) rfl hl.1 (Nat.le_of_ble_eq_true rfl) dL_law_135 ⟨by omega, by omega⟩) (fun r3 σ3 H locs hq3 hJ => ?_)
      obtain ⟨hr3, hs3⟩ := hq3
      rw [hs3] at hJ
      rw [hr3]
      refine lv_bipush (v := (-5)) S.1 S.2.1 dL_law_138 (by decide) ?_
      refine lv_icmp_gt (tgt := 182) S.1 S.2.1 dL_law_140 (by decide) (fun c9 => absurd c9 (Int32.not_lt.mpr hB.2.1)) (fun cz_140 => ?_)
      refine lv_aload_n S.1 S.2.1 dL_law_143 rfl (lv_at hl 2 rfl) ?_
      refine lv_iload S.1 S.2.1 dL_law_144 (lv_at hl 10 rfl) ?_
      refine cz_i hJ (rzV (As := [.int (nI k)]) (rest := []) S hJ (c_heatOn l _ σ (k := k) hk2) (cw_L_X3_heatOn S.2.2.2.2 ⟨by omega, by omega⟩) (rcX hJ.iv) rfl hl.1 (Nat.le_of_ble_eq_true rfl) dL_law_146 ⟨by omega, by omega⟩) (fun r4 σ4 H locs hq4 hJ => ?_)
      obtain ⟨hr4, hs4⟩ := hq4
      rw [hs4] at hJ
      rw [hr4]
      refine lv_bipush (v := (-30)) S.1 S.2.1 dL_law_149 (by decide) ?_
      refine lv_icmp_lt (tgt := 182) S.1 S.2.1 dL_law_151 (by decide) (fun c9 => absurd c9 (Int32.not_lt.mpr hB.2.2.1)) (fun cz_151 => ?_)
      refine lv_aload_n S.1 S.2.1 dL_law_154 rfl (lv_at hl 2 rfl) ?_
      refine lv_iload S.1 S.2.1 dL_law_155 (lv_at hl 10 rfl) ?_
      refine cz_i hJ (rzV (As := [.int (nI k)]) (rest := []) S hJ (c_heatOn l _ σ (k := k) hk2) (cw_L_X3_heatOn S.2.2.2.2 ⟨by omega, by omega⟩) (rcX hJ.iv) rfl hl.1 (Nat.le_of_ble_eq_true rfl) dL_law_157 ⟨by omega, by omega⟩) (fun r5 σ5 H locs hq5 hJ => ?_)
      obtain ⟨hr5, hs5⟩ := hq5
      rw [hs5] at hJ
      rw [hr5]
      refine lv_bipush (v := 20) S.1 S.2.1 dL_law_160 (by decide) ?_
      refine lv_icmp_gt (tgt := 182) S.1 S.2.1 dL_law_162 (by decide) (fun c9 => absurd c9 (Int32.not_lt.mpr hB.2.2.2)) (fun cz_162 => ?_)
      refine lv_aload_n S.1 S.2.1 dL_law_165 rfl (lv_at hl 2 rfl) ?_
      refine lv_iload S.1 S.2.1 dL_law_166 (lv_at hl 10 rfl) ?_
      refine cz_i hJ (rzV (As := [.int (nI k)]) (rest := []) S hJ (c_heatOn l _ σ (k := k) hk2) (cw_L_X3_heatOn S.2.2.2.2 ⟨by omega, by omega⟩) (rcX hJ.iv) rfl hl.1 (Nat.le_of_ble_eq_true rfl) dL_law_168 ⟨by omega, by omega⟩) (fun r6 σ6 H locs hq6 hJ => ?_)
      obtain ⟨hr6, hs6⟩ := hq6
      rw [hs6] at hJ
      rw [hr6]
      refine lv_aload_n S.1 S.2.1 dL_law_171 rfl (lv_at hl 2 rfl) ?_
      refine lv_aload_n S.1 S.2.1 dL_law_172 rfl (lv_at hl 2 rfl) ?_
      refine cz_i hJ (rzV (As := []) (rest := [.ref (gB G 0), .int ((gS σ k).2)]) S hJ (c_coldest l _ σ) (cw_L_X3_coldest S.2.2.2.2 ⟨by omega, by omega⟩) (rcX hJ.iv) rfl hl.1 (Nat.le_of_ble_eq_true rfl) dL_law_173 ⟨by omega, by omega⟩) (fun r7 σ7 H locs hq7 hJ => ?_)
      obtain ⟨hr7, hs7⟩ := hq7
      rw [hs7] at hJ
      rw [hr7]
      refine cz_i hJ (rzV (As := [.int (nI (coldF σ 4))]) (rest := [.int ((gS σ k).2)]) S hJ (c_heatOn l _ σ (k := (coldF σ 4)) hc5) (cw_L_X3_heatOn S.2.2.2.2 ⟨by omega, by omega⟩) (rcX hJ.iv) rfl hl.1 (Nat.le_of_ble_eq_true rfl) dL_law_176 ⟨by omega, by omega⟩) (fun r8 σ8 H locs hq8 hJ => ?_)
      obtain ⟨hr8, hs8⟩ := hq8
      rw [hs8] at hJ
      rw [hr8]
      refine lv_icmp_ge (tgt := 184) S.1 S.2.1 dL_law_179 (by decide) (fun cz_179 => ?_) (fun c9 => absurd (coldF_min σ (by omega)) c9)
      refine lv_iinc (v := (nI (k + 1))) (lv' := [(11, .int (nI (k + 1))), (8, .int ((sumN (onF σ) k) + (onF σ k))), (0, .ref (gE G 6)), (1, .ref (gB G 0)), (2, .ref q0), (3, .int (nI tt)), (4, .int x4), (5, .long (digF σ n)), (7, .int (nI n)), (9, .int 0), (10, .int 0)]) S.1 S.2.1 dL_law_184 hl (k := 10) rfl (nI_1 k) (by decide) rfl (fun ls hl => ?_)
      refine lv_goto (tgt := 104) S.1 S.2.1 dL_law_187 (by decide) ?_
      exact ih (k + 1) (by omega) _ _ hJ ls (lv_sub hl [2, 3, 4, 5, 6, 7, 8, 1, 9, 10, 0] rfl)
  exact loop1 5 0 rfl _ _ hJ ls (lv_sub hl [6, 7, 8, 9, 10, 5, 4, 3, 2, 1, 0] rfl)
theorem told_lit {β : St} {q g : Nat} {F : Int32} (h : Told β q g F) : (if F = 0 then (1 : Int32) else 0) = if (gP β q).1 = g then 1 else 0 := by
  by_cases q2 : F = 0
  · rw [if_pos q2, if_pos (h.zero.mp q2)]
  · rw [if_neg q2, if_neg (fun q3 => q2 (h.zero.mpr q3))]
set_option maxRecDepth 100000 in
set_option maxHeartbeats 4000000 in
theorem lg_told (S : CallFix p m c cL_law 31 s args AL RL) (hF9 : 12 ≤ R.frames ∧ 448 ≤ R.locals) (hC9 : cells ≤ R.cells) (hS9 : slots ≤ R.slots) (kk9 : (∀ (σ : St) (q3 : Nat) (aR : Nat → Nat) (hh pw ar : Int32) (st ht : Nat → Int32) (n : Nat) (row : Nat → Z7) (o9 hN : Nat) (F1 F2 F3 : Int32), Pct σ (hh, pw, ar, st, ht, n, row) → 1 ≤ hN → hN ≤ 20 → (n = 0 ∨ (o9 < n ∧ Told σ o9 2 F1 ∧ Told σ o9 3 F2 ∧ Told σ o9 5 F3)) → ∀ (H : Heap) (locs : List Loc), Jw G (fw G σ ((q0, q1, q2, q3), aR) (hh, pw, ar, st, ht, n, row) []) s H locs → ∀ ls : Array Slot, lv_has ls 31 [(0, .ref (gE G 6)), (1, .ref (gB G 0)), (2, .ref q0), (3, .int (nI tt)), (7, .int (nI n)), (13, .int (nI o9)), (14, .int F1), (15, .int F2), (16, .int F3), (18, .int (nI hN)), (19, .int (sumN (leftF σ hN) 20))] → W p l e R s m args below meth c H locs cells slots Q (F0 m 676 ls []))) {σ : St} {q3 : Nat} {aR : Nat → Nat} {hh pw ar : Int32} {st ht : Nat → Int32} {n : Nat} {row : Nat → Z7} (hp : Pct σ (hh, pw, ar, st, ht, n, row)) (hJ : Jw G (fw G σ ((q0, q1, q2, q3), aR) (hh, pw, ar, st, ht, n, row) []) s H locs) (hl : lv_has ls 31 [(0, .ref (gE G 6)), (1, .ref (gB G 0)), (2, .ref q0), (3, .int (nI tt)), (4, .int x4), (5, .long (digF σ n)), (7, .int (nI n))]) : W p l e R s m args below meth c H locs cells slots Q (F0 m 503 ls []) := by
  have hn : n ≤ 20 := hp.1.1
  have hok := hp.1.ok
  rcases Nat.eq_zero_or_pos n with hn0 | hn0
  · refine lv_iload S.1 S.2.1 dL_law_503 (lv_at hl 6 rfl) ?_
    refine lv_if_ne (tgt := 512) S.1 S.2.1 dL_law_505 (by decide) (fun c9 => absurd (by rw [hn0]; rfl) c9) (fun cz_505 => ?_)
    refine lv_iconst (v := (nI 0)) S.1 S.2.1 dL_law_508 (by rfl) ?_
    refine lv_goto (tgt := 521) S.1 S.2.1 dL_law_509 (by decide) ?_
    refine lv_istore (lv' := [(13, .int (nI 0)), (0, .ref (gE G 6)), (1, .ref (gB G 0)), (2, .ref q0), (3, .int (nI tt)), (4, .int x4), (5, .long (digF σ n)), (7, .int (nI n))]) S.1 S.2.1 dL_law_521 hl (by decide) rfl (fun ls hl => ?_)
    refine lv_iload S.1 S.2.1 dL_law_523 (lv_at hl 7 rfl) ?_
    refine lv_if_ne (tgt := 532) S.1 S.2.1 dL_law_525 (by decide) (fun c9 => absurd (by rw [hn0]; rfl) c9) (fun cz_525 => ?_)
    refine lv_iconst (v := (-1)) S.1 S.2.1 dL_law_528 (by decide) ?_
    refine lv_goto (tgt := 538) S.1 S.2.1 dL_law_529 (by decide) ?_
    refine lv_istore (lv' := [(14, .int (-1)), (13, .int (nI 0)), (0, .ref (gE G 6)), (1, .ref (gB G 0)), (2, .ref q0), (3, .int (nI tt)), (4, .int x4), (5, .long (digF σ n)), (7, .int (nI n))]) S.1 S.2.1 dL_law_538 hl (by decide) rfl (fun ls hl => ?_)
    refine lv_iload S.1 S.2.1 dL_law_540 (lv_at hl 8 rfl) ?_
    refine lv_if_ne (tgt := 549) S.1 S.2.1 dL_law_542 (by decide) (fun c9 => absurd (by rw [hn0]; rfl) c9) (fun cz_542 => ?_)
    refine lv_iconst (v := (-1)) S.1 S.2.1 dL_law_545 (by decide) ?_
    refine lv_goto (tgt := 555) S.1 S.2.1 dL_law_546 (by decide) ?_
    refine lv_istore (lv' := [(15, .int (-1)), (14, .int (-1)), (13, .int (nI 0)), (0, .ref (gE G 6)), (1, .ref (gB G 0)), (2, .ref q0), (3, .int (nI tt)), (4, .int x4), (5, .long (digF σ n)), (7, .int (nI n))]) S.1 S.2.1 dL_law_555 hl (by decide) rfl (fun ls hl => ?_)
    refine lv_iload S.1 S.2.1 dL_law_557 (lv_at hl 9 rfl) ?_
    refine lv_if_ne (tgt := 566) S.1 S.2.1 dL_law_559 (by decide) (fun c9 => absurd (by rw [hn0]; rfl) c9) (fun cz_559 => ?_)
    refine lv_iconst (v := (-1)) S.1 S.2.1 dL_law_562 (by decide) ?_
    refine lv_goto (tgt := 572) S.1 S.2.1 dL_law_563 (by decide) ?_
    refine lv_istore (lv' := [(16, .int (-1)), (15, .int (-1)), (14, .int (-1)), (13, .int (nI 0)), (0, .ref (gE G 6)), (1, .ref (gB G 0)), (2, .ref q0), (3, .int (nI tt)), (4, .int x4), (5, .long (digF σ n)), (7, .int (nI n))]) S.1 S.2.1 dL_law_572 hl (by decide) rfl (fun ls hl => ?_)
    refine lv_aload_n S.1 S.2.1 dL_law_574 rfl (lv_at hl 5 rfl) ?_
    refine cz_i hJ (rzV (As := []) (rest := []) S hJ (c_bestShelf l _ σ (n0 := n) hn hp.1.2.1) (cw_L_X3_bestShelf S.2.2.2.2 ⟨by omega, by omega⟩) (rcX hJ.iv) rfl hl.1 (Nat.le_of_ble_eq_true rfl) dL_law_575 ⟨by omega, by omega⟩) (fun r1 σ1 H locs hq1 hJ => ?_)
    obtain ⟨hr1, hT1⟩ := hq1
    have tT1 : Tr σ σ1 := hT1
    have hp1 := hp.tr tT1
    rw [hr1]
    refine lv_istore (lv' := [(17, .int (if n < 20 then (bestF σ 5).1 else -1)), (16, .int (-1)), (15, .int (-1)), (14, .int (-1)), (13, .int (nI 0)), (0, .ref (gE G 6)), (1, .ref (gB G 0)), (2, .ref q0), (3, .int (nI tt)), (4, .int x4), (5, .long (digF σ n)), (7, .int (nI n))]) S.1 S.2.1 dL_law_578 hl (by decide) rfl (fun ls hl => ?_)
    refine lv_iconst (v := 1) S.1 S.2.1 dL_law_580 (by decide) ?_
    refine lv_iload S.1 S.2.1 dL_law_581 (lv_at hl 9 rfl) ?_
    refine lv_bipush (v := 6) S.1 S.2.1 dL_law_583 (by decide) ?_
    refine lv_ishr S.1 S.2.1 dL_law_585 ?_
    refine lv_bipush (v := (nI 20)) S.1 S.2.1 dL_law_586 (by rfl) ?_
    refine dw_i hJ (rwS (As := [.int (x4 >>> (6 &&& 31)), .int (nI 20)]) (rest := [.int 1]) S hJ (k_below l G (x4 >>> (6 &&& 31)) (N := 20) (by decide) (by decide)) (cw_L_L_below S.2.2.2.2 ⟨by omega, by omega⟩) rfl hl.1 (Nat.le_of_ble_eq_true rfl) dL_law_588 ⟨by omega, by omega⟩) (fun r2 ws2 H locs hq2 hJ => ?_)
    obtain ⟨⟨kh, hkh, hr2⟩, hw2⟩ := hq2
    subst hw2
    rw [hr2]
    refine lv_iadd S.1 S.2.1 dL_law_591 ?_
    rw [show (1 + (nI kh)) = (nI (1 + kh)) from nI_add 1 kh]
    refine lv_istore (lv' := [(18, .int (nI (1 + kh))), (17, .int (if n < 20 then (bestF σ 5).1 else -1)), (16, .int (-1)), (15, .int (-1)), (14, .int (-1)), (13, .int (nI 0)), (0, .ref (gE G 6)), (1, .ref (gB G 0)), (2, .ref q0), (3, .int (nI tt)), (4, .int x4), (5, .long (digF σ n)), (7, .int (nI n))]) S.1 S.2.1 dL_law_592 hl (by decide) rfl (fun ls hl => ?_)
    refine lv_aload_n S.1 S.2.1 dL_law_594 rfl (lv_at hl 7 rfl) ?_
    refine lv_iload S.1 S.2.1 dL_law_595 (lv_at hl 0 rfl) ?_
    refine cz_i hJ (rzV (As := [.int (nI (1 + kh))]) (rest := []) S hJ (c_leftIn l _ σ1 hp1.1.ok (h := 1 + kh) (by omega) (by omega)) (cw_L_X3_leftIn S.2.2.2.2 ⟨by omega, by omega⟩) (rcX hJ.iv) rfl hl.1 (Nat.le_of_ble_eq_true rfl) dL_law_597 ⟨by omega, by omega⟩) (fun r3 σ3 H locs hq3 hJ => ?_)
    obtain ⟨hr3, hT3⟩ := hq3
    have tT2 : Tr σ σ3 := tT1.trans hT3
    have hp2 := hp.tr tT2
    rw [hr3, tr_leftS hok tT1 (1 + kh)]
    refine lv_istore (lv' := [(19, .int (sumN (leftF σ (1 + kh)) 20)), (18, .int (nI (1 + kh))), (17, .int (if n < 20 then (bestF σ 5).1 else -1)), (16, .int (-1)), (15, .int (-1)), (14, .int (-1)), (13, .int (nI 0)), (0, .ref (gE G 6)), (1, .ref (gB G 0)), (2, .ref q0), (3, .int (nI tt)), (4, .int x4), (5, .long (digF σ n)), (7, .int (nI n))]) S.1 S.2.1 dL_law_600 hl (by decide) rfl (fun ls hl => ?_)
    refine lv_aload_n S.1 S.2.1 dL_law_602 rfl (lv_at hl 8 rfl) ?_
    refine cz_l hJ (rzV (As := []) (rest := []) S hJ (c_digest l _ σ3 hp2.1.ok hp2.1.1 hp2.1.gx hp2.1.2.2.1) (cw_L_X3_digest S.2.2.2.2 ⟨by omega, by omega⟩) (rcX hJ.iv) rfl hl.1 (Nat.le_of_ble_eq_true rfl) dL_law_603 ⟨by omega, by omega⟩) (fun r4 σ4 H locs hq4 hJ => ?_)
    obtain ⟨hr4, hT4⟩ := hq4
    have tT3 : Tr σ σ4 := tT2.trans hT4
    have hp3 := hp.tr tT3
    rw [hr4, tr_digF hok tT2 hn]
    refine lv_lload S.1 S.2.1 dL_law_606 (lv_at hl 12 rfl) ?_
    refine lw_lcmp S.1 S.2.1 dL_law_608 ?_
    refine lv_if_ne (tgt := 674) S.1 S.2.1 dL_law_609 (by decide) (fun c9 => absurd (by decide) c9) (fun cz_609 => ?_)
    refine lv_iload S.1 S.2.1 dL_law_612 (lv_at hl 13 rfl) ?_
    refine lv_if_le (tgt := 676) S.1 S.2.1 dL_law_614 (by decide) (fun cz_614 => ?_) (fun c9 => absurd (by rw [hn0]; decide) c9)
    exact kk9 _ _ _ _ _ _ _ _ _ _ 0 (1 + kh) (-1) (-1) (-1) hp3 (by omega) (by omega) (Or.inl hn0) _ _ hJ ls (by rw [tr_leftS hok tT3 (1 + kh)]; exact lv_sub hl [7, 8, 9, 10, 13, 6, 5, 4, 3, 1, 0] rfl)
  · refine lv_iload S.1 S.2.1 dL_law_503 (lv_at hl 6 rfl) ?_
    refine lv_if_ne (tgt := 512) S.1 S.2.1 dL_law_505 (by decide) (fun cz_505 => ?_) (fun c9 => absurd c9 (nI_nz9 hn0 (by omega)))
    refine lv_iload S.1 S.2.1 dL_law_512 (lv_at hl 4 rfl) ?_
    refine lv_iconst (v := 4) S.1 S.2.1 dL_law_514 (by decide) ?_
    refine lv_ishr S.1 S.2.1 dL_law_515 ?_
    refine lv_iload S.1 S.2.1 dL_law_516 (lv_at hl 6 rfl) ?_
    refine dw_i hJ (rwS (As := [.int (x4 >>> (4 &&& 31)), .int (nI n)]) (rest := []) S hJ (k_below l G (x4 >>> (4 &&& 31)) (N := n) hn0 (by omega)) (cw_L_L_below S.2.2.2.2 ⟨by omega, by omega⟩) rfl hl.1 (Nat.le_of_ble_eq_true rfl) dL_law_518 ⟨by omega, by omega⟩) (fun r5 ws5 H locs hq5 hJ => ?_)
    obtain ⟨⟨o9, ho9, hr5⟩, hw5⟩ := hq5
    subst hw5
    rw [hr5]
    refine lv_istore (lv' := [(13, .int (nI o9)), (0, .ref (gE G 6)), (1, .ref (gB G 0)), (2, .ref q0), (3, .int (nI tt)), (4, .int x4), (5, .long (digF σ n)), (7, .int (nI n))]) S.1 S.2.1 dL_law_521 hl (by decide) rfl (fun ls hl => ?_)
    refine lv_iload S.1 S.2.1 dL_law_523 (lv_at hl 7 rfl) ?_
    refine lv_if_ne (tgt := 532) S.1 S.2.1 dL_law_525 (by decide) (fun cz_525 => ?_) (fun c9 => absurd c9 (nI_nz9 hn0 (by omega)))
    refine lv_aload_n S.1 S.2.1 dL_law_532 rfl (lv_at hl 2 rfl) ?_
    refine lv_iload S.1 S.2.1 dL_law_533 (lv_at hl 0 rfl) ?_
    refine cz_i hJ (rzV (As := [.int (nI o9)]) (rest := []) S hJ (c_hoursUntilFrozen l _ σ hp.1.ok (i := o9) (n := n) ho9 hn hp.1.gx) (cw_L_X3_hoursUntilFrozen S.2.2.2.2 ⟨by omega, by omega⟩) (rcX hJ.iv) rfl hl.1 (Nat.le_of_ble_eq_true rfl) dL_law_535 ⟨by omega, by omega⟩) (fun r6 σ6 H locs hq6 hJ => ?_)
    obtain ⟨hr6, hT6⟩ := hq6
    have tT1 : Tr σ σ6 := hT6
    have hp1 := hp.tr tT1
    rw [hr6]
    refine lv_istore (lv' := [(14, .int (hUntil (gX σ).2.2.2 (gS σ (gP σ o9).2.1) (gP σ o9) 2)), (13, .int (nI o9)), (0, .ref (gE G 6)), (1, .ref (gB G 0)), (2, .ref q0), (3, .int (nI tt)), (4, .int x4), (5, .long (digF σ n)), (7, .int (nI n))]) S.1 S.2.1 dL_law_538 hl (by decide) rfl (fun ls hl => ?_)
    refine lv_iload S.1 S.2.1 dL_law_540 (lv_at hl 8 rfl) ?_
    refine lv_if_ne (tgt := 549) S.1 S.2.1 dL_law_542 (by decide) (fun cz_542 => ?_) (fun c9 => absurd c9 (nI_nz9 hn0 (by omega)))
    refine lv_aload_n S.1 S.2.1 dL_law_549 rfl (lv_at hl 3 rfl) ?_
    refine lv_iload S.1 S.2.1 dL_law_550 (lv_at hl 1 rfl) ?_
    refine cz_i hJ (rzV (As := [.int (nI o9)]) (rest := []) S hJ (c_hoursUntilThawed l _ σ6 hp1.1.ok (i := o9) (n := n) ho9 hn hp1.1.gx) (cw_L_X3_hoursUntilThawed S.2.2.2.2 ⟨by omega, by omega⟩) (rcX hJ.iv) rfl hl.1 (Nat.le_of_ble_eq_true rfl) dL_law_552 ⟨by omega, by omega⟩) (fun r7 σ7 H locs hq7 hJ => ?_)
    obtain ⟨hr7, hT7⟩ := hq7
    have tT2 : Tr σ σ7 := tT1.trans hT7
    have hp2 := hp.tr tT2
    rw [hr7, Tr.hU hok tT1 (show o9 < 20 by omega) 3]
    refine lv_istore (lv' := [(15, .int (hUntil (gX σ).2.2.2 (gS σ (gP σ o9).2.1) (gP σ o9) 3)), (14, .int (hUntil (gX σ).2.2.2 (gS σ (gP σ o9).2.1) (gP σ o9) 2)), (13, .int (nI o9)), (0, .ref (gE G 6)), (1, .ref (gB G 0)), (2, .ref q0), (3, .int (nI tt)), (4, .int x4), (5, .long (digF σ n)), (7, .int (nI n))]) S.1 S.2.1 dL_law_555 hl (by decide) rfl (fun ls hl => ?_)
    refine lv_iload S.1 S.2.1 dL_law_557 (lv_at hl 9 rfl) ?_
    refine lv_if_ne (tgt := 566) S.1 S.2.1 dL_law_559 (by decide) (fun cz_559 => ?_) (fun c9 => absurd c9 (nI_nz9 hn0 (by omega)))
    refine lv_aload_n S.1 S.2.1 dL_law_566 rfl (lv_at hl 4 rfl) ?_
    refine lv_iload S.1 S.2.1 dL_law_567 (lv_at hl 2 rfl) ?_
    refine cz_i hJ (rzV (As := [.int (nI o9)]) (rest := []) S hJ (c_hoursUntilExpired l _ σ7 hp2.1.ok (i := o9) (n := n) ho9 hn hp2.1.gx) (cw_L_X3_hoursUntilExpired S.2.2.2.2 ⟨by omega, by omega⟩) (rcX hJ.iv) rfl hl.1 (Nat.le_of_ble_eq_true rfl) dL_law_569 ⟨by omega, by omega⟩) (fun r8 σ8 H locs hq8 hJ => ?_)
    obtain ⟨hr8, hT8⟩ := hq8
    have tT3 : Tr σ σ8 := tT2.trans hT8
    have hp3 := hp.tr tT3
    rw [hr8, Tr.hU hok tT2 (show o9 < 20 by omega) 5]
    refine lv_istore (lv' := [(16, .int (hUntil (gX σ).2.2.2 (gS σ (gP σ o9).2.1) (gP σ o9) 5)), (15, .int (hUntil (gX σ).2.2.2 (gS σ (gP σ o9).2.1) (gP σ o9) 3)), (14, .int (hUntil (gX σ).2.2.2 (gS σ (gP σ o9).2.1) (gP σ o9) 2)), (13, .int (nI o9)), (0, .ref (gE G 6)), (1, .ref (gB G 0)), (2, .ref q0), (3, .int (nI tt)), (4, .int x4), (5, .long (digF σ n)), (7, .int (nI n))]) S.1 S.2.1 dL_law_572 hl (by decide) rfl (fun ls hl => ?_)
    refine lv_aload_n S.1 S.2.1 dL_law_574 rfl (lv_at hl 5 rfl) ?_
    refine cz_i hJ (rzV (As := []) (rest := []) S hJ (c_bestShelf l _ σ8 (n0 := n) hn hp3.1.2.1) (cw_L_X3_bestShelf S.2.2.2.2 ⟨by omega, by omega⟩) (rcX hJ.iv) rfl hl.1 (Nat.le_of_ble_eq_true rfl) dL_law_575 ⟨by omega, by omega⟩) (fun r9 σ9 H locs hq9 hJ => ?_)
    obtain ⟨hr9, hT9⟩ := hq9
    have tT4 : Tr σ σ9 := tT3.trans hT9
    have hp4 := hp.tr tT4
    rw [hr9]
    refine lv_istore (lv' := [(17, .int (if n < 20 then (bestF σ8 5).1 else -1)), (16, .int (hUntil (gX σ).2.2.2 (gS σ (gP σ o9).2.1) (gP σ o9) 5)), (15, .int (hUntil (gX σ).2.2.2 (gS σ (gP σ o9).2.1) (gP σ o9) 3)), (14, .int (hUntil (gX σ).2.2.2 (gS σ (gP σ o9).2.1) (gP σ o9) 2)), (13, .int (nI o9)), (0, .ref (gE G 6)), (1, .ref (gB G 0)), (2, .ref q0), (3, .int (nI tt)), (4, .int x4), (5, .long (digF σ n)), (7, .int (nI n))]) S.1 S.2.1 dL_law_578 hl (by decide) rfl (fun ls hl => ?_)
    refine lv_iconst (v := 1) S.1 S.2.1 dL_law_580 (by decide) ?_
    refine lv_iload S.1 S.2.1 dL_law_581 (lv_at hl 9 rfl) ?_
    refine lv_bipush (v := 6) S.1 S.2.1 dL_law_583 (by decide) ?_
    refine lv_ishr S.1 S.2.1 dL_law_585 ?_
    refine lv_bipush (v := (nI 20)) S.1 S.2.1 dL_law_586 (by rfl) ?_
    refine dw_i hJ (rwS (As := [.int (x4 >>> (6 &&& 31)), .int (nI 20)]) (rest := [.int 1]) S hJ (k_below l G (x4 >>> (6 &&& 31)) (N := 20) (by decide) (by decide)) (cw_L_L_below S.2.2.2.2 ⟨by omega, by omega⟩) rfl hl.1 (Nat.le_of_ble_eq_true rfl) dL_law_588 ⟨by omega, by omega⟩) (fun r10 ws10 H locs hq10 hJ => ?_)
    obtain ⟨⟨kh, hkh, hr10⟩, hw10⟩ := hq10
    subst hw10
    rw [hr10]
    refine lv_iadd S.1 S.2.1 dL_law_591 ?_
    rw [show (1 + (nI kh)) = (nI (1 + kh)) from nI_add 1 kh]
    refine lv_istore (lv' := [(18, .int (nI (1 + kh))), (17, .int (if n < 20 then (bestF σ8 5).1 else -1)), (16, .int (hUntil (gX σ).2.2.2 (gS σ (gP σ o9).2.1) (gP σ o9) 5)), (15, .int (hUntil (gX σ).2.2.2 (gS σ (gP σ o9).2.1) (gP σ o9) 3)), (14, .int (hUntil (gX σ).2.2.2 (gS σ (gP σ o9).2.1) (gP σ o9) 2)), (13, .int (nI o9)), (0, .ref (gE G 6)), (1, .ref (gB G 0)), (2, .ref q0), (3, .int (nI tt)), (4, .int x4), (5, .long (digF σ n)), (7, .int (nI n))]) S.1 S.2.1 dL_law_592 hl (by decide) rfl (fun ls hl => ?_)
    refine lv_aload_n S.1 S.2.1 dL_law_594 rfl (lv_at hl 7 rfl) ?_
    refine lv_iload S.1 S.2.1 dL_law_595 (lv_at hl 0 rfl) ?_
    refine cz_i hJ (rzV (As := [.int (nI (1 + kh))]) (rest := []) S hJ (c_leftIn l _ σ9 hp4.1.ok (h := 1 + kh) (by omega) (by omega)) (cw_L_X3_leftIn S.2.2.2.2 ⟨by omega, by omega⟩) (rcX hJ.iv) rfl hl.1 (Nat.le_of_ble_eq_true rfl) dL_law_597 ⟨by omega, by omega⟩) (fun r11 σ11 H locs hq11 hJ => ?_)
    obtain ⟨hr11, hT11⟩ := hq11
    have tT5 : Tr σ σ11 := tT4.trans hT11
    have hp5 := hp.tr tT5
    rw [hr11, tr_leftS hok tT4 (1 + kh)]
    refine lv_istore (lv' := [(19, .int (sumN (leftF σ (1 + kh)) 20)), (18, .int (nI (1 + kh))), (17, .int (if n < 20 then (bestF σ8 5).1 else -1)), (16, .int (hUntil (gX σ).2.2.2 (gS σ (gP σ o9).2.1) (gP σ o9) 5)), (15, .int (hUntil (gX σ).2.2.2 (gS σ (gP σ o9).2.1) (gP σ o9) 3)), (14, .int (hUntil (gX σ).2.2.2 (gS σ (gP σ o9).2.1) (gP σ o9) 2)), (13, .int (nI o9)), (0, .ref (gE G 6)), (1, .ref (gB G 0)), (2, .ref q0), (3, .int (nI tt)), (4, .int x4), (5, .long (digF σ n)), (7, .int (nI n))]) S.1 S.2.1 dL_law_600 hl (by decide) rfl (fun ls hl => ?_)
    refine lv_aload_n S.1 S.2.1 dL_law_602 rfl (lv_at hl 8 rfl) ?_
    refine cz_l hJ (rzV (As := []) (rest := []) S hJ (c_digest l _ σ11 hp5.1.ok hp5.1.1 hp5.1.gx hp5.1.2.2.1) (cw_L_X3_digest S.2.2.2.2 ⟨by omega, by omega⟩) (rcX hJ.iv) rfl hl.1 (Nat.le_of_ble_eq_true rfl) dL_law_603 ⟨by omega, by omega⟩) (fun r12 σ12 H locs hq12 hJ => ?_)
    obtain ⟨hr12, hT12⟩ := hq12
    have tT6 : Tr σ σ12 := tT5.trans hT12
    have hp6 := hp.tr tT6
    rw [hr12, tr_digF hok tT5 hn]
    refine lv_lload S.1 S.2.1 dL_law_606 (lv_at hl 12 rfl) ?_
    refine lw_lcmp S.1 S.2.1 dL_law_608 ?_
    refine lv_if_ne (tgt := 674) S.1 S.2.1 dL_law_609 (by decide) (fun c9 => absurd (by decide) c9) (fun cz_609 => ?_)
    refine lv_iload S.1 S.2.1 dL_law_612 (lv_at hl 13 rfl) ?_
    refine lv_if_le (tgt := 676) S.1 S.2.1 dL_law_614 (by decide) (fun c9 => absurd c9 (Int32.not_le.mpr (nI_lt (a := 0) hn0 (by omega)))) (fun cz_614 => ?_)
    refine lv_iload S.1 S.2.1 dL_law_617 (lv_at hl 5 rfl) ?_
    refine lv_if_ne (tgt := 626) S.1 S.2.1 dL_law_619 (by decide) (fun cz_619 => ?_) (fun cz_619 => ?_)
    · refine lv_iconst (v := 0) S.1 S.2.1 dL_law_626 (by decide) ?_
      refine lv_aload_n S.1 S.2.1 dL_law_627 rfl (lv_at hl 8 rfl) ?_
      refine lv_iload S.1 S.2.1 dL_law_628 (lv_at hl 6 rfl) ?_
      refine cz_i hJ (rzV (As := [.int (nI o9)]) (rest := [.int 0]) S hJ (c_isFrozen l _ σ12 hp6.1.ok (i := o9) (n := n) ho9 hn hp6.1.gx) (cw_L_X3_isFrozen S.2.2.2.2 ⟨by omega, by omega⟩) (rcX hJ.iv) rfl hl.1 (Nat.le_of_ble_eq_true rfl) dL_law_630 ⟨by omega, by omega⟩) (fun r13 σ13 H locs hq13 hJ => ?_)
      obtain ⟨hr13, hs13⟩ := hq13
      rw [hs13] at hJ
      rw [hr13, tT6.P (show o9 < 20 by omega)]
      refine lv_icmp_ne (tgt := 674) S.1 S.2.1 dL_law_633 (by decide) (fun c9 => absurd ((if_neg cz_619).symm.trans (told_lit (told_of hok (show o9 < 20 by omega) 2))) c9) (fun cz_633 => ?_)
      refine lv_iload S.1 S.2.1 dL_law_636 (lv_at hl 4 rfl) ?_
      refine lv_if_ne (tgt := 645) S.1 S.2.1 dL_law_638 (by decide) (fun cz_638 => ?_) (fun cz_638 => ?_)
      · refine lv_iconst (v := 0) S.1 S.2.1 dL_law_645 (by decide) ?_
        refine lv_aload_n S.1 S.2.1 dL_law_646 rfl (lv_at hl 8 rfl) ?_
        refine lv_iload S.1 S.2.1 dL_law_647 (lv_at hl 6 rfl) ?_
        refine cz_i hJ (rzV (As := [.int (nI o9)]) (rest := [.int 0]) S hJ (c_isThawed l _ σ12 hp6.1.ok (i := o9) (n := n) ho9 hn hp6.1.gx) (cw_L_X3_isThawed S.2.2.2.2 ⟨by omega, by omega⟩) (rcX hJ.iv) rfl hl.1 (Nat.le_of_ble_eq_true rfl) dL_law_649 ⟨by omega, by omega⟩) (fun r14 σ14 H locs hq14 hJ => ?_)
        obtain ⟨hr14, hs14⟩ := hq14
        rw [hs14] at hJ
        rw [hr14, tT6.P (show o9 < 20 by omega)]
        refine lv_icmp_ne (tgt := 674) S.1 S.2.1 dL_law_652 (by decide) (fun c9 => absurd ((if_neg cz_638).symm.trans (told_lit (told_of hok (show o9 < 20 by omega) 3))) c9) (fun cz_652 => ?_)
        refine lv_iload S.1 S.2.1 dL_law_655 (lv_at hl 3 rfl) ?_
        refine lv_if_ne (tgt := 664) S.1 S.2.1 dL_law_657 (by decide) (fun cz_657 => ?_) (fun cz_657 => ?_)
        · refine lv_iconst (v := 0) S.1 S.2.1 dL_law_664 (by decide) ?_
          refine lv_aload_n S.1 S.2.1 dL_law_665 rfl (lv_at hl 8 rfl) ?_
          refine lv_iload S.1 S.2.1 dL_law_666 (lv_at hl 6 rfl) ?_
          refine cz_i hJ (rzV (As := [.int (nI o9)]) (rest := [.int 0]) S hJ (c_isExpired l _ σ12 hp6.1.ok (i := o9) (n := n) ho9 hn hp6.1.gx) (cw_L_X3_isExpired S.2.2.2.2 ⟨by omega, by omega⟩) (rcX hJ.iv) rfl hl.1 (Nat.le_of_ble_eq_true rfl) dL_law_668 ⟨by omega, by omega⟩) (fun r15 σ15 H locs hq15 hJ => ?_)
          obtain ⟨hr15, hs15⟩ := hq15
          rw [hs15] at hJ
          rw [hr15, tT6.P (show o9 < 20 by omega)]
          refine lv_icmp_eq (tgt := 676) S.1 S.2.1 dL_law_671 (by decide) (fun cz_671 => ?_) (fun c9 => absurd ((if_neg cz_657).symm.trans (told_lit (told_of hok (show o9 < 20 by omega) 5))) c9)
          exact kk9 _ _ _ _ _ _ _ _ _ _ o9 (1 + kh) (hUntil (gX σ).2.2.2 (gS σ (gP σ o9).2.1) (gP σ o9) 2) (hUntil (gX σ).2.2.2 (gS σ (gP σ o9).2.1) (gP σ o9) 3) (hUntil (gX σ).2.2.2 (gS σ (gP σ o9).2.1) (gP σ o9) 5) hp6 (by omega) (by omega) (Or.inr ⟨ho9, (by rw [← Tr.hU hok tT6 (show o9 < 20 by omega) 2]; exact told_of hp6.1.ok (show o9 < 20 by omega) 2), (by rw [← Tr.hU hok tT6 (show o9 < 20 by omega) 3]; exact told_of hp6.1.ok (show o9 < 20 by omega) 3), (by rw [← Tr.hU hok tT6 (show o9 < 20 by omega) 5]; exact told_of hp6.1.ok (show o9 < 20 by omega) 5)⟩) _ _ hJ ls (by rw [tr_leftS hok tT6 (1 + kh)]; exact lv_sub hl [7, 8, 9, 10, 13, 6, 5, 4, 3, 1, 0] rfl)
        · refine lv_iconst (v := 1) S.1 S.2.1 dL_law_660 (by decide) ?_
          refine lv_goto (tgt := 665) S.1 S.2.1 dL_law_661 (by decide) ?_
          refine lv_aload_n S.1 S.2.1 dL_law_665 rfl (lv_at hl 8 rfl) ?_
          refine lv_iload S.1 S.2.1 dL_law_666 (lv_at hl 6 rfl) ?_
          refine cz_i hJ (rzV (As := [.int (nI o9)]) (rest := [.int 1]) S hJ (c_isExpired l _ σ12 hp6.1.ok (i := o9) (n := n) ho9 hn hp6.1.gx) (cw_L_X3_isExpired S.2.2.2.2 ⟨by omega, by omega⟩) (rcX hJ.iv) rfl hl.1 (Nat.le_of_ble_eq_true rfl) dL_law_668 ⟨by omega, by omega⟩) (fun r16 σ16 H locs hq16 hJ => ?_)
          obtain ⟨hr16, hs16⟩ := hq16
          rw [hs16] at hJ
          rw [hr16, tT6.P (show o9 < 20 by omega)]
          refine lv_icmp_eq (tgt := 676) S.1 S.2.1 dL_law_671 (by decide) (fun cz_671 => ?_) (fun c9 => absurd ((if_pos cz_657).symm.trans (told_lit (told_of hok (show o9 < 20 by omega) 5))) c9)
          exact kk9 _ _ _ _ _ _ _ _ _ _ o9 (1 + kh) (hUntil (gX σ).2.2.2 (gS σ (gP σ o9).2.1) (gP σ o9) 2) (hUntil (gX σ).2.2.2 (gS σ (gP σ o9).2.1) (gP σ o9) 3) (hUntil (gX σ).2.2.2 (gS σ (gP σ o9).2.1) (gP σ o9) 5) hp6 (by omega) (by omega) (Or.inr ⟨ho9, (by rw [← Tr.hU hok tT6 (show o9 < 20 by omega) 2]; exact told_of hp6.1.ok (show o9 < 20 by omega) 2), (by rw [← Tr.hU hok tT6 (show o9 < 20 by omega) 3]; exact told_of hp6.1.ok (show o9 < 20 by omega) 3), (by rw [← Tr.hU hok tT6 (show o9 < 20 by omega) 5]; exact told_of hp6.1.ok (show o9 < 20 by omega) 5)⟩) _ _ hJ ls (by rw [tr_leftS hok tT6 (1 + kh)]; exact lv_sub hl [7, 8, 9, 10, 13, 6, 5, 4, 3, 1, 0] rfl)
      · refine lv_iconst (v := 1) S.1 S.2.1 dL_law_641 (by decide) ?_
        refine lv_goto (tgt := 646) S.1 S.2.1 dL_law_642 (by decide) ?_
        refine lv_aload_n S.1 S.2.1 dL_law_646 rfl (lv_at hl 8 rfl) ?_
        refine lv_iload S.1 S.2.1 dL_law_647 (lv_at hl 6 rfl) ?_
        refine cz_i hJ (rzV (As := [.int (nI o9)]) (rest := [.int 1]) S hJ (c_isThawed l _ σ12 hp6.1.ok (i := o9) (n := n) ho9 hn hp6.1.gx) (cw_L_X3_isThawed S.2.2.2.2 ⟨by omega, by omega⟩) (rcX hJ.iv) rfl hl.1 (Nat.le_of_ble_eq_true rfl) dL_law_649 ⟨by omega, by omega⟩) (fun r17 σ17 H locs hq17 hJ => ?_)
        obtain ⟨hr17, hs17⟩ := hq17
        rw [hs17] at hJ
        rw [hr17, tT6.P (show o9 < 20 by omega)]
        refine lv_icmp_ne (tgt := 674) S.1 S.2.1 dL_law_652 (by decide) (fun c9 => absurd ((if_pos cz_638).symm.trans (told_lit (told_of hok (show o9 < 20 by omega) 3))) c9) (fun cz_652 => ?_)
        refine lv_iload S.1 S.2.1 dL_law_655 (lv_at hl 3 rfl) ?_
        refine lv_if_ne (tgt := 664) S.1 S.2.1 dL_law_657 (by decide) (fun cz_657 => ?_) (fun cz_657 => ?_)
        · refine lv_iconst (v := 0) S.1 S.2.1 dL_law_664 (by decide) ?_
          refine lv_aload_n S.1 S.2.1 dL_law_665 rfl (lv_at hl 8 rfl) ?_
          refine lv_iload S.1 S.2.1 dL_law_666 (lv_at hl 6 rfl) ?_
          refine cz_i hJ (rzV (As := [.int (nI o9)]) (rest := [.int 0]) S hJ (c_isExpired l _ σ12 hp6.1.ok (i := o9) (n := n) ho9 hn hp6.1.gx) (cw_L_X3_isExpired S.2.2.2.2 ⟨by omega, by omega⟩) (rcX hJ.iv) rfl hl.1 (Nat.le_of_ble_eq_true rfl) dL_law_668 ⟨by omega, by omega⟩) (fun r18 σ18 H locs hq18 hJ => ?_)
          obtain ⟨hr18, hs18⟩ := hq18
          rw [hs18] at hJ
          rw [hr18, tT6.P (show o9 < 20 by omega)]
          refine lv_icmp_eq (tgt := 676) S.1 S.2.1 dL_law_671 (by decide) (fun cz_671 => ?_) (fun c9 => absurd ((if_neg cz_657).symm.trans (told_lit (told_of hok (show o9 < 20 by omega) 5))) c9)
          exact kk9 _ _ _ _ _ _ _ _ _ _ o9 (1 + kh) (hUntil (gX σ).2.2.2 (gS σ (gP σ o9).2.1) (gP σ o9) 2) (hUntil (gX σ).2.2.2 (gS σ (gP σ o9).2.1) (gP σ o9) 3) (hUntil (gX σ).2.2.2 (gS σ (gP σ o9).2.1) (gP σ o9) 5) hp6 (by omega) (by omega) (Or.inr ⟨ho9, (by rw [← Tr.hU hok tT6 (show o9 < 20 by omega) 2]; exact told_of hp6.1.ok (show o9 < 20 by omega) 2), (by rw [← Tr.hU hok tT6 (show o9 < 20 by omega) 3]; exact told_of hp6.1.ok (show o9 < 20 by omega) 3), (by rw [← Tr.hU hok tT6 (show o9 < 20 by omega) 5]; exact told_of hp6.1.ok (show o9 < 20 by omega) 5)⟩) _ _ hJ ls (by rw [tr_leftS hok tT6 (1 + kh)]; exact lv_sub hl [7, 8, 9, 10, 13, 6, 5, 4, 3, 1, 0] rfl)
        · refine lv_iconst (v := 1) S.1 S.2.1 dL_law_660 (by decide) ?_
          refine lv_goto (tgt := 665) S.1 S.2.1 dL_law_661 (by decide) ?_
          refine lv_aload_n S.1 S.2.1 dL_law_665 rfl (lv_at hl 8 rfl) ?_
          refine lv_iload S.1 S.2.1 dL_law_666 (lv_at hl 6 rfl) ?_
          refine cz_i hJ (rzV (As := [.int (nI o9)]) (rest := [.int 1]) S hJ (c_isExpired l _ σ12 hp6.1.ok (i := o9) (n := n) ho9 hn hp6.1.gx) (cw_L_X3_isExpired S.2.2.2.2 ⟨by omega, by omega⟩) (rcX hJ.iv) rfl hl.1 (Nat.le_of_ble_eq_true rfl) dL_law_668 ⟨by omega, by omega⟩) (fun r19 σ19 H locs hq19 hJ => ?_)
          obtain ⟨hr19, hs19⟩ := hq19
          rw [hs19] at hJ
          rw [hr19, tT6.P (show o9 < 20 by omega)]
          refine lv_icmp_eq (tgt := 676) S.1 S.2.1 dL_law_671 (by decide) (fun cz_671 => ?_) (fun c9 => absurd ((if_pos cz_657).symm.trans (told_lit (told_of hok (show o9 < 20 by omega) 5))) c9)
          exact kk9 _ _ _ _ _ _ _ _ _ _ o9 (1 + kh) (hUntil (gX σ).2.2.2 (gS σ (gP σ o9).2.1) (gP σ o9) 2) (hUntil (gX σ).2.2.2 (gS σ (gP σ o9).2.1) (gP σ o9) 3) (hUntil (gX σ).2.2.2 (gS σ (gP σ o9).2.1) (gP σ o9) 5) hp6 (by omega) (by omega) (Or.inr ⟨ho9, (by rw [← Tr.hU hok tT6 (show o9 < 20 by omega) 2]; exact told_of hp6.1.ok (show o9 < 20 by omega) 2), (by rw [← Tr.hU hok tT6 (show o9 < 20 by omega) 3]; exact told_of hp6.1.ok (show o9 < 20 by omega) 3), (by rw [← Tr.hU hok tT6 (show o9 < 20 by omega) 5]; exact told_of hp6.1.ok (show o9 < 20 by omega) 5)⟩) _ _ hJ ls (by rw [tr_leftS hok tT6 (1 + kh)]; exact lv_sub hl [7, 8, 9, 10, 13, 6, 5, 4, 3, 1, 0] rfl)
    · refine lv_iconst (v := 1) S.1 S.2.1 dL_law_622 (by decide) ?_
      refine lv_goto (tgt := 627) S.1 S.2.1 dL_law_623 (by decide) ?_
      refine lv_aload_n S.1 S.2.1 dL_law_627 rfl (lv_at hl 8 rfl) ?_
      refine lv_iload S.1 S.2.1 dL_law_628 (lv_at hl 6 rfl) ?_
      refine cz_i hJ (rzV (As := [.int (nI o9)]) (rest := [.int 1]) S hJ (c_isFrozen l _ σ12 hp6.1.ok (i := o9) (n := n) ho9 hn hp6.1.gx) (cw_L_X3_isFrozen S.2.2.2.2 ⟨by omega, by omega⟩) (rcX hJ.iv) rfl hl.1 (Nat.le_of_ble_eq_true rfl) dL_law_630 ⟨by omega, by omega⟩) (fun r20 σ20 H locs hq20 hJ => ?_)
      obtain ⟨hr20, hs20⟩ := hq20
      rw [hs20] at hJ
      rw [hr20, tT6.P (show o9 < 20 by omega)]
      refine lv_icmp_ne (tgt := 674) S.1 S.2.1 dL_law_633 (by decide) (fun c9 => absurd ((if_pos cz_619).symm.trans (told_lit (told_of hok (show o9 < 20 by omega) 2))) c9) (fun cz_633 => ?_)
      refine lv_iload S.1 S.2.1 dL_law_636 (lv_at hl 4 rfl) ?_
      refine lv_if_ne (tgt := 645) S.1 S.2.1 dL_law_638 (by decide) (fun cz_638 => ?_) (fun cz_638 => ?_)
      · refine lv_iconst (v := 0) S.1 S.2.1 dL_law_645 (by decide) ?_
        refine lv_aload_n S.1 S.2.1 dL_law_646 rfl (lv_at hl 8 rfl) ?_
        refine lv_iload S.1 S.2.1 dL_law_647 (lv_at hl 6 rfl) ?_
        refine cz_i hJ (rzV (As := [.int (nI o9)]) (rest := [.int 0]) S hJ (c_isThawed l _ σ12 hp6.1.ok (i := o9) (n := n) ho9 hn hp6.1.gx) (cw_L_X3_isThawed S.2.2.2.2 ⟨by omega, by omega⟩) (rcX hJ.iv) rfl hl.1 (Nat.le_of_ble_eq_true rfl) dL_law_649 ⟨by omega, by omega⟩) (fun r21 σ21 H locs hq21 hJ => ?_)
        obtain ⟨hr21, hs21⟩ := hq21
        rw [hs21] at hJ
        rw [hr21, tT6.P (show o9 < 20 by omega)]
        refine lv_icmp_ne (tgt := 674) S.1 S.2.1 dL_law_652 (by decide) (fun c9 => absurd ((if_neg cz_638).symm.trans (told_lit (told_of hok (show o9 < 20 by omega) 3))) c9) (fun cz_652 => ?_)
        refine lv_iload S.1 S.2.1 dL_law_655 (lv_at hl 3 rfl) ?_
        refine lv_if_ne (tgt := 664) S.1 S.2.1 dL_law_657 (by decide) (fun cz_657 => ?_) (fun cz_657 => ?_)
        · refine lv_iconst (v := 0) S.1 S.2.1 dL_law_664 (by decide) ?_
          refine lv_aload_n S.1 S.2.1 dL_law_665 rfl (lv_at hl 8 rfl) ?_
          refine lv_iload S.1 S.2.1 dL_law_666 (lv_at hl 6 rfl) ?_
          refine cz_i hJ (rzV (As := [.int (nI o9)]) (rest := [.int 0]) S hJ (c_isExpired l _ σ12 hp6.1.ok (i := o9) (n := n) ho9 hn hp6.1.gx) (cw_L_X3_isExpired S.2.2.2.2 ⟨by omega, by omega⟩) (rcX hJ.iv) rfl hl.1 (Nat.le_of_ble_eq_true rfl) dL_law_668 ⟨by omega, by omega⟩) (fun r22 σ22 H locs hq22 hJ => ?_)
          obtain ⟨hr22, hs22⟩ := hq22
          rw [hs22] at hJ
          rw [hr22, tT6.P (show o9 < 20 by omega)]
          refine lv_icmp_eq (tgt := 676) S.1 S.2.1 dL_law_671 (by decide) (fun cz_671 => ?_) (fun c9 => absurd ((if_neg cz_657).symm.trans (told_lit (told_of hok (show o9 < 20 by omega) 5))) c9)
          exact kk9 _ _ _ _ _ _ _ _ _ _ o9 (1 + kh) (hUntil (gX σ).2.2.2 (gS σ (gP σ o9).2.1) (gP σ o9) 2) (hUntil (gX σ).2.2.2 (gS σ (gP σ o9).2.1) (gP σ o9) 3) (hUntil (gX σ).2.2.2 (gS σ (gP σ o9).2.1) (gP σ o9) 5) hp6 (by omega) (by omega) (Or.inr ⟨ho9, (by rw [← Tr.hU hok tT6 (show o9 < 20 by omega) 2]; exact told_of hp6.1.ok (show o9 < 20 by omega) 2), (by rw [← Tr.hU hok tT6 (show o9 < 20 by omega) 3]; exact told_of hp6.1.ok (show o9 < 20 by omega) 3), (by rw [← Tr.hU hok tT6 (show o9 < 20 by omega) 5]; exact told_of hp6.1.ok (show o9 < 20 by omega) 5)⟩) _ _ hJ ls (by rw [tr_leftS hok tT6 (1 + kh)]; exact lv_sub hl [7, 8, 9, 10, 13, 6, 5, 4, 3, 1, 0] rfl)
        · refine lv_iconst (v := 1) S.1 S.2.1 dL_law_660 (by decide) ?_
          refine lv_goto (tgt := 665) S.1 S.2.1 dL_law_661 (by decide) ?_
          refine lv_aload_n S.1 S.2.1 dL_law_665 rfl (lv_at hl 8 rfl) ?_
          refine lv_iload S.1 S.2.1 dL_law_666 (lv_at hl 6 rfl) ?_
          refine cz_i hJ (rzV (As := [.int (nI o9)]) (rest := [.int 1]) S hJ (c_isExpired l _ σ12 hp6.1.ok (i := o9) (n := n) ho9 hn hp6.1.gx) (cw_L_X3_isExpired S.2.2.2.2 ⟨by omega, by omega⟩) (rcX hJ.iv) rfl hl.1 (Nat.le_of_ble_eq_true rfl) dL_law_668 ⟨by omega, by omega⟩) (fun r23 σ23 H locs hq23 hJ => ?_)
          obtain ⟨hr23, hs23⟩ := hq23
          rw [hs23] at hJ
          rw [hr23, tT6.P (show o9 < 20 by omega)]
          refine lv_icmp_eq (tgt := 676) S.1 S.2.1 dL_law_671 (by decide) (fun cz_671 => ?_) (fun c9 => absurd ((if_pos cz_657).symm.trans (told_lit (told_of hok (show o9 < 20 by omega) 5))) c9)
          exact kk9 _ _ _ _ _ _ _ _ _ _ o9 (1 + kh) (hUntil (gX σ).2.2.2 (gS σ (gP σ o9).2.1) (gP σ o9) 2) (hUntil (gX σ).2.2.2 (gS σ (gP σ o9).2.1) (gP σ o9) 3) (hUntil (gX σ).2.2.2 (gS σ (gP σ o9).2.1) (gP σ o9) 5) hp6 (by omega) (by omega) (Or.inr ⟨ho9, (by rw [← Tr.hU hok tT6 (show o9 < 20 by omega) 2]; exact told_of hp6.1.ok (show o9 < 20 by omega) 2), (by rw [← Tr.hU hok tT6 (show o9 < 20 by omega) 3]; exact told_of hp6.1.ok (show o9 < 20 by omega) 3), (by rw [← Tr.hU hok tT6 (show o9 < 20 by omega) 5]; exact told_of hp6.1.ok (show o9 < 20 by omega) 5)⟩) _ _ hJ ls (by rw [tr_leftS hok tT6 (1 + kh)]; exact lv_sub hl [7, 8, 9, 10, 13, 6, 5, 4, 3, 1, 0] rfl)
      · refine lv_iconst (v := 1) S.1 S.2.1 dL_law_641 (by decide) ?_
        refine lv_goto (tgt := 646) S.1 S.2.1 dL_law_642 (by decide) ?_
        refine lv_aload_n S.1 S.2.1 dL_law_646 rfl (lv_at hl 8 rfl) ?_
        refine lv_iload S.1 S.2.1 dL_law_647 (lv_at hl 6 rfl) ?_
        refine cz_i hJ (rzV (As := [.int (nI o9)]) (rest := [.int 1]) S hJ (c_isThawed l _ σ12 hp6.1.ok (i := o9) (n := n) ho9 hn hp6.1.gx) (cw_L_X3_isThawed S.2.2.2.2 ⟨by omega, by omega⟩) (rcX hJ.iv) rfl hl.1 (Nat.le_of_ble_eq_true rfl) dL_law_649 ⟨by omega, by omega⟩) (fun r24 σ24 H locs hq24 hJ => ?_)
        obtain ⟨hr24, hs24⟩ := hq24
        rw [hs24] at hJ
        rw [hr24, tT6.P (show o9 < 20 by omega)]
        refine lv_icmp_ne (tgt := 674) S.1 S.2.1 dL_law_652 (by decide) (fun c9 => absurd ((if_pos cz_638).symm.trans (told_lit (told_of hok (show o9 < 20 by omega) 3))) c9) (fun cz_652 => ?_)
        refine lv_iload S.1 S.2.1 dL_law_655 (lv_at hl 3 rfl) ?_
        refine lv_if_ne (tgt := 664) S.1 S.2.1 dL_law_657 (by decide) (fun cz_657 => ?_) (fun cz_657 => ?_)
        · refine lv_iconst (v := 0) S.1 S.2.1 dL_law_664 (by decide) ?_
          refine lv_aload_n S.1 S.2.1 dL_law_665 rfl (lv_at hl 8 rfl) ?_
          refine lv_iload S.1 S.2.1 dL_law_666 (lv_at hl 6 rfl) ?_
          refine cz_i hJ (rzV (As := [.int (nI o9)]) (rest := [.int 0]) S hJ (c_isExpired l _ σ12 hp6.1.ok (i := o9) (n := n) ho9 hn hp6.1.gx) (cw_L_X3_isExpired S.2.2.2.2 ⟨by omega, by omega⟩) (rcX hJ.iv) rfl hl.1 (Nat.le_of_ble_eq_true rfl) dL_law_668 ⟨by omega, by omega⟩) (fun r25 σ25 H locs hq25 hJ => ?_)
          obtain ⟨hr25, hs25⟩ := hq25
          rw [hs25] at hJ
          rw [hr25, tT6.P (show o9 < 20 by omega)]
          refine lv_icmp_eq (tgt := 676) S.1 S.2.1 dL_law_671 (by decide) (fun cz_671 => ?_) (fun c9 => absurd ((if_neg cz_657).symm.trans (told_lit (told_of hok (show o9 < 20 by omega) 5))) c9)
          exact kk9 _ _ _ _ _ _ _ _ _ _ o9 (1 + kh) (hUntil (gX σ).2.2.2 (gS σ (gP σ o9).2.1) (gP σ o9) 2) (hUntil (gX σ).2.2.2 (gS σ (gP σ o9).2.1) (gP σ o9) 3) (hUntil (gX σ).2.2.2 (gS σ (gP σ o9).2.1) (gP σ o9) 5) hp6 (by omega) (by omega) (Or.inr ⟨ho9, (by rw [← Tr.hU hok tT6 (show o9 < 20 by omega) 2]; exact told_of hp6.1.ok (show o9 < 20 by omega) 2), (by rw [← Tr.hU hok tT6 (show o9 < 20 by omega) 3]; exact told_of hp6.1.ok (show o9 < 20 by omega) 3), (by rw [← Tr.hU hok tT6 (show o9 < 20 by omega) 5]; exact told_of hp6.1.ok (show o9 < 20 by omega) 5)⟩) _ _ hJ ls (by rw [tr_leftS hok tT6 (1 + kh)]; exact lv_sub hl [7, 8, 9, 10, 13, 6, 5, 4, 3, 1, 0] rfl)
        · refine lv_iconst (v := 1) S.1 S.2.1 dL_law_660 (by decide) ?_
          refine lv_goto (tgt := 665) S.1 S.2.1 dL_law_661 (by decide) ?_
          refine lv_aload_n S.1 S.2.1 dL_law_665 rfl (lv_at hl 8 rfl) ?_
          refine lv_iload S.1 S.2.1 dL_law_666 (lv_at hl 6 rfl) ?_
          refine cz_i hJ (rzV (As := [.int (nI o9)]) (rest := [.int 1]) S hJ (c_isExpired l _ σ12 hp6.1.ok (i := o9) (n := n) ho9 hn hp6.1.gx) (cw_L_X3_isExpired S.2.2.2.2 ⟨by omega, by omega⟩) (rcX hJ.iv) rfl hl.1 (Nat.le_of_ble_eq_true rfl) dL_law_668 ⟨by omega, by omega⟩) (fun r26 σ26 H locs hq26 hJ => ?_)
          obtain ⟨hr26, hs26⟩ := hq26
          rw [hs26] at hJ
          rw [hr26, tT6.P (show o9 < 20 by omega)]
          refine lv_icmp_eq (tgt := 676) S.1 S.2.1 dL_law_671 (by decide) (fun cz_671 => ?_) (fun c9 => absurd ((if_pos cz_657).symm.trans (told_lit (told_of hok (show o9 < 20 by omega) 5))) c9)
          exact kk9 _ _ _ _ _ _ _ _ _ _ o9 (1 + kh) (hUntil (gX σ).2.2.2 (gS σ (gP σ o9).2.1) (gP σ o9) 2) (hUntil (gX σ).2.2.2 (gS σ (gP σ o9).2.1) (gP σ o9) 3) (hUntil (gX σ).2.2.2 (gS σ (gP σ o9).2.1) (gP σ o9) 5) hp6 (by omega) (by omega) (Or.inr ⟨ho9, (by rw [← Tr.hU hok tT6 (show o9 < 20 by omega) 2]; exact told_of hp6.1.ok (show o9 < 20 by omega) 2), (by rw [← Tr.hU hok tT6 (show o9 < 20 by omega) 3]; exact told_of hp6.1.ok (show o9 < 20 by omega) 3), (by rw [← Tr.hU hok tT6 (show o9 < 20 by omega) 5]; exact told_of hp6.1.ok (show o9 < 20 by omega) 5)⟩) _ _ hJ ls (by rw [tr_leftS hok tT6 (1 + kh)]; exact lv_sub hl [7, 8, 9, 10, 13, 6, 5, 4, 3, 1, 0] rfl)
end LAWS
