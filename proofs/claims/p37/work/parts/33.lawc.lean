theorem fw_drop {G : Gt} {σ : St} {a : Sa} {v : Sv} {Y : va_W} {s : State} {H : Heap} {locs : List Loc} (hJ : Jw G (fw G σ a v Y) s H locs) : Jw G (fw G σ a v []) s H locs := by
  refine hJ.perm (List.Perm.refl _) ?_
  exact List.Sublist.append_left (List.Sublist.append_left (List.nil_sublist _) _) _
/-- the new promise freezes as was told -/
theorem made_told {τ : St} {n b ma : Nat} {x : Int32 × Int32 × Int32 × Int32} (hb : b < 5) (hx : x.2.2.2 = (gX τ).2.2.2) : hUntil (gX (setX (setS (setP τ n (1, b, nI ma, nI 100, 0, 20)) b ((gS τ b).1, openH (gS τ b).2)) x)).2.2.2 (gS (setX (setS (setP τ n (1, b, nI ma, nI 100, 0, 20)) b ((gS τ b).1, openH (gS τ b).2)) x) (gP (setX (setS (setP τ n (1, b, nI ma, nI 100, 0, 20)) b ((gS τ b).1, openH (gS τ b).2)) x) n).2.1) (gP (setX (setS (setP τ n (1, b, nI ma, nI 100, 0, 20)) b ((gS τ b).1, openH (gS τ b).2)) x) n) 2 = freezeN (gX τ).2.2.2 (gS τ b) := by
  have e1 : gP (setX (setS (setP τ n (1, b, nI ma, nI 100, 0, 20)) b ((gS τ b).1, openH (gS τ b).2)) x) n = (1, b, nI ma, nI 100, 0, 20) := gP_setP τ n _
  have e2 : gS (setX (setS (setP τ n (1, b, nI ma, nI 100, 0, 20)) b ((gS τ b).1, openH (gS τ b).2)) x) b = ((gS τ b).1, openH (gS τ b).2) := gS_setS (setP τ n (1, b, nI ma, nI 100, 0, 20)) b _
  have e3 : (gX (setX (setS (setP τ n (1, b, nI ma, nI 100, 0, 20)) b ((gS τ b).1, openH (gS τ b).2)) x)).2.2.2 = (gX τ).2.2.2 := hx
  rw [e1, e2, e3]
  unfold hUntil
  rw [if_neg (show ¬ (1 : Nat) = 2 by decide), if_pos (show b < 6 by omega)]
  exact freeze_mk (gX τ).2.2.2 (gS τ b) (nI ma)
section LAWS
variable {p : Program} {l : Launch} {e : Env} {R : Room} {s : State} {m : MethodId} {args : Array Value} {below : List Frame} {meth : Method} {c : Code} {H : Heap} {locs : List Loc} {cells slots : Nat} {Q : State → Prop} {ls : Array Slot} {G : Gt} {q0 q1 q2 tt : Nat} {x4 : Int32}
set_option maxRecDepth 100000 in
set_option maxHeartbeats 4000000 in
theorem lg_hours (S : CallFix p m c cL_law 31 s args AL RL) (hF9 : 12 ≤ R.frames ∧ 448 ≤ R.locals) {β : St} {q3 : Nat} {aR : Nat → Nat} {pw : Int32} {st : Nat → Int32} {n o9 hN : Nat} {F1 F2 F3 lf9 : Int32} (hN20 : hN ≤ 20) (hC9 : cells + 100 ≤ R.cells) (hS9 : slots + 1700 ≤ R.slots) (hFZ : n = 0 ∨ (o9 < n ∧ Told β o9 2 F1 ∧ Told β o9 3 F2 ∧ Told β o9 5 F3)) (kk9 : ∀ (hh ar : Int32) (ht : Nat → Int32) (row : Nat → Z7), Pct (hourXs hN β) (hh, pw, ar, st, ht, n, row) → ∀ (H : Heap) (locs : List Loc), Jw G (fw G (hourXs hN β) ((q0, q1, q2, q3), aR) (hh, pw, ar, st, ht, n, row) []) s H locs → ∀ ls : Array Slot, lv_has ls 31 [(0, .ref (gE G 6)), (1, .ref (gB G 0)), (2, .ref q0), (3, .int (nI tt)), (7, .int (nI n)), (13, .int (nI o9)), (14, .int F1), (15, .int F2), (16, .int F3), (18, .int (nI hN)), (19, .int lf9), (20, .int (nI (hN + 1)))] → W p l e R s m args below meth c H locs (cells + 5 * hN) (slots + 85 * hN) Q (F0 m 1280 ls [])) : ∀ (n9 j : Nat) (hh ar : Int32) (ht : Nat → Int32) (row : Nat → Z7), j + n9 = hN → Pct (hourXs j β) (hh, pw, ar, st, ht, n, row) → ∀ (H : Heap) (locs : List Loc), Jw G (fw G (hourXs j β) ((q0, q1, q2, q3), aR) (hh, pw, ar, st, ht, n, row) []) s H locs → ∀ ls : Array Slot, lv_has ls 31 [(0, .ref (gE G 6)), (1, .ref (gB G 0)), (2, .ref q0), (3, .int (nI tt)), (7, .int (nI n)), (13, .int (nI o9)), (14, .int F1), (15, .int F2), (16, .int F3), (18, .int (nI hN)), (19, .int lf9), (20, .int (nI (j + 1)))] → W p l e R s m args below meth c H locs (cells + 5 * j) (slots + 85 * j) Q (F0 m 679 ls []) := by
  intro n9
  induction n9 with
  | zero =>
    intro j hh ar ht row hj0 hp H locs hJ ls hl
    obtain rfl : j = hN := by omega
    refine lv_iload S.1 S.2.1 dL_law_679 (lv_at hl 11 rfl) ?_
    refine lv_iload S.1 S.2.1 dL_law_681 (lv_at hl 9 rfl) ?_
    refine lv_icmp_gt (tgt := 1280) S.1 S.2.1 dL_law_683 (by decide) (fun cz_683 => ?_) (fun c9 => absurd (nI_lt (show j < j + 1 by omega) (by omega)) c9)
    exact kk9 _ _ _ _ hp _ _ hJ ls (lv_sub hl [0, 1, 2, 3, 4, 5, 6, 7, 8, 9, 10, 11] rfl)
  | succ n9 ih =>
    intro j hh ar ht row hj0 hp H locs hJ ls hl
    have hj2 : j + 1 ≤ hN := by omega
    refine lv_iload S.1 S.2.1 dL_law_679 (lv_at hl 11 rfl) ?_
    refine lv_iload S.1 S.2.1 dL_law_681 (lv_at hl 9 rfl) ?_
    refine lv_icmp_gt (tgt := 1280) S.1 S.2.1 dL_law_683 (by decide) (fun c9 => absurd c9 (nI_nlt (show j + 1 ≤ hN by omega) (by omega))) (fun cz_683 => ?_)
    refine lg_h1 (α := hourXs j β) S hF9 (by omega) (by omega) hp ?_ hJ (lv_sub hl [0, 1, 2, 3, 4, 5, 6, 7, 8, 9, 10, 11] rfl)
    intro qa qb qc qd qe f1 f2 f3 f4 f5 u1 u2 u3 u4 u5 H locs hJ ls hl
    refine lg_h2 (α := hourXs j β) S hF9 (by omega) (by omega) hp u1 u2 u3 u4 u5 ?_ hJ hl
    intro h2 a2 ht2 row2 hp2 H locs hJ ls hl
    refine lg_h3 (α := hourXs j β) S hF9 (by omega) (by omega) hp.1 u1 u2 u3 u4 u5 hp2 ?_ hJ hl
    intro H locs hJ ls hl
    have nxt : ∀ (H : Heap) (locs : List Loc), Jw G (fw G (hourXs (j + 1) β) ((q0, q1, q2, q3), aR) (h2, pw, a2, st, ht2, n, row2) [(qa, .inl (gC G 4, 5, .inl f1)), (qb, .inl (gC G 4, n, .inl f2)), (qc, .inl (gC G 4, n, .inl f3)), (qd, .inl (gC G 4, n, .inl f4)), (qe, .inl (gC G 6, n, .inl f5))]) s H locs → ∀ ls : Array Slot, lv_has ls 31 [(0, .ref (gE G 6)), (1, .ref (gB G 0)), (2, .ref q0), (3, .int (nI tt)), (7, .int (nI n)), (13, .int (nI o9)), (14, .int F1), (15, .int F2), (16, .int F3), (18, .int (nI hN)), (19, .int lf9), (20, .int (nI (j + 1)))] → W p l e R s m args below meth c H locs (cells + 5 * j + 5) (slots + 85 * j + 85) Q (F0 m 1274 ls []) := by
      intro H locs hJ ls hl
      have hJ := fw_drop hJ
      refine lv_iinc (v := (nI (j + 1 + 1))) (lv' := [(20, .int (nI (j + 1 + 1))), (0, .ref (gE G 6)), (1, .ref (gB G 0)), (2, .ref q0), (3, .int (nI tt)), (7, .int (nI n)), (13, .int (nI o9)), (14, .int F1), (15, .int F2), (16, .int F3), (18, .int (nI hN)), (19, .int lf9)]) S.1 S.2.1 dL_law_1274 hl (k := 11) rfl (nI_1 (j + 1)) (by decide) rfl (fun ls hl => ?_)
      refine lv_goto (tgt := 679) S.1 S.2.1 dL_law_1277 (by decide) ?_
      refine W.widen (k := cells + 5 * (j + 1)) (n := slots + 85 * (j + 1)) (by omega) (by omega) ?_
      exact ih (j + 1) _ _ _ _ (by omega) hp2 _ _ hJ ls (lv_sub hl [1, 2, 3, 4, 5, 6, 7, 8, 9, 10, 11, 0] rfl)
    have hn : n ≤ 20 := hp.1.1
    rcases hFZ with hn0 | ⟨ho9, hT1, hT2, hT3⟩
    · refine lv_iload S.1 S.2.1 dL_law_1121 (lv_at hl 4 rfl) ?_
      refine lv_if_ne (tgt := 1129) S.1 S.2.1 dL_law_1123 (by decide) (fun c9 => absurd (by rw [hn0]; rfl) c9) (fun cz_1123 => ?_)
      refine lv_goto (tgt := 1274) S.1 S.2.1 dL_law_1126 (by decide) ?_
      exact nxt _ _ hJ ls (lv_sub hl [0, 1, 2, 3, 4, 5, 6, 7, 8, 9, 10, 11] rfl)
    · refine lv_iload S.1 S.2.1 dL_law_1121 (lv_at hl 4 rfl) ?_
      refine lv_if_ne (tgt := 1129) S.1 S.2.1 dL_law_1123 (by decide) (fun cz_1123 => ?_) (fun c9 => absurd c9 (nI_nz9 (N := n) (show 0 < n by omega) (by omega)))
      refine lg_c1 (jh := 0) (τ := hourXs (j + 1) β) (β := β) S hF9 (by omega) (by omega) (by omega) rfl hp2 ho9 hT1 (fun H locs hJ ls hl => ?_) hJ (lv_sub hl [0, 1, 2, 3, 4, 5, 6, 7, 8, 9, 10, 11] rfl)
      refine lg_c2 (jh := 0) (τ := hourXs (j + 1) β) (β := β) S hF9 (by omega) (by omega) (by omega) rfl hp2 ho9 hT2 (fun H locs hJ ls hl => ?_) hJ hl
      refine lg_c3 (jh := 0) (τ := hourXs (j + 1) β) (β := β) S hF9 (by omega) (by omega) (by omega) rfl hp2 ho9 hT3 (fun H locs hJ ls hl => ?_) hJ hl
      refine lg_d1 (jh := 0) (τ := hourXs (j + 1) β) (β := β) S hF9 (by omega) (by omega) (by omega) rfl hp2 ho9 hT1 (fun H locs hJ ls hl => ?_) hJ hl
      refine lg_d2 (jh := 0) (τ := hourXs (j + 1) β) (β := β) S hF9 (by omega) (by omega) (by omega) rfl hp2 ho9 hT2 (fun H locs hJ ls hl => ?_) hJ hl
      refine lg_d3 (jh := 0) (τ := hourXs (j + 1) β) (β := β) S hF9 (by omega) (by omega) (by omega) rfl hp2 ho9 hT3 (fun H locs hJ ls hl => ?_) hJ hl
      exact nxt _ _ hJ ls hl
set_option maxRecDepth 100000 in
set_option maxHeartbeats 4000000 in
theorem lg_best (S : CallFix p m c cL_law 31 s args AL RL) (hF9 : 12 ≤ R.frames ∧ 448 ≤ R.locals) (htt : tt < 9) (hC9 : cells + 2 ≤ R.cells) (hS9 : slots + 27 ≤ R.slots) {τ : St} {q3 : Nat} {aR : Nat → Nat} {hh pw ar : Int32} {st ht : Nat → Int32} {n : Nat} {row : Nat → Z7} {lf9 : Int32} (hp : Pct τ (hh, pw, ar, st, ht, n, row)) (hlf : lf9 = sumN (onF τ) 5) (kk9 : (∀ (σ : St) (q3 : Nat) (aR : Nat → Nat) (hh pw ar : Int32) (st ht : Nat → Int32) (n : Nat) (row : Nat → Z7), Pct σ (hh, pw, ar, st, ht, n, row) → ∀ (H : Heap) (locs : List Loc), Jw G (fw G σ ((q0, q1, q2, q3), aR) (hh, pw, ar, st, ht, n, row) []) s H locs → ∀ ls : Array Slot, lv_has ls 31 [(0, .ref (gE G 6)), (1, .ref (gB G 0)), (2, .ref q0), (3, .int (nI (tt + 1)))] → W p l e R s m args below meth c H locs (cells + 2) (slots + 27) Q (F0 m 22 ls []))) (hJ : Jw G (fw G τ ((q0, q1, q2, q3), aR) (hh, pw, ar, st, ht, n, row) []) s H locs) (hl : lv_has ls 31 [(0, .ref (gE G 6)), (1, .ref (gB G 0)), (2, .ref q0), (3, .int (nI tt)), (7, .int (nI n)), (19, .int lf9)]) : W p l e R s m args below meth c H locs cells slots Q (F0 m 1280 ls []) := by
  have hn : n ≤ 20 := hp.1.1
  have hok := hp.1.ok
  have hX := hp.1.gx
  have hXn : (gX τ).1 = nI n := hp.1.2.1
  have hbs : (if n < 20 then (bestF τ 5).1 else -1) = -1 ∨ ∃ b, b < 5 ∧ n < 20 ∧ (if n < 20 then (bestF τ 5).1 else -1) = nI b ∧ ¬ freezeN (gX τ).2.2.2 (gS τ b) = -1 := by
    by_cases q : n < 20
    · rw [if_pos q]
      rcases bestF_spec τ 5 with h | ⟨b, h1, h2, h3⟩
      · exact Or.inl (by rw [h])
      · exact Or.inr ⟨b, h1, q, by rw [h2], h3⟩
    · exact Or.inl (if_neg q)
  refine lv_iconst (v := 0) S.1 S.2.1 dL_law_1280 (by decide) ?_
  refine lv_istore (lv' := [(20, .int 0), (0, .ref (gE G 6)), (1, .ref (gB G 0)), (2, .ref q0), (3, .int (nI tt)), (7, .int (nI n)), (19, .int lf9)]) S.1 S.2.1 dL_law_1281 hl (by decide) rfl (fun ls hl => ?_)
  refine lv_iconst (v := (nI 0)) S.1 S.2.1 dL_law_1283 (by rfl) ?_
  refine lv_istore (lv' := [(21, .int (nI 0)), (20, .int 0), (0, .ref (gE G 6)), (1, .ref (gB G 0)), (2, .ref q0), (3, .int (nI tt)), (7, .int (nI n)), (19, .int lf9)]) S.1 S.2.1 dL_law_1284 hl (by decide) rfl (fun ls hl => ?_)
  have loop : ∀ (n9 k : Nat), k + n9 = 5 → ∀ (H : Heap) (locs : List Loc), Jw G (fw G τ ((q0, q1, q2, q3), aR) (hh, pw, ar, st, ht, n, row) []) s H locs → ∀ ls : Array Slot, lv_has ls 31 [(0, .ref (gE G 6)), (1, .ref (gB G 0)), (2, .ref q0), (3, .int (nI tt)), (7, .int (nI n)), (19, .int lf9), (20, .int (sumN (onF τ) k)), (21, .int (nI k))] → W p l e R s m args below meth c H locs cells slots Q (F0 m 1286 ls []) := by
    intro n9
    induction n9 with
    | zero =>
      intro k hk0 H locs hJ ls hl
      obtain rfl : k = 5 := by omega
      rcases hbs with hb | ⟨b, hb5, hn2, hb, hfz⟩
      · refine lv_iload S.1 S.2.1 dL_law_1286 (lv_at hl 7 rfl) ?_
        refine lv_iconst (v := (nI 5)) S.1 S.2.1 dL_law_1288 (by rfl) ?_
        refine lv_icmp_ge (tgt := 1309) S.1 S.2.1 dL_law_1289 (by decide) (fun cz_1289 => ?_) (fun c9 => absurd (nI_le (a := 5) (b := 5) (Nat.le_refl 5) (by omega)) c9)
        refine lv_iload S.1 S.2.1 dL_law_1309 (lv_at hl 6 rfl) ?_
        refine lv_iload S.1 S.2.1 dL_law_1311 (lv_at hl 5 rfl) ?_
        refine lv_icmp_eq (tgt := 1318) S.1 S.2.1 dL_law_1313 (by decide) (fun cz_1313 => ?_) (fun c9 => absurd hlf.symm c9)
        refine lv_aload_n S.1 S.2.1 dL_law_1318 rfl (lv_at hl 1 rfl) ?_
        refine cz_i hJ (rzV (As := []) (rest := []) S hJ (c_bestShelf l _ τ (n0 := n) hn hXn) (cw_L_X3_bestShelf S.2.2.2.2 ⟨by omega, by omega⟩) (rcX hJ.iv) rfl hl.1 (Nat.le_of_ble_eq_true rfl) dL_law_1319 ⟨by omega, by omega⟩) (fun r1 σ1 H locs hq1 hJ => ?_)
        obtain ⟨hr1, hT9⟩ := hq1
        rw [hr1]
        rw [show (if n < 20 then (bestF τ 5).1 else -1) = (-1) from hb]
        have hp1 := hp.tr hT9
        refine lv_istore (lv' := [(17, .int (-1)), (0, .ref (gE G 6)), (1, .ref (gB G 0)), (2, .ref q0), (3, .int (nI tt)), (7, .int (nI n)), (19, .int lf9), (20, .int (sumN (onF τ) 5)), (21, .int (nI 5))]) S.1 S.2.1 dL_law_1322 hl (by decide) rfl (fun ls hl => ?_)
        refine lv_iload S.1 S.2.1 dL_law_1324 (lv_at hl 0 rfl) ?_
        refine lv_if_ge (tgt := 1332) S.1 S.2.1 dL_law_1326 (by decide) (fun c9 => absurd c9 (by decide)) (fun cz_1326 => ?_)
        refine lv_goto (tgt := 1417) S.1 S.2.1 dL_law_1329 (by decide) ?_
        refine lv_iinc (v := (nI (tt + 1))) (lv' := [(3, .int (nI (tt + 1))), (17, .int (-1)), (0, .ref (gE G 6)), (1, .ref (gB G 0)), (2, .ref q0), (7, .int (nI n)), (19, .int lf9), (20, .int (sumN (onF τ) 5)), (21, .int (nI 5))]) S.1 S.2.1 dL_law_1417 hl (k := 4) rfl (nI_1 tt) (by decide) rfl (fun ls hl => ?_)
        refine lv_goto (tgt := 22) S.1 S.2.1 dL_law_1420 (by decide) ?_
        exact W.widen (by omega) (by omega) (kk9 _ _ _ _ _ _ _ _ _ _ hp1 _ _ hJ ls (lv_sub hl [2, 3, 4, 0] rfl))
      · refine lv_iload S.1 S.2.1 dL_law_1286 (lv_at hl 7 rfl) ?_
        refine lv_iconst (v := (nI 5)) S.1 S.2.1 dL_law_1288 (by rfl) ?_
        refine lv_icmp_ge (tgt := 1309) S.1 S.2.1 dL_law_1289 (by decide) (fun cz_1289 => ?_) (fun c9 => absurd (nI_le (a := 5) (b := 5) (Nat.le_refl 5) (by omega)) c9)
        refine lv_iload S.1 S.2.1 dL_law_1309 (lv_at hl 6 rfl) ?_
        refine lv_iload S.1 S.2.1 dL_law_1311 (lv_at hl 5 rfl) ?_
        refine lv_icmp_eq (tgt := 1318) S.1 S.2.1 dL_law_1313 (by decide) (fun cz_1313 => ?_) (fun c9 => absurd hlf.symm c9)
        refine lv_aload_n S.1 S.2.1 dL_law_1318 rfl (lv_at hl 1 rfl) ?_
        refine cz_i hJ (rzV (As := []) (rest := []) S hJ (c_bestShelf l _ τ (n0 := n) hn hXn) (cw_L_X3_bestShelf S.2.2.2.2 ⟨by omega, by omega⟩) (rcX hJ.iv) rfl hl.1 (Nat.le_of_ble_eq_true rfl) dL_law_1319 ⟨by omega, by omega⟩) (fun r1 σ1 H locs hq1 hJ => ?_)
        obtain ⟨hr1, hT9⟩ := hq1
        rw [hr1]
        rw [show (if n < 20 then (bestF τ 5).1 else -1) = (nI b) from hb]
        have hp1 := hp.tr hT9
        refine lv_istore (lv' := [(17, .int (nI b)), (0, .ref (gE G 6)), (1, .ref (gB G 0)), (2, .ref q0), (3, .int (nI tt)), (7, .int (nI n)), (19, .int lf9), (20, .int (sumN (onF τ) 5)), (21, .int (nI 5))]) S.1 S.2.1 dL_law_1322 hl (by decide) rfl (fun ls hl => ?_)
        refine lv_iload S.1 S.2.1 dL_law_1324 (lv_at hl 0 rfl) ?_
        refine lv_if_ge (tgt := 1332) S.1 S.2.1 dL_law_1326 (by decide) (fun cz_1326 => ?_) (fun c9 => absurd (Int32.not_lt.mp (nI_pos (by omega))) c9)
        refine lv_aload_n S.1 S.2.1 dL_law_1332 rfl (lv_at hl 2 rfl) ?_
        refine lv_iload S.1 S.2.1 dL_law_1333 (lv_at hl 0 rfl) ?_
        refine cz_i hJ (rzV (As := [.int (nI b)]) (rest := []) S hJ (c_heatOn l _ σ1 hb5) (cw_L_X3_heatOn S.2.2.2.2 ⟨by omega, by omega⟩) (rcX hJ.iv) rfl hl.1 (Nat.le_of_ble_eq_true rfl) dL_law_1335 ⟨by omega, by omega⟩) (fun r2 σ2 H locs hq2 hJ => ?_)
        obtain ⟨hr2, hs2⟩ := hq2
        rw [hs2] at hJ
        rw [hr2]
        refine lv_istore (lv' := [(21, .int ((gS σ1 b).2)), (17, .int (nI b)), (0, .ref (gE G 6)), (1, .ref (gB G 0)), (2, .ref q0), (3, .int (nI tt)), (7, .int (nI n)), (19, .int lf9), (20, .int (sumN (onF τ) 5))]) S.1 S.2.1 dL_law_1338 hl (by decide) rfl (fun ls hl => ?_)
        refine lv_aload_n S.1 S.2.1 dL_law_1340 rfl (lv_at hl 3 rfl) ?_
        refine cz_i hJ (rzV (As := []) (rest := []) S hJ (c_promises l _ σ1) (cw_L_X3_promises S.2.2.2.2 ⟨by omega, by omega⟩) (rcX hJ.iv) rfl hl.1 (Nat.le_of_ble_eq_true rfl) dL_law_1341 ⟨by omega, by omega⟩) (fun r3 σ3 H locs hq3 hJ => ?_)
        obtain ⟨hr3, hs3⟩ := hq3
        rw [hs3] at hJ
        have hXm : (gX σ1).1 = nI n := hp1.1.2.1
        rw [hr3, hXm]
        refine lv_istore (lv' := [(22, .int (nI n)), (21, .int ((gS σ1 b).2)), (17, .int (nI b)), (0, .ref (gE G 6)), (1, .ref (gB G 0)), (2, .ref q0), (3, .int (nI tt)), (7, .int (nI n)), (19, .int lf9), (20, .int (sumN (onF τ) 5))]) S.1 S.2.1 dL_law_1344 hl (by decide) rfl (fun ls hl => ?_)
        refine lv_aload_n S.1 S.2.1 dL_law_1346 rfl (lv_at hl 5 rfl) ?_
        refine lv_iload_n S.1 S.2.1 dL_law_1347 rfl (lv_at hl 6 rfl) ?_
        refine lv_bipush (v := (nI 6)) S.1 S.2.1 dL_law_1348 (by rfl) ?_
        refine lv_irem S.1 S.2.1 dL_law_1350 (by decide) ?_
        rw [show ((nI tt) - (nI tt) / (nI 6) * (nI 6)) = (nI (tt % 6)) from nI_rem (by omega) (by omega)]
        refine lv_bipush (v := (nI 100)) S.1 S.2.1 dL_law_1351 (by rfl) ?_
        refine lv_iload S.1 S.2.1 dL_law_1353 (lv_at hl 2 rfl) ?_
        refine dw_v hJ (rwV (As := [.int (nI (tt % 6)), .int (nI 100), .int (nI b)]) (rest := []) S hJ (k_add l G hn2 (nI (tt % 6)) (nI 100) hb5) (cw_L_X4_add S.2.2.2.2 ⟨by omega, by omega⟩) (rcSim hJ) rfl hl.1 (Nat.le_of_ble_eq_true rfl) dL_law_1355 ⟨by omega, by omega⟩) (fun ws4 H locs hq4 hJ => ?_)
        obtain ⟨qm, qr, hw4⟩ := hq4
        subst hw4
        refine lv_aload_n S.1 S.2.1 dL_law_1358 rfl (lv_at hl 4 rfl) ?_
        refine lv_iload_n S.1 S.2.1 dL_law_1359 rfl (lv_at hl 6 rfl) ?_
        refine lv_bipush (v := (nI 6)) S.1 S.2.1 dL_law_1360 (by rfl) ?_
        refine lv_irem S.1 S.2.1 dL_law_1362 (by decide) ?_
        rw [show ((nI tt) - (nI tt) / (nI 6) * (nI 6)) = (nI (tt % 6)) from nI_rem (by omega) (by omega)]
        refine lv_bipush (v := (nI 100)) S.1 S.2.1 dL_law_1363 (by rfl) ?_
        refine lv_iload S.1 S.2.1 dL_law_1365 (lv_at hl 2 rfl) ?_
        refine cz_i hJ (rzV (As := [.int (nI (tt % 6)), .int (nI 100), .int (nI b)]) (rest := []) S hJ (c_make l _ σ1 (a := tt % 6) (b := 100) (k := b) (n := n) (by omega) (by omega) (by omega) hb5 hn2 hp1.1.gx) (cw_L_X3_make S.2.2.2.2 ⟨by omega, by omega⟩) (rcX hJ.iv) rfl hl.1 (Nat.le_of_ble_eq_true rfl) dL_law_1367 ⟨by omega, by omega⟩) (fun r5 σ5 H locs hq5 hJ => ?_)
        obtain ⟨hr5, hs5⟩ := hq5
        rw [hs5] at hJ
        rw [hr5]
        have hpM := hp1.make hn2 (ma := tt % 6) (lf := 100) (by omega) (by omega) (by omega) hb5
        have hfz1 : ¬ freezeN (gX σ1).2.2.2 (gS σ1 b) = -1 := by rw [hT9.X, hT9.S hb5]; exact hfz
        obtain ⟨f, hf1, hf2, hff⟩ := freezeN_in hfz1
        have hmt := made_told (τ := σ1) (n := n) (b := b) (ma := tt % 6) (x := (nI (n + 1), (gX σ1).2.1, (gX σ1).2.2.1, (gX σ1).2.2.2)) hb5 rfl
        refine lv_iload S.1 S.2.1 dL_law_1370 (lv_at hl 0 rfl) ?_
        refine lv_icmp_ne (tgt := 1415) S.1 S.2.1 dL_law_1372 (by decide) (fun c9 => absurd rfl c9) (fun cz_1372 => ?_)
        refine lv_aload_n S.1 S.2.1 dL_law_1375 rfl (lv_at hl 4 rfl) ?_
        refine lv_iload S.1 S.2.1 dL_law_1376 (lv_at hl 2 rfl) ?_
        refine cz_i hJ (rzV (As := [.int (nI b)]) (rest := []) S hJ (c_heatOn l _ (setX (setS (setP σ1 n (1, b, nI (tt % 6), nI 100, 0, 20)) b ((gS σ1 b).1, openH (gS σ1 b).2)) (nI (n + 1), (gX σ1).2.1, (gX σ1).2.2.1, (gX σ1).2.2.2)) hb5) (cw_L_X3_heatOn S.2.2.2.2 ⟨by omega, by omega⟩) (rcX hJ.iv) rfl hl.1 (Nat.le_of_ble_eq_true rfl) dL_law_1378 ⟨by omega, by omega⟩) (fun r6 σ6 H locs hq6 hJ => ?_)
        obtain ⟨hr6, hs6⟩ := hq6
        rw [hs6] at hJ
        rw [hr6, show (gS (setX (setS (setP σ1 n (1, b, nI (tt % 6), nI 100, 0, 20)) b ((gS σ1 b).1, openH (gS σ1 b).2)) (nI (n + 1), (gX σ1).2.1, (gX σ1).2.2.1, (gX σ1).2.2.2)) b).2 = openH (gS σ1 b).2 from congrArg (fun z : Sh => z.2) (gS_setS (setP σ1 n (1, b, nI (tt % 6), nI 100, 0, 20)) b _)]
        refine lv_bipush (v := 20) S.1 S.2.1 dL_law_1381 (by decide) ?_
        refine lv_iload S.1 S.2.1 dL_law_1383 (lv_at hl 1 rfl) ?_
        refine lv_iconst (v := 2) S.1 S.2.1 dL_law_1385 (by decide) ?_
        refine lv_iadd S.1 S.2.1 dL_law_1386 ?_
        refine mt_L_min S hl.1 ⟨by omega, Nat.le_trans (show _ ≤ 448 from Nat.le_of_ble_eq_true rfl) hF9.2⟩ ⟨by omega, by omega⟩ dL_law_1387 ?_
        refine lv_icmp_ne (tgt := 1415) S.1 S.2.1 dL_law_1390 (by decide) (fun c9 => absurd ((openH_in (hp1.1.2.2.2.1 b hb5).2.2).2.2.symm) c9) (fun cz_1390 => ?_)
        refine lv_aload_n S.1 S.2.1 dL_law_1393 rfl (lv_at hl 4 rfl) ?_
        refine lv_iload S.1 S.2.1 dL_law_1394 (lv_at hl 0 rfl) ?_
        refine cz_i hJ (rzV (As := [.int (nI n)]) (rest := []) S hJ (c_hoursUntilFrozen l _ (setX (setS (setP σ1 n (1, b, nI (tt % 6), nI 100, 0, 20)) b ((gS σ1 b).1, openH (gS σ1 b).2)) (nI (n + 1), (gX σ1).2.1, (gX σ1).2.2.1, (gX σ1).2.2.2)) hpM.1.ok (i := n) (n := n + 1) (by omega) (by omega) hpM.1.gx) (cw_L_X3_hoursUntilFrozen S.2.2.2.2 ⟨by omega, by omega⟩) (rcX hJ.iv) rfl hl.1 (Nat.le_of_ble_eq_true rfl) dL_law_1396 ⟨by omega, by omega⟩) (fun r7 σ7 H locs hq7 hJ => ?_)
        obtain ⟨hr7, hT7⟩ := hq7
        rw [hr7, hmt]
        have tM1 := hT7
        have hpM1 := hpM.tr tM1
        refine lv_iconst (v := 1) S.1 S.2.1 dL_law_1399 (by decide) ?_
        refine lv_icmp_lt (tgt := 1415) S.1 S.2.1 dL_law_1400 (by decide) (fun c9 => absurd c9 (by rw [hff]; exact nI_nlt (b := 1) hf1 (by omega))) (fun cz_1400 => ?_)
        refine lv_aload_n S.1 S.2.1 dL_law_1403 rfl (lv_at hl 4 rfl) ?_
        refine lv_iload S.1 S.2.1 dL_law_1404 (lv_at hl 0 rfl) ?_
        refine cz_i hJ (rzV (As := [.int (nI n)]) (rest := []) S hJ (c_hoursUntilFrozen l _ σ7 hpM1.1.ok (i := n) (n := n + 1) (by omega) (by omega) hpM1.1.gx) (cw_L_X3_hoursUntilFrozen S.2.2.2.2 ⟨by omega, by omega⟩) (rcX hJ.iv) rfl hl.1 (Nat.le_of_ble_eq_true rfl) dL_law_1406 ⟨by omega, by omega⟩) (fun r8 σ8 H locs hq8 hJ => ?_)
        obtain ⟨hr8, hT8⟩ := hq8
        rw [hr8, Tr.hU hpM.1.ok tM1 (show n < 20 by omega) 2, hmt]
        have hpM2 := hpM1.tr hT8
        refine lv_sipush (v := 200) S.1 S.2.1 dL_law_1409 (by decide) ?_
        refine lv_icmp_le (tgt := 1417) S.1 S.2.1 dL_law_1412 (by decide) (fun cz_1412 => ?_) (fun c9 => absurd (by rw [hff]; exact nI_le (b := 200) hf2 (by omega)) c9)
        refine lv_iinc (v := (nI (tt + 1))) (lv' := [(3, .int (nI (tt + 1))), (22, .int (nI n)), (21, .int ((gS σ1 b).2)), (17, .int (nI b)), (0, .ref (gE G 6)), (1, .ref (gB G 0)), (2, .ref q0), (7, .int (nI n)), (19, .int lf9), (20, .int (sumN (onF τ) 5))]) S.1 S.2.1 dL_law_1417 hl (k := 6) rfl (nI_1 tt) (by decide) rfl (fun ls hl => ?_)
        refine lv_goto (tgt := 22) S.1 S.2.1 dL_law_1420 (by decide) ?_
        exact kk9 _ _ _ _ _ _ _ _ _ _ hpM2 _ _ hJ ls (lv_sub hl [4, 5, 6, 0] rfl)
    | succ n9 ih =>
      intro k hk0 H locs hJ ls hl
      have hk2 : k < 5 := by omega
      refine lv_iload S.1 S.2.1 dL_law_1286 (lv_at hl 7 rfl) ?_
      refine lv_iconst (v := (nI 5)) S.1 S.2.1 dL_law_1288 (by rfl) ?_
      refine lv_icmp_ge (tgt := 1309) S.1 S.2.1 dL_law_1289 (by decide) (fun c9 => absurd c9 (nI_ge (b := 5) hk2 (by omega))) (fun cz_1289 => ?_)
      refine lv_iload S.1 S.2.1 dL_law_1292 (lv_at hl 6 rfl) ?_
      refine lv_aload_n S.1 S.2.1 dL_law_1294 rfl (lv_at hl 1 rfl) ?_
      refine lv_iload S.1 S.2.1 dL_law_1295 (lv_at hl 7 rfl) ?_
      refine cz_i hJ (rzV (As := [.int (nI k)]) (rest := [.int (sumN (onF τ) k)]) S hJ (c_promisesOn l _ τ hk2) (cw_L_X3_promisesOn S.2.2.2.2 ⟨by omega, by omega⟩) (rcX hJ.iv) rfl hl.1 (Nat.le_of_ble_eq_true rfl) dL_law_1297 ⟨by omega, by omega⟩) (fun r1 σ1 H locs hq1 hJ => ?_)
      obtain ⟨hr1, hs1⟩ := hq1
      rw [hs1] at hJ
      rw [hr1]
      refine lv_iadd S.1 S.2.1 dL_law_1300 ?_
      refine lv_istore (lv' := [(20, .int ((sumN (onF τ) k) + (onF τ k))), (0, .ref (gE G 6)), (1, .ref (gB G 0)), (2, .ref q0), (3, .int (nI tt)), (7, .int (nI n)), (19, .int lf9), (21, .int (nI k))]) S.1 S.2.1 dL_law_1301 hl (by decide) rfl (fun ls hl => ?_)
      refine lv_iinc (v := (nI (k + 1))) (lv' := [(21, .int (nI (k + 1))), (20, .int ((sumN (onF τ) k) + (onF τ k))), (0, .ref (gE G 6)), (1, .ref (gB G 0)), (2, .ref q0), (3, .int (nI tt)), (7, .int (nI n)), (19, .int lf9)]) S.1 S.2.1 dL_law_1303 hl (k := 7) rfl (nI_1 k) (by decide) rfl (fun ls hl => ?_)
      refine lv_goto (tgt := 1286) S.1 S.2.1 dL_law_1306 (by decide) ?_
      exact ih (k + 1) (by omega) _ _ hJ ls (lv_sub hl [2, 3, 4, 5, 6, 7, 1, 0] rfl)
  exact loop 5 0 rfl _ _ hJ ls (lv_sub hl [2, 3, 4, 5, 6, 7, 1, 0] rfl)
set_option maxRecDepth 100000 in
set_option maxHeartbeats 4000000 in
theorem lg_time (hst9 : l.stackTraces = false) (hfl : FLn) (hfc : FLc) (S : CallFix p m c cL_law 31 s args AL RL) (hF9 : 12 ≤ R.frames ∧ 448 ≤ R.locals) (hC9 : cells + 974 ≤ R.cells) (hS9 : slots + 16284 ≤ R.slots) (hend : ∀ (ws : va_W) (H : Heap) (locs : List Loc) (ls : Array Slot), Jw G ws s H locs → W p l e R s m args below meth c H locs (cells + 974) (slots + 16284) Q (F0 m 1428 ls [.int 1])) : ∀ (n9 tt : Nat) (σ : St) (q3 : Nat) (aR : Nat → Nat) (hh pw ar : Int32) (st ht : Nat → Int32) (n : Nat) (row : Nat → Z7), tt + n9 = 9 → Pct σ (hh, pw, ar, st, ht, n, row) → ∀ (H : Heap) (locs : List Loc), Jw G (fw G σ ((q0, q1, q2, q3), aR) (hh, pw, ar, st, ht, n, row) []) s H locs → ∀ ls : Array Slot, lv_has ls 31 [(0, .ref (gE G 6)), (1, .ref (gB G 0)), (2, .ref q0), (3, .int (nI tt))] → W p l e R s m args below meth c H locs (cells + 108 * tt) (slots + 1808 * tt) Q (F0 m 22 ls []) := by
  intro n9
  induction n9 with
  | zero =>
    intro tt σ q3 aR hh pw ar st ht n row ht0 hp H locs hJ ls hl
    obtain rfl : tt = 9 := by omega
    refine lv_iload_n S.1 S.2.1 dL_law_22 rfl (lv_at hl 3 rfl) ?_
    refine lv_bipush (v := (nI 9)) S.1 S.2.1 dL_law_23 (by rfl) ?_
    refine lv_icmp_ge (tgt := 1423) S.1 S.2.1 dL_law_25 (by decide) (fun cz_25 => ?_) (fun c9 => absurd (nI_le (a := 9) (b := 9) (Nat.le_refl 9) (by omega)) c9)
    refine lv_aload_n S.1 S.2.1 dL_law_1423 rfl (lv_at hl 2 rfl) ?_
    refine lv_aload_n S.1 S.2.1 dL_law_1424 rfl (lv_at hl 1 rfl) ?_
    refine dw_i hJ (rwV (As := [.ref (gB G 0)]) (rest := []) S hJ (k_same l hfl hfc G hp) (cw_L_X4_isSame S.2.2.2.2 ⟨by omega, by omega⟩) (rcSim hJ) rfl hl.1 (Nat.le_of_ble_eq_true rfl) dL_law_1425 ⟨by omega, by omega⟩) (fun r1 ws1 H locs hq1 hJ => ?_)
    rw [hq1]
    exact W.widen (by omega) (by omega) (hend _ _ _ _ hJ)
  | succ n9 ih =>
    intro tt σ q3 aR hh pw ar st ht n row ht0 hp H locs hJ ls hl
    have htt : tt < 9 := by omega
    refine lv_iload_n S.1 S.2.1 dL_law_22 rfl (lv_at hl 3 rfl) ?_
    refine lv_bipush (v := (nI 9)) S.1 S.2.1 dL_law_23 (by rfl) ?_
    refine lv_icmp_ge (tgt := 1423) S.1 S.2.1 dL_law_25 (by decide) (fun c9 => absurd c9 (nI_ge (b := 9) htt (by omega))) (fun cz_25 => ?_)
    refine lv_aload_n S.1 S.2.1 dL_law_28 rfl (lv_at hl 0 rfl) ?_
    refine lv_iload_n S.1 S.2.1 dL_law_29 rfl (lv_at hl 3 rfl) ?_
    refine dw_i hJ (rwS (As := [.ref (gE G 6), .int (nI tt)]) (rest := []) S hJ (k_cell l G (k := tt) (by omega)) (cw_L_L_cell S.2.2.2.2 ⟨by omega, by omega⟩) rfl hl.1 (Nat.le_of_ble_eq_true rfl) dL_law_30 ⟨by omega, by omega⟩) (fun r2 ws2 H locs hq2 hJ => ?_)
    subst hq2
    refine lv_iconst (v := 2) S.1 S.2.1 dL_law_33 (by decide) ?_
    refine lv_ishr S.1 S.2.1 dL_law_34 ?_
    refine lv_bipush (v := 53) S.1 S.2.1 dL_law_35 (by decide) ?_
    refine lv_iload_n S.1 S.2.1 dL_law_37 rfl (lv_at hl 3 rfl) ?_
    refine lv_imul S.1 S.2.1 dL_law_38 ?_
    refine lv_iadd S.1 S.2.1 dL_law_39 ?_
    refine lv_istore (lv' := [(4, .int ((r2 >>> (2 &&& 31)) + (53 * (nI tt)))), (0, .ref (gE G 6)), (1, .ref (gB G 0)), (2, .ref q0), (3, .int (nI tt))]) S.1 S.2.1 dL_law_40 hl (by decide) rfl (fun ls hl => ?_)
    refine lv_iconst (v := (nI 0)) S.1 S.2.1 dL_law_42 (by rfl) ?_
    refine lv_istore (lv' := [(5, .int (nI 0)), (4, .int ((r2 >>> (2 &&& 31)) + (53 * (nI tt)))), (0, .ref (gE G 6)), (1, .ref (gB G 0)), (2, .ref q0), (3, .int (nI tt))]) S.1 S.2.1 dL_law_43 hl (by decide) rfl (fun ls hl => ?_)
    refine W.widen (k := cells + 108 * tt + 2 * 0) (n := slots + 1808 * tt + 27 * 0) (by omega) (by omega) ?_
    refine lg_acts (cells := cells + 108 * tt) (slots := slots + 1808 * tt) hst9 S hF9 (by omega) (by omega) ?_ 3 0 _ _ _ _ _ _ _ _ _ _ rfl hp _ _ hJ ls (lv_sub hl [2, 3, 4, 5, 1, 0] rfl)
    intro σ q3 aR hh pw ar st ht n row hp H locs hJ ls hl
    refine lg_looks S hF9 (by omega) (by omega) ?_ hp hJ hl
    intro σ q3 aR hh pw ar st ht n row hp H locs hJ ls hl
    refine lg_told S hF9 (by omega) (by omega) ?_ hp hJ hl
    intro β q3 aR hh pw ar st ht n row o9 hN F1 F2 F3 hp hN1 hN20 hFZ H locs hJ ls hl
    refine lv_iconst (v := (nI (0 + 1))) S.1 S.2.1 dL_law_676 (by rfl) ?_
    refine lv_istore (lv' := [(20, .int (nI (0 + 1))), (0, .ref (gE G 6)), (1, .ref (gB G 0)), (2, .ref q0), (3, .int (nI tt)), (7, .int (nI n)), (13, .int (nI o9)), (14, .int F1), (15, .int F2), (16, .int F3), (18, .int (nI hN)), (19, .int (sumN (leftF β hN) 20))]) S.1 S.2.1 dL_law_677 hl (by decide) rfl (fun ls hl => ?_)
    refine W.widen (k := cells + 108 * tt + 6 + 5 * 0) (n := slots + 1808 * tt + 81 + 85 * 0) (by omega) (by omega) ?_
    refine lg_hours (cells := cells + 108 * tt + 6) (slots := slots + 1808 * tt + 81) (β := β) S hF9 hN20 (by omega) (by omega) hFZ ?_ hN 0 _ _ _ _ (by omega) hp _ _ hJ ls (lv_sub hl [1, 2, 3, 4, 5, 6, 7, 8, 9, 10, 11, 0] rfl)
    intro hh ar ht row hp2 H locs hJ ls hl
    refine lg_best S hF9 htt (by omega) (by omega) hp2 (left_sum hp.1.ok hN).symm ?_ hJ (lv_sub hl [0, 1, 2, 3, 4, 10] rfl)
    intro σ q3 aR hh pw ar st ht n row hp H locs hJ ls hl
    refine W.widen (k := cells + 108 * (tt + 1)) (n := slots + 1808 * (tt + 1)) (by omega) (by omega) ?_
    exact ih (tt + 1) _ _ _ _ _ _ _ _ _ _ (by omega) hp _ _ hJ ls hl
end LAWS
