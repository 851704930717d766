section MDIG
variable {p : Program} {l : Launch} {e : Env} {s : State} {m : MethodId} {args : Array Value} {below : List Frame} {meth : Method} {c : Code} {cells slots : Nat}
variable {G : Gt} {σ α : St} {n : Nat} {th : Int32} {mk lf nw kp : Nat → Int32} {post : Int64 → St → Prop}
set_option maxRecDepth 100000 in
set_option maxHeartbeats 4000000 in
theorem dg_M (S : CallFix p m c cX4_digest 11 s args AL RX4) (hr : meth.sig.returnType = some .long) (hlk : meth.locks = false) (hm : gM σ = (th, nI n, mk, lf, nw, kp)) (hpic : Pic α n mk lf nw) (d0 : Int64) (hp : post (dgM α d0 6) σ) (hc : cells ≤ 21) (hs : slots ≤ 188) : ∀ (n9 k : Nat), k + n9 = 6 → ∀ (H : Heap) (locs : List Loc), Iv G σ s H locs → ∀ ls : Array Slot, lv_has ls 11 [(0, .ref (gB G 3)), (2, .long (dgM α d0 k)), (4, .int (nI k))] → W p l e (rm 7 21 188) s m args below meth c H locs cells slots (MQ below (Ql G post) args s 21 188 (gA G)) (F0 m 392 ls []) := by
  intro n9
  induction n9 with
  | zero =>
    intro k hk0 H locs hI ls hl
    obtain rfl : k = 6 := by omega
    refine lv_iload S.1 S.2.1 dX4_digest_392 (lv_at hl 2 rfl) ?_
    refine lv_bipush (v := 6) S.1 S.2.1 dX4_digest_394 (by decide) ?_
    refine lv_icmp_ge (tgt := 431) S.1 S.2.1 dX4_digest_396 (by decide) (fun cz_396 => ?_) (fun c9 => absurd (nI_le (a := 6) (b := 6) (Nat.le_refl 6) (by omega)) c9)
    refine lv_lload_n S.1 S.2.1 dX4_digest_431 rfl (lv_at hl 1 rfl) ?_
    exact xt_l S hI hr hlk hp (hc) (hs) dX4_digest_432
  | succ n9 ih =>
    intro k hk0 H locs hI ls hl
    have hk2 : k < 6 := by omega
    refine lv_iload S.1 S.2.1 dX4_digest_392 (lv_at hl 2 rfl) ?_
    refine lv_bipush (v := 6) S.1 S.2.1 dX4_digest_394 (by decide) ?_
    refine lv_icmp_ge (tgt := 431) S.1 S.2.1 dX4_digest_396 (by decide) (fun c9 => absurd c9 (nI_ge (b := 6) hk2 (by omega))) (fun cz_396 => ?_)
    refine lv_lload_n S.1 S.2.1 dX4_digest_399 rfl (lv_at hl 1 rfl) ?_
    refine ld_X4_31 S dX4_digest_400 ?_
    refine lv_lmul S.1 S.2.1 dX4_digest_403 ?_
    refine lv_aload_n S.1 S.2.1 dX4_digest_404 rfl (lv_at hl 0 rfl) ?_
    refine lv_iload S.1 S.2.1 dX4_digest_405 (lv_at hl 2 rfl) ?_
    refine cl_i hI (rnV (As := [.int (nI k)]) (rest := [.long ((dgM α d0 k) * 31)]) S hI (c_owes l G _ hm hpic (a := k)) (cw_X4_X4_owes S.2.2.2.2 ⟨Nat.le_of_ble_eq_true rfl, Nat.le_of_ble_eq_true rfl⟩) (rcM hI) rfl hl.1 (Nat.le_of_ble_eq_true rfl) dX4_digest_407 ⟨(by show _ ≤ 21; omega), (by show _ ≤ 188; omega)⟩) (fun r1 σ1 H locs hq1 hI => ?_)
    obtain ⟨hr1, hs1⟩ := hq1
    rw [hs1] at hI
    rw [hr1]
    refine lv_i2l (v := (owF α (nI k)).toInt64) S.1 S.2.1 dX4_digest_410 rfl ?_
    refine lv_ladd S.1 S.2.1 dX4_digest_411 ?_
    refine ld_X4_31 S dX4_digest_412 ?_
    refine lv_lmul S.1 S.2.1 dX4_digest_415 ?_
    refine lv_aload_n S.1 S.2.1 dX4_digest_416 rfl (lv_at hl 0 rfl) ?_
    refine lv_iload S.1 S.2.1 dX4_digest_417 (lv_at hl 2 rfl) ?_
    refine cl_i hI (rnV (As := [.int (nI k)]) (rest := [.long ((((dgM α d0 k) * 31) + (owF α (nI k)).toInt64) * 31)]) S hI (c_honour l G _ hm hpic (a := k)) (cw_X4_X4_honour S.2.2.2.2 ⟨Nat.le_of_ble_eq_true rfl, Nat.le_of_ble_eq_true rfl⟩) (rcM hI) rfl hl.1 (Nat.le_of_ble_eq_true rfl) dX4_digest_419 ⟨(by show _ ≤ 21; omega), (by show _ ≤ 188; omega)⟩) (fun r2 σ2 H locs hq2 hI => ?_)
    obtain ⟨hr2, hs2⟩ := hq2
    rw [hs2] at hI
    rw [hr2]
    refine lv_i2l (v := (honF α k).toInt64) S.1 S.2.1 dX4_digest_422 rfl ?_
    refine lv_ladd S.1 S.2.1 dX4_digest_423 ?_
    refine lv_lstore_n (lv' := [(2, .long (((((dgM α d0 k) * 31) + (owF α (nI k)).toInt64) * 31) + (honF α k).toInt64)), (0, .ref (gB G 3)), (4, .int (nI k))]) S.1 S.2.1 dX4_digest_424 rfl hl (by decide) rfl (fun ls hl => ?_)
    refine lv_iinc (v := (nI (k + 1))) (lv' := [(4, .int (nI (k + 1))), (2, .long (((((dgM α d0 k) * 31) + (owF α (nI k)).toInt64) * 31) + (honF α k).toInt64)), (0, .ref (gB G 3))]) S.1 S.2.1 dX4_digest_425 hl (k := 2) rfl (nI_1 k) (by decide) rfl (fun ls hl => ?_)
    refine lv_goto (tgt := 392) S.1 S.2.1 dX4_digest_428 (by decide) ?_
    exact ih (k + 1) (by omega) _ _ hI ls (lv_sub hl [2, 1, 0] rfl)
set_option maxRecDepth 100000 in
set_option maxHeartbeats 4000000 in
theorem dg_R (S : CallFix p m c cX4_digest 11 s args AL RX4) (d0 : Int64) {a : Nat} {cA : ClassId} {f : Nat → Int32} {kv : Int32} {H : Heap} {locs : List Loc} (hJ : Jv G σ a cA 9 f s H locs) (hK : ∀ ls : Array Slot, lv_has ls 11 [(0, .ref (gB G 3)), (2, .long (rowD f d0 9)), (4, .int kv)] → W p l e (rm 7 21 188) s m args below meth c H locs cells slots (MQ below (Ql G post) args s 21 188 (gA G)) (F0 m 383 ls [])) : ∀ (n9 i : Nat), i + n9 = 9 → ∀ ls : Array Slot, lv_has ls 11 [(0, .ref (gB G 3)), (2, .long (rowD f d0 i)), (4, .int kv), (7, .ref a), (8, .int (nI 9)), (9, .int (nI i))] → W p l e (rm 7 21 188) s m args below meth c H locs cells slots (MQ below (Ql G post) args s 21 188 (gA G)) (F0 m 353 ls []) := by
  have hI := hJ.iv
  intro n9
  induction n9 with
  | zero =>
    intro i hk0 ls hl
    obtain rfl : i = 9 := by omega
    refine lv_iload S.1 S.2.1 dX4_digest_353 (lv_at hl 5 rfl) ?_
    refine lv_iload S.1 S.2.1 dX4_digest_355 (lv_at hl 4 rfl) ?_
    refine lv_icmp_ge (tgt := 383) S.1 S.2.1 dX4_digest_357 (by decide) (fun cz_357 => ?_) (fun c9 => absurd (nI_le (a := 9) (b := 9) (Nat.le_refl 9) (by omega)) c9)
    exact hK ls (lv_sub hl [0, 1, 2] rfl)
  | succ n9 ih =>
    intro i hk0 ls hl
    have hk2 : i < 9 := by omega
    refine lv_iload S.1 S.2.1 dX4_digest_353 (lv_at hl 5 rfl) ?_
    refine lv_iload S.1 S.2.1 dX4_digest_355 (lv_at hl 4 rfl) ?_
    refine lv_icmp_ge (tgt := 383) S.1 S.2.1 dX4_digest_357 (by decide) (fun c9 => absurd c9 (nI_ge (b := 9) hk2 (by omega))) (fun cz_357 => ?_)
    refine lv_aload S.1 S.2.1 dX4_digest_360 (lv_at hl 3 rfl) ?_
    refine lv_iload S.1 S.2.1 dX4_digest_362 (lv_at hl 5 rfl) ?_
    refine j_ld S hJ (j := i) (by omega) (by omega) dX4_digest_364 ?_
    refine lv_istore (lv' := [(10, .int (f i)), (0, .ref (gB G 3)), (2, .long (rowD f d0 i)), (4, .int kv), (7, .ref a), (8, .int (nI 9)), (9, .int (nI i))]) S.1 S.2.1 dX4_digest_365 hl (by decide) rfl (fun ls hl => ?_)
    refine lv_lload_n S.1 S.2.1 dX4_digest_367 rfl (lv_at hl 2 rfl) ?_
    refine ld_X4_31 S dX4_digest_368 ?_
    refine lv_lmul S.1 S.2.1 dX4_digest_371 ?_
    refine lv_iload S.1 S.2.1 dX4_digest_372 (lv_at hl 0 rfl) ?_
    refine lv_i2l (v := (f i).toInt64) S.1 S.2.1 dX4_digest_374 rfl ?_
    refine lv_ladd S.1 S.2.1 dX4_digest_375 ?_
    refine lv_lstore_n (lv' := [(2, .long (((rowD f d0 i) * 31) + (f i).toInt64)), (10, .int (f i)), (0, .ref (gB G 3)), (4, .int kv), (7, .ref a), (8, .int (nI 9)), (9, .int (nI i))]) S.1 S.2.1 dX4_digest_376 rfl hl (by decide) rfl (fun ls hl => ?_)
    refine lv_iinc (v := (nI (i + 1))) (lv' := [(9, .int (nI (i + 1))), (2, .long (((rowD f d0 i) * 31) + (f i).toInt64)), (10, .int (f i)), (0, .ref (gB G 3)), (4, .int kv), (7, .ref a), (8, .int (nI 9))]) S.1 S.2.1 dX4_digest_377 hl (k := 6) rfl (nI_1 i) (by decide) rfl (fun ls hl => ?_)
    refine lv_goto (tgt := 353) S.1 S.2.1 dX4_digest_380 (by decide) ?_
    exact ih (i + 1) (by omega) ls (lv_sub hl [3, 1, 4, 5, 6, 0] rfl)
theorem dg_row (α : St) (k : Nat) (d : Int64) : rowD (va_up (va_up (va_up (va_up (va_up (va_up (va_up (va_up (va_up (fun _ => 0) 0 ((gP α k).2.2.1)) 1 (shI (gP α k).2.1)) 2 ((gP α k).2.2.2.2.2)) 3 ((gP α k).2.2.2.2.1)) 4 ((gP α k).2.2.2.1 - (gP α k).2.2.2.2.1)) 5 (isI (gP α k) 2)) 6 (isI (gP α k) 3)) 7 (isI (gP α k) 4)) 8 (isI (gP α k) 5)) d 9 = dgP1 (gP α k) d := rfl
theorem row_e4 {mk lf nw : Nat → Int32} (h : Pic α n mk lf nw) {k : Nat} (hk : k < n) : isI (gP α k) 4 = if nw (13 + 5 * k + 4) = 1 then 1 else 0 := by
  unfold isI
  by_cases hz : (gP α k).1 = 4
  · rw [if_pos hz, if_pos ((h.endI hk).1.mpr hz)]
  · rw [if_neg hz, if_neg (fun hy => hz ((h.endI hk).1.mp hy))]
theorem row_e5 {mk lf nw : Nat → Int32} (h : Pic α n mk lf nw) {k : Nat} (hk : k < n) : isI (gP α k) 5 = if nw (13 + 5 * k + 4) = 2 then 1 else 0 := by
  unfold isI
  by_cases hz : (gP α k).1 = 5
  · rw [if_pos hz, if_pos ((h.endI hk).2.mpr hz)]
  · rw [if_neg hz, if_neg (fun hy => hz ((h.endI hk).2.mp hy))]
set_option maxRecDepth 100000 in
set_option maxHeartbeats 4000000 in
theorem dg_P (S : CallFix p m c cX4_digest 11 s args AL RX4) (hr : meth.sig.returnType = some .long) (hlk : meth.locks = false) (hm : gM σ = (th, nI n, mk, lf, nw, kp)) (hpic : Pic α n mk lf nw) (d0 : Int64) (hp : post (dgM α (dgP α d0 n) 6) σ) : ∀ (n9 k : Nat), k + n9 = n → ∀ (H : Heap) (locs : List Loc), Iv G σ s H locs → ∀ ls : Array Slot, lv_has ls 11 [(0, .ref (gB G 3)), (2, .long (dgP α d0 k)), (4, .int (nI k))] → W p l e (rm 7 21 188) s m args below meth c H locs (1 + k) (8 + 9 * k) (MQ below (Ql G post) args s 21 188 (gA G)) (F0 m 185 ls []) := by
  have hn20 := hpic.1
  intro n9
  induction n9 with
  | zero =>
    intro k hk0 H locs hI ls hl
    obtain rfl : k = n := by omega
    refine lv_iload S.1 S.2.1 dX4_digest_185 (lv_at hl 2 rfl) ?_
    refine lv_aload_n S.1 S.2.1 dX4_digest_187 rfl (lv_at hl 0 rfl) ?_
    refine g_X4_M_promises S hI hm dX4_digest_188 ?_
    refine lv_icmp_ge (tgt := 389) S.1 S.2.1 dX4_digest_191 (by decide) (fun cz_191 => ?_) (fun c9 => absurd (nI_le (Nat.le_refl k) (by omega)) c9)
    refine lv_iconst (v := (nI 0)) S.1 S.2.1 dX4_digest_389 (by rfl) ?_
    refine lv_istore (lv' := [(4, .int (nI 0)), (0, .ref (gB G 3)), (2, .long (dgP α d0 k))]) S.1 S.2.1 dX4_digest_390 hl (by decide) rfl (fun ls hl => ?_)
    exact dg_M S hr hlk hm hpic (dgP α d0 k) hp (by omega) (by omega) 6 0 (by omega) _ _ hI ls (lv_sub hl [1, 2, 0] rfl)
  | succ n9 ih =>
    intro k hk0 H locs hI ls hl
    have hk2 : k < n := by omega
    refine lv_iload S.1 S.2.1 dX4_digest_185 (lv_at hl 2 rfl) ?_
    refine lv_aload_n S.1 S.2.1 dX4_digest_187 rfl (lv_at hl 0 rfl) ?_
    refine g_X4_M_promises S hI hm dX4_digest_188 ?_
    refine lv_icmp_ge (tgt := 389) S.1 S.2.1 dX4_digest_191 (by decide) (fun c9 => absurd c9 (nI_ge hk2 (by omega))) (fun cz_191 => ?_)
    refine lv_aload_n S.1 S.2.1 dX4_digest_194 rfl (lv_at hl 0 rfl) ?_
    refine g_X4_M_now S hI dX4_digest_195 ?_
    refine lv_iload S.1 S.2.1 dX4_digest_198 (lv_at hl 2 rfl) ?_
    refine lv_iconst (v := (nI 4)) S.1 S.2.1 dX4_digest_200 (by rfl) ?_
    refine cl_i hI (rnS (As := [.int (nI k), .int (nI 4)]) (rest := [.ref (gB G 6)]) S hI (c_of l G _ k 4) (cw_X4_X4_of S.2.2.2.2 ⟨Nat.le_of_ble_eq_true rfl, Nat.le_of_ble_eq_true rfl⟩) rfl hl.1 (Nat.le_of_ble_eq_true rfl) dX4_digest_201 ⟨(by show _ ≤ 21; omega), (by show _ ≤ 188; omega)⟩) (fun r1 σ1 H locs hq1 hI => ?_)
    obtain ⟨hr1, hs1⟩ := hq1
    rw [hs1] at hI
    rw [hr1]
    refine a_nw S hI hm (j := (13 + 5 * k + 4)) (by omega) dX4_digest_204 ?_
    refine lv_istore (lv' := [(5, .int (nw (13 + 5 * k + 4))), (0, .ref (gB G 3)), (2, .long (dgP α d0 k)), (4, .int (nI k))]) S.1 S.2.1 dX4_digest_205 hl (by decide) rfl (fun ls hl => ?_)
    refine lv_bipush (v := 9) S.1 S.2.1 dX4_digest_207 (by decide) ?_
    refine j_new S hI al_ints (N := 9) (by decide) (by decide +kernel) (by decide) (by show _ ≤ 21; omega) (by show _ ≤ 188; omega) dX4_digest_209 (fun ja2 jc2 H hJ => ?_)
    have hI := hJ.iv
    refine lv_dup S.1 S.2.1 dX4_digest_211 rfl ?_
    refine lv_iconst (v := (nI 0)) S.1 S.2.1 dX4_digest_212 (by rfl) ?_
    refine lv_aload_n S.1 S.2.1 dX4_digest_213 rfl (lv_at hl 1 rfl) ?_
    refine g_X4_M_maker S hI dX4_digest_214 ?_
    refine lv_iload S.1 S.2.1 dX4_digest_217 (lv_at hl 3 rfl) ?_
    refine a_mk S hI hm (j := k) (by omega) dX4_digest_219 ?_
    rw [show (mk k) = ((gP α k).2.2.1) from (hpic.2.2.2.2.1 k hk2).1]
    refine j_st S hJ (j := 0) (by omega) (by omega) dX4_digest_220 (fun H locs hJ => ?_)
    have hI := hJ.iv
    refine lv_dup S.1 S.2.1 dX4_digest_221 rfl ?_
    refine lv_iconst (v := (nI 1)) S.1 S.2.1 dX4_digest_222 (by rfl) ?_
    refine lv_aload_n S.1 S.2.1 dX4_digest_223 rfl (lv_at hl 1 rfl) ?_
    refine g_X4_M_now S hI dX4_digest_224 ?_
    refine lv_iload S.1 S.2.1 dX4_digest_227 (lv_at hl 3 rfl) ?_
    refine lv_iconst (v := (nI 0)) S.1 S.2.1 dX4_digest_229 (by rfl) ?_
    refine clj_i hJ (rnSj (As := [.int (nI k), .int (nI 0)]) (rest := [.ref (gB G 6), .int (nI 1), .ref ja2, .ref ja2]) S hJ (c_of l (cut G ja2) _ k 0) (cw_X4_X4_of S.2.2.2.2 ⟨Nat.le_of_ble_eq_true rfl, Nat.le_of_ble_eq_true rfl⟩) rfl hl.1 (Nat.le_of_ble_eq_true rfl) dX4_digest_230 ⟨(by show _ ≤ 21; omega), (by show _ ≤ 188; omega)⟩) (fun r3 σ3 H locs hq3 hJ => ?_)
    have hI := hJ.iv
    obtain ⟨hr3, hs3⟩ := hq3
    rw [hs3] at hJ
    have hI := hJ.iv
    rw [hr3]
    refine a_nw S hI hm (j := (13 + 5 * k + 0)) (by omega) dX4_digest_233 ?_
    rw [show (nw (13 + 5 * k + 0)) = (shI (gP α k).2.1) from hpic.shI hk2]
    refine j_st S hJ (j := 1) (by omega) (by omega) dX4_digest_234 (fun H locs hJ => ?_)
    have hI := hJ.iv
    refine lv_dup S.1 S.2.1 dX4_digest_235 rfl ?_
    refine lv_iconst (v := (nI 2)) S.1 S.2.1 dX4_digest_236 (by rfl) ?_
    refine lv_aload_n S.1 S.2.1 dX4_digest_237 rfl (lv_at hl 1 rfl) ?_
    refine g_X4_M_now S hI dX4_digest_238 ?_
    refine lv_iload S.1 S.2.1 dX4_digest_241 (lv_at hl 3 rfl) ?_
    refine lv_iconst (v := (nI 1)) S.1 S.2.1 dX4_digest_243 (by rfl) ?_
    refine clj_i hJ (rnSj (As := [.int (nI k), .int (nI 1)]) (rest := [.ref (gB G 6), .int (nI 2), .ref ja2, .ref ja2]) S hJ (c_of l (cut G ja2) _ k 1) (cw_X4_X4_of S.2.2.2.2 ⟨Nat.le_of_ble_eq_true rfl, Nat.le_of_ble_eq_true rfl⟩) rfl hl.1 (Nat.le_of_ble_eq_true rfl) dX4_digest_244 ⟨(by show _ ≤ 21; omega), (by show _ ≤ 188; omega)⟩) (fun r4 σ4 H locs hq4 hJ => ?_)
    have hI := hJ.iv
    obtain ⟨hr4, hs4⟩ := hq4
    rw [hs4] at hJ
    have hI := hJ.iv
    rw [hr4]
    refine a_nw S hI hm (j := (13 + 5 * k + 1)) (by omega) dX4_digest_247 ?_
    rw [show (nw (13 + 5 * k + 1)) = ((gP α k).2.2.2.2.2) from (hpic.2.2.2.2.1 k hk2).2.2.1]
    refine j_st S hJ (j := 2) (by omega) (by omega) dX4_digest_248 (fun H locs hJ => ?_)
    have hI := hJ.iv
    refine lv_dup S.1 S.2.1 dX4_digest_249 rfl ?_
    refine lv_iconst (v := (nI 3)) S.1 S.2.1 dX4_digest_250 (by rfl) ?_
    refine lv_aload_n S.1 S.2.1 dX4_digest_251 rfl (lv_at hl 1 rfl) ?_
    refine g_X4_M_now S hI dX4_digest_252 ?_
    refine lv_iload S.1 S.2.1 dX4_digest_255 (lv_at hl 3 rfl) ?_
    refine lv_iconst (v := (nI 2)) S.1 S.2.1 dX4_digest_257 (by rfl) ?_
    refine clj_i hJ (rnSj (As := [.int (nI k), .int (nI 2)]) (rest := [.ref (gB G 6), .int (nI 3), .ref ja2, .ref ja2]) S hJ (c_of l (cut G ja2) _ k 2) (cw_X4_X4_of S.2.2.2.2 ⟨Nat.le_of_ble_eq_true rfl, Nat.le_of_ble_eq_true rfl⟩) rfl hl.1 (Nat.le_of_ble_eq_true rfl) dX4_digest_258 ⟨(by show _ ≤ 21; omega), (by show _ ≤ 188; omega)⟩) (fun r5 σ5 H locs hq5 hJ => ?_)
    have hI := hJ.iv
    obtain ⟨hr5, hs5⟩ := hq5
    rw [hs5] at hJ
    have hI := hJ.iv
    rw [hr5]
    refine a_nw S hI hm (j := (13 + 5 * k + 2)) (by omega) dX4_digest_261 ?_
    rw [show (nw (13 + 5 * k + 2)) = ((gP α k).2.2.2.2.1) from (hpic.2.2.2.2.1 k hk2).2.2.2.1]
    refine j_st S hJ (j := 3) (by omega) (by omega) dX4_digest_262 (fun H locs hJ => ?_)
    have hI := hJ.iv
    refine lv_dup S.1 S.2.1 dX4_digest_263 rfl ?_
    refine lv_iconst (v := (nI 4)) S.1 S.2.1 dX4_digest_264 (by rfl) ?_
    refine lv_aload_n S.1 S.2.1 dX4_digest_265 rfl (lv_at hl 1 rfl) ?_
    refine lv_iload S.1 S.2.1 dX4_digest_266 (lv_at hl 3 rfl) ?_
    refine clj_i hJ (rnVj (As := [.int (nI k)]) (rest := [.int (nI 4), .ref ja2, .ref ja2]) S hJ (c_left l (cut G ja2) _ hm hpic (q := k) hk2) (cw_X4_X4_left S.2.2.2.2 ⟨Nat.le_of_ble_eq_true rfl, Nat.le_of_ble_eq_true rfl⟩) (rcM hI) rfl hl.1 (Nat.le_of_ble_eq_true rfl) dX4_digest_268 ⟨(by show _ ≤ 21; omega), (by show _ ≤ 188; omega)⟩) (fun r6 σ6 H locs hq6 hJ => ?_)
    have hI := hJ.iv
    obtain ⟨hr6, hs6⟩ := hq6
    rw [hs6] at hJ
    have hI := hJ.iv
    rw [hr6]
    refine j_st S hJ (j := 4) (by omega) (by omega) dX4_digest_271 (fun H locs hJ => ?_)
    have hI := hJ.iv
    refine lv_dup S.1 S.2.1 dX4_digest_272 rfl ?_
    refine lv_iconst (v := (nI 5)) S.1 S.2.1 dX4_digest_273 (by rfl) ?_
    refine lv_aload_n S.1 S.2.1 dX4_digest_274 rfl (lv_at hl 1 rfl) ?_
    refine lv_iload S.1 S.2.1 dX4_digest_275 (lv_at hl 3 rfl) ?_
    refine lv_iconst (v := (nI 1)) S.1 S.2.1 dX4_digest_277 (by rfl) ?_
    refine clj_i hJ (rnVj (As := [.int (nI k), .int (nI 1)]) (rest := [.int (nI 5), .ref ja2, .ref ja2]) S hJ (c_isSo l (cut G ja2) _ hm hpic (q := k) hk2 (g := 2) (by omega)) (cw_X4_X4_isSo S.2.2.2.2 ⟨Nat.le_of_ble_eq_true rfl, Nat.le_of_ble_eq_true rfl⟩) (rcM hI) rfl hl.1 (Nat.le_of_ble_eq_true rfl) dX4_digest_278 ⟨(by show _ ≤ 21; omega), (by show _ ≤ 188; omega)⟩) (fun r7 σ7 H locs hq7 hJ => ?_)
    have hI := hJ.iv
    obtain ⟨hr7, hs7⟩ := hq7
    rw [hs7] at hJ
    have hI := hJ.iv
    rw [hr7]
    refine lj_bool S (isI_01 _ _) dX4_digest_281 dX4_digest_284 dX4_digest_285 dX4_digest_288 rfl rfl ?_
    refine j_st S hJ (j := 5) (by omega) (by omega) dX4_digest_289 (fun H locs hJ => ?_)
    have hI := hJ.iv
    refine lv_dup S.1 S.2.1 dX4_digest_290 rfl ?_
    refine lv_bipush (v := (nI 6)) S.1 S.2.1 dX4_digest_291 (by rfl) ?_
    refine lv_aload_n S.1 S.2.1 dX4_digest_293 rfl (lv_at hl 1 rfl) ?_
    refine lv_iload S.1 S.2.1 dX4_digest_294 (lv_at hl 3 rfl) ?_
    refine lv_iconst (v := (nI 2)) S.1 S.2.1 dX4_digest_296 (by rfl) ?_
    refine clj_i hJ (rnVj (As := [.int (nI k), .int (nI 2)]) (rest := [.int (nI 6), .ref ja2, .ref ja2]) S hJ (c_isSo l (cut G ja2) _ hm hpic (q := k) hk2 (g := 3) (by omega)) (cw_X4_X4_isSo S.2.2.2.2 ⟨Nat.le_of_ble_eq_true rfl, Nat.le_of_ble_eq_true rfl⟩) (rcM hI) rfl hl.1 (Nat.le_of_ble_eq_true rfl) dX4_digest_297 ⟨(by show _ ≤ 21; omega), (by show _ ≤ 188; omega)⟩) (fun r8 σ8 H locs hq8 hJ => ?_)
    have hI := hJ.iv
    obtain ⟨hr8, hs8⟩ := hq8
    rw [hs8] at hJ
    have hI := hJ.iv
    rw [hr8]
    refine lj_bool S (isI_01 _ _) dX4_digest_300 dX4_digest_303 dX4_digest_304 dX4_digest_307 rfl rfl ?_
    refine j_st S hJ (j := 6) (by omega) (by omega) dX4_digest_308 (fun H locs hJ => ?_)
    have hI := hJ.iv
    refine lv_dup S.1 S.2.1 dX4_digest_309 rfl ?_
    refine lv_bipush (v := (nI 7)) S.1 S.2.1 dX4_digest_310 (by rfl) ?_
    refine lv_iload S.1 S.2.1 dX4_digest_312 (lv_at hl 0 rfl) ?_
    refine lv_iconst (v := 1) S.1 S.2.1 dX4_digest_314 (by decide) ?_
    refine lj_is S (r := isI (gP α k) 4) (row_e4 hpic hk2) dX4_digest_315 dX4_digest_318 dX4_digest_319 dX4_digest_322 rfl rfl ?_
    refine j_st S hJ (j := 7) (by omega) (by omega) dX4_digest_323 (fun H locs hJ => ?_)
    have hI := hJ.iv
    refine lv_dup S.1 S.2.1 dX4_digest_324 rfl ?_
    refine lv_bipush (v := (nI 8)) S.1 S.2.1 dX4_digest_325 (by rfl) ?_
    refine lv_iload S.1 S.2.1 dX4_digest_327 (lv_at hl 0 rfl) ?_
    refine lv_iconst (v := 2) S.1 S.2.1 dX4_digest_329 (by decide) ?_
    refine lj_is S (r := isI (gP α k) 5) (row_e5 hpic hk2) dX4_digest_330 dX4_digest_333 dX4_digest_334 dX4_digest_337 rfl rfl ?_
    refine j_st S hJ (j := 8) (by omega) (by omega) dX4_digest_338 (fun H locs hJ => ?_)
    have hI := hJ.iv
    refine lv_astore (lv' := [(6, .ref ja2), (5, .int (nw (13 + 5 * k + 4))), (0, .ref (gB G 3)), (2, .long (dgP α d0 k)), (4, .int (nI k))]) S.1 S.2.1 dX4_digest_339 hl (by decide) rfl (fun ls hl => ?_)
    refine lv_aload S.1 S.2.1 dX4_digest_341 (lv_at hl 0 rfl) ?_
    refine lv_astore (lv' := [(7, .ref ja2), (6, .ref ja2), (5, .int (nw (13 + 5 * k + 4))), (0, .ref (gB G 3)), (2, .long (dgP α d0 k)), (4, .int (nI k))]) S.1 S.2.1 dX4_digest_343 hl (by decide) rfl (fun ls hl => ?_)
    refine lv_aload S.1 S.2.1 dX4_digest_345 (lv_at hl 0 rfl) ?_
    refine j_len S hJ dX4_digest_347 ?_
    refine lv_istore (lv' := [(8, .int (nI 9)), (7, .ref ja2), (6, .ref ja2), (5, .int (nw (13 + 5 * k + 4))), (0, .ref (gB G 3)), (2, .long (dgP α d0 k)), (4, .int (nI k))]) S.1 S.2.1 dX4_digest_348 hl (by decide) rfl (fun ls hl => ?_)
    refine lv_iconst (v := (nI 0)) S.1 S.2.1 dX4_digest_350 (by rfl) ?_
    refine lv_istore (lv' := [(9, .int (nI 0)), (8, .int (nI 9)), (7, .ref ja2), (6, .ref ja2), (5, .int (nw (13 + 5 * k + 4))), (0, .ref (gB G 3)), (2, .long (dgP α d0 k)), (4, .int (nI k))]) S.1 S.2.1 dX4_digest_351 hl (by decide) rfl (fun ls hl => ?_)
    refine dg_R S (dgP α d0 k) hJ (fun ls hl => ?_) 9 0 (by omega) ls (lv_sub hl [5, 6, 7, 2, 1, 0] rfl)
    rw [dg_row] at hl
    refine lv_iinc (v := (nI (k + 1))) (lv' := [(4, .int (nI (k + 1))), (0, .ref (gB G 3)), (2, .long (dgP1 (gP α k) (dgP α d0 k)))]) S.1 S.2.1 dX4_digest_383 hl (k := 2) rfl (nI_1 k) (by decide) rfl (fun ls hl => ?_)
    refine lv_goto (tgt := 185) S.1 S.2.1 dX4_digest_386 (by decide) ?_
    refine W.widen (k := 1 + (k + 1)) (n := 8 + 9 * (k + 1)) (by omega) (by omega) ?_
    exact ih (k + 1) (by omega) _ _ hI ls (lv_sub hl [1, 2, 0] rfl)
set_option maxRecDepth 100000 in
set_option maxHeartbeats 4000000 in
theorem dg_S (S : CallFix p m c cX4_digest 11 s args AL RX4) (hr : meth.sig.returnType = some .long) (hlk : meth.locks = false) (hm : gM σ = (th, nI n, mk, lf, nw, kp)) (hpic : Pic α n mk lf nw) (d0 : Int64) (hp : post (dgM α (dgP α (dgS α d0 5) n) 6) σ) : ∀ (n9 k : Nat), k + n9 = 5 → ∀ (H : Heap) (locs : List Loc), Iv G σ s H locs → ∀ ls : Array Slot, lv_has ls 11 [(0, .ref (gB G 3)), (2, .long (dgS α d0 k)), (4, .int (nI k))] → W p l e (rm 7 21 188) s m args below meth c H locs (1 + 0) (8 + 9 * 0) (MQ below (Ql G post) args s 21 188 (gA G)) (F0 m 122 ls []) := by
  intro n9
  induction n9 with
  | zero =>
    intro k hk0 H locs hI ls hl
    obtain rfl : k = 5 := by omega
    refine lv_iload S.1 S.2.1 dX4_digest_122 (lv_at hl 2 rfl) ?_
    refine lv_iconst (v := 5) S.1 S.2.1 dX4_digest_124 (by decide) ?_
    refine lv_icmp_ge (tgt := 182) S.1 S.2.1 dX4_digest_125 (by decide) (fun cz_125 => ?_) (fun c9 => absurd (nI_le (a := 5) (b := 5) (Nat.le_refl 5) (by omega)) c9)
    refine lv_iconst (v := (nI 0)) S.1 S.2.1 dX4_digest_182 (by rfl) ?_
    refine lv_istore (lv' := [(4, .int (nI 0)), (0, .ref (gB G 3)), (2, .long (dgS α d0 5))]) S.1 S.2.1 dX4_digest_183 hl (by decide) rfl (fun ls hl => ?_)
    exact dg_P S hr hlk hm hpic (dgS α d0 5) hp n 0 (by omega) _ _ hI ls (lv_sub hl [1, 2, 0] rfl)
  | succ n9 ih =>
    intro k hk0 H locs hI ls hl
    have hk2 : k < 5 := by omega
    refine lv_iload S.1 S.2.1 dX4_digest_122 (lv_at hl 2 rfl) ?_
    refine lv_iconst (v := 5) S.1 S.2.1 dX4_digest_124 (by decide) ?_
    refine lv_icmp_ge (tgt := 182) S.1 S.2.1 dX4_digest_125 (by decide) (fun c9 => absurd c9 (nI_ge (b := 5) hk2 (by omega))) (fun cz_125 => ?_)
    refine lv_lload_n S.1 S.2.1 dX4_digest_128 rfl (lv_at hl 1 rfl) ?_
    refine ld_X4_31 S dX4_digest_129 ?_
    refine lv_lmul S.1 S.2.1 dX4_digest_132 ?_
    refine lv_aload_n S.1 S.2.1 dX4_digest_133 rfl (lv_at hl 0 rfl) ?_
    refine g_X4_M_now S hI dX4_digest_134 ?_
    refine lv_iload S.1 S.2.1 dX4_digest_137 (lv_at hl 2 rfl) ?_
    refine lv_iconst (v := (nI 0)) S.1 S.2.1 dX4_digest_139 (by rfl) ?_
    refine cl_i hI (rnS (As := [.int (nI k), .int (nI 0)]) (rest := [.ref (gB G 6), .long ((dgS α d0 k) * 31)]) S hI (c_shelf l G _ k 0) (cw_X4_X4_shelf S.2.2.2.2 ⟨Nat.le_of_ble_eq_true rfl, Nat.le_of_ble_eq_true rfl⟩) rfl hl.1 (Nat.le_of_ble_eq_true rfl) dX4_digest_140 ⟨(by show _ ≤ 21; omega), (by show _ ≤ 188; omega)⟩) (fun r1 σ1 H locs hq1 hI => ?_)
    obtain ⟨hr1, hs1⟩ := hq1
    rw [hs1] at hI
    rw [hr1]
    refine a_nw S hI hm (j := (3 + 2 * k + 0)) (by omega) dX4_digest_143 ?_
    rw [show (nw (3 + 2 * k + 0)) = ((gS α k).1) from (hpic.2.2.2.1 k hk2).1]
    refine lv_i2l (v := ((gS α k).1).toInt64) S.1 S.2.1 dX4_digest_144 rfl ?_
    refine lv_ladd S.1 S.2.1 dX4_digest_145 ?_
    refine ld_X4_31 S dX4_digest_146 ?_
    refine lv_lmul S.1 S.2.1 dX4_digest_149 ?_
    refine lv_aload_n S.1 S.2.1 dX4_digest_150 rfl (lv_at hl 0 rfl) ?_
    refine g_X4_M_now S hI dX4_digest_151 ?_
    refine lv_iload S.1 S.2.1 dX4_digest_154 (lv_at hl 2 rfl) ?_
    refine lv_iconst (v := (nI 1)) S.1 S.2.1 dX4_digest_156 (by rfl) ?_
    refine cl_i hI (rnS (As := [.int (nI k), .int (nI 1)]) (rest := [.ref (gB G 6), .long ((((dgS α d0 k) * 31) + ((gS α k).1).toInt64) * 31)]) S hI (c_shelf l G _ k 1) (cw_X4_X4_shelf S.2.2.2.2 ⟨Nat.le_of_ble_eq_true rfl, Nat.le_of_ble_eq_true rfl⟩) rfl hl.1 (Nat.le_of_ble_eq_true rfl) dX4_digest_157 ⟨(by show _ ≤ 21; omega), (by show _ ≤ 188; omega)⟩) (fun r2 σ2 H locs hq2 hI => ?_)
    obtain ⟨hr2, hs2⟩ := hq2
    rw [hs2] at hI
    rw [hr2]
    refine a_nw S hI hm (j := (3 + 2 * k + 1)) (by omega) dX4_digest_160 ?_
    rw [show (nw (3 + 2 * k + 1)) = ((gS α k).2) from (hpic.2.2.2.1 k hk2).2.1]
    refine lv_i2l (v := ((gS α k).2).toInt64) S.1 S.2.1 dX4_digest_161 rfl ?_
    refine lv_ladd S.1 S.2.1 dX4_digest_162 ?_
    refine ld_X4_31 S dX4_digest_163 ?_
    refine lv_lmul S.1 S.2.1 dX4_digest_166 ?_
    refine lv_aload_n S.1 S.2.1 dX4_digest_167 rfl (lv_at hl 0 rfl) ?_
    refine lv_iload S.1 S.2.1 dX4_digest_168 (lv_at hl 2 rfl) ?_
    refine cl_i hI (rnV (As := [.int (nI k)]) (rest := [.long ((((((dgS α d0 k) * 31) + ((gS α k).1).toInt64) * 31) + ((gS α k).2).toInt64) * 31)]) S hI (c_on l G _ hm hpic (k9 := k) hk2) (cw_X4_X4_on S.2.2.2.2 ⟨Nat.le_of_ble_eq_true rfl, Nat.le_of_ble_eq_true rfl⟩) (rcM hI) rfl hl.1 (Nat.le_of_ble_eq_true rfl) dX4_digest_170 ⟨(by show _ ≤ 21; omega), (by show _ ≤ 188; omega)⟩) (fun r3 σ3 H locs hq3 hI => ?_)
    obtain ⟨hr3, hs3⟩ := hq3
    rw [hs3] at hI
    rw [hr3]
    refine lv_i2l (v := (onF α k).toInt64) S.1 S.2.1 dX4_digest_173 rfl ?_
    refine lv_ladd S.1 S.2.1 dX4_digest_174 ?_
    refine lv_lstore_n (lv' := [(2, .long (((((((dgS α d0 k) * 31) + ((gS α k).1).toInt64) * 31) + ((gS α k).2).toInt64) * 31) + (onF α k).toInt64)), (0, .ref (gB G 3)), (4, .int (nI k))]) S.1 S.2.1 dX4_digest_175 rfl hl (by decide) rfl (fun ls hl => ?_)
    refine lv_iinc (v := (nI (k + 1))) (lv' := [(4, .int (nI (k + 1))), (2, .long (((((((dgS α d0 k) * 31) + ((gS α k).1).toInt64) * 31) + ((gS α k).2).toInt64) * 31) + (onF α k).toInt64)), (0, .ref (gB G 3))]) S.1 S.2.1 dX4_digest_176 hl (k := 2) rfl (nI_1 k) (by decide) rfl (fun ls hl => ?_)
    refine lv_goto (tgt := 122) S.1 S.2.1 dX4_digest_179 (by decide) ?_
    exact ih (k + 1) (by omega) _ _ hI ls (lv_sub hl [2, 1, 0] rfl)
set_option maxRecDepth 100000 in
set_option maxHeartbeats 4000000 in
theorem dg_Q (S : CallFix p m c cX4_digest 11 s args AL RX4) (d0 : Int64) {a : Nat} {cA : ClassId} {f : Nat → Int32} {H : Heap} {locs : List Loc} (hJ : Jv G σ a cA 8 f s H locs) (hK : ∀ ls : Array Slot, lv_has ls 11 [(0, .ref (gB G 3)), (2, .long (rowD f d0 8))] → W p l e (rm 7 21 188) s m args below meth c H locs cells slots (MQ below (Ql G post) args s 21 188 (gA G)) (F0 m 119 ls [])) : ∀ (n9 i : Nat), i + n9 = 8 → ∀ ls : Array Slot, lv_has ls 11 [(0, .ref (gB G 3)), (2, .long (rowD f d0 i)), (4, .ref a), (5, .int (nI 8)), (6, .int (nI i))] → W p l e (rm 7 21 188) s m args below meth c H locs cells slots (MQ below (Ql G post) args s 21 188 (gA G)) (F0 m 89 ls []) := by
  have hI := hJ.iv
  intro n9
  induction n9 with
  | zero =>
    intro i hk0 ls hl
    obtain rfl : i = 8 := by omega
    refine lv_iload S.1 S.2.1 dX4_digest_89 (lv_at hl 4 rfl) ?_
    refine lv_iload S.1 S.2.1 dX4_digest_91 (lv_at hl 3 rfl) ?_
    refine lv_icmp_ge (tgt := 119) S.1 S.2.1 dX4_digest_93 (by decide) (fun cz_93 => ?_) (fun c9 => absurd (nI_le (a := 8) (b := 8) (Nat.le_refl 8) (by omega)) c9)
    exact hK ls (lv_sub hl [0, 1] rfl)
  | succ n9 ih =>
    intro i hk0 ls hl
    have hk2 : i < 8 := by omega
    refine lv_iload S.1 S.2.1 dX4_digest_89 (lv_at hl 4 rfl) ?_
    refine lv_iload S.1 S.2.1 dX4_digest_91 (lv_at hl 3 rfl) ?_
    refine lv_icmp_ge (tgt := 119) S.1 S.2.1 dX4_digest_93 (by decide) (fun c9 => absurd c9 (nI_ge (b := 8) hk2 (by omega))) (fun cz_93 => ?_)
    refine lv_aload S.1 S.2.1 dX4_digest_96 (lv_at hl 2 rfl) ?_
    refine lv_iload S.1 S.2.1 dX4_digest_98 (lv_at hl 4 rfl) ?_
    refine j_ld S hJ (j := i) (by omega) (by omega) dX4_digest_100 ?_
    refine lv_istore (lv' := [(7, .int (f i)), (0, .ref (gB G 3)), (2, .long (rowD f d0 i)), (4, .ref a), (5, .int (nI 8)), (6, .int (nI i))]) S.1 S.2.1 dX4_digest_101 hl (by decide) rfl (fun ls hl => ?_)
    refine lv_lload_n S.1 S.2.1 dX4_digest_103 rfl (lv_at hl 2 rfl) ?_
    refine ld_X4_31 S dX4_digest_104 ?_
    refine lv_lmul S.1 S.2.1 dX4_digest_107 ?_
    refine lv_iload S.1 S.2.1 dX4_digest_108 (lv_at hl 0 rfl) ?_
    refine lv_i2l (v := (f i).toInt64) S.1 S.2.1 dX4_digest_110 rfl ?_
    refine lv_ladd S.1 S.2.1 dX4_digest_111 ?_
    refine lv_lstore_n (lv' := [(2, .long (((rowD f d0 i) * 31) + (f i).toInt64)), (7, .int (f i)), (0, .ref (gB G 3)), (4, .ref a), (5, .int (nI 8)), (6, .int (nI i))]) S.1 S.2.1 dX4_digest_112 rfl hl (by decide) rfl (fun ls hl => ?_)
    refine lv_iinc (v := (nI (i + 1))) (lv' := [(6, .int (nI (i + 1))), (2, .long (((rowD f d0 i) * 31) + (f i).toInt64)), (7, .int (f i)), (0, .ref (gB G 3)), (4, .ref a), (5, .int (nI 8))]) S.1 S.2.1 dX4_digest_113 hl (k := 5) rfl (nI_1 i) (by decide) rfl (fun ls hl => ?_)
    refine lv_goto (tgt := 89) S.1 S.2.1 dX4_digest_116 (by decide) ?_
    exact ih (i + 1) (by omega) ls (lv_sub hl [3, 1, 4, 5, 0] rfl)
theorem dg_row8 (α : St) (n : Nat) : dgM α (dgP α (dgS α (rowD (va_up (va_up (va_up (va_up (va_up (va_up (va_up (va_up (fun _ => 0) 0 ((gX α).2.2.1)) 1 ((gX α).2.2.2)) 2 ((gX α).2.1)) 3 (nI n)) 4 (nI (coldF α 4))) 5 (nI (mostF α 5))) 6 (if n < 20 then (bestF α 5).1 else -1)) 7 (ocF α 20)) 2017 8) 5) n) 6 = digF α n := rfl
end MDIG
set_option maxRecDepth 100000 in
set_option maxHeartbeats 4000000 in
theorem m_digest (l : Launch) (G : Gt) (σ : St) {α : St} {n : Nat} {th : Int32} {mk lf nw kp : Nat → Int32} (hm : gM σ = (th, nI n, mk, lf, nw, kp)) (hpic : Pic α n mk lf nw) : Ct l G yX4_digest cX4_digest 11 (some .long) 7 21 188 [.ref (gB G 3)] σ (Ql G (fun r σ' => r = digF α n ∧ Mq σ α 0 n σ')) := by
  refine mt_intro (by decide +kernel) (Nat.le_of_ble_eq_true rfl) ?_
  intro p e s m below meth c S hr hlk hnm hI ls hl
  have hl : lv_has ls 11 [(0, .ref (gB G 3))] := hl
  refine lv_aload_n S.1 S.2.1 dX4_digest_0 rfl (lv_at hl 0 rfl) ?_
  refine lv_iconst (v := 0) S.1 S.2.1 dX4_digest_1 (by decide) ?_
  refine p_X4_M_thrown S hI hm dX4_digest_2 (fun σ1 H locs ey1 hz1 hI => ?_)
  refine lv_bipush (v := 8) S.1 S.2.1 dX4_digest_5 (by decide) ?_
  refine j_new S hI al_ints (N := 8) (by decide) (by decide +kernel) (by decide) (Nat.le_of_ble_eq_true rfl) (Nat.le_of_ble_eq_true rfl) dX4_digest_7 (fun ja2 jc2 H hJ => ?_)
  have hI := hJ.iv
  refine lv_dup S.1 S.2.1 dX4_digest_9 rfl ?_
  refine lv_iconst (v := (nI 0)) S.1 S.2.1 dX4_digest_10 (by rfl) ?_
  refine lv_aload_n S.1 S.2.1 dX4_digest_11 rfl (lv_at hl 0 rfl) ?_
  refine g_X4_M_now S hI dX4_digest_12 ?_
  refine lv_iconst (v := (nI 0)) S.1 S.2.1 dX4_digest_15 (by rfl) ?_
  refine a_nw S hI hz1 (j := 0) (by omega) dX4_digest_16 ?_
  rw [show (nw 0) = ((gX α).2.2.1) from hpic.2.1.1]
  refine j_st S hJ (j := 0) (by omega) (by omega) dX4_digest_17 (fun H locs hJ => ?_)
  have hI := hJ.iv
  refine lv_dup S.1 S.2.1 dX4_digest_18 rfl ?_
  refine lv_iconst (v := (nI 1)) S.1 S.2.1 dX4_digest_19 (by rfl) ?_
  refine lv_aload_n S.1 S.2.1 dX4_digest_20 rfl (lv_at hl 0 rfl) ?_
  refine g_X4_M_now S hI dX4_digest_21 ?_
  refine lv_iconst (v := (nI 1)) S.1 S.2.1 dX4_digest_24 (by rfl) ?_
  refine a_nw S hI hz1 (j := 1) (by omega) dX4_digest_25 ?_
  rw [show (nw 1) = ((gX α).2.2.2) from hpic.2.1.2.1]
  refine j_st S hJ (j := 1) (by omega) (by omega) dX4_digest_26 (fun H locs hJ => ?_)
  have hI := hJ.iv
  refine lv_dup S.1 S.2.1 dX4_digest_27 rfl ?_
  refine lv_iconst (v := (nI 2)) S.1 S.2.1 dX4_digest_28 (by rfl) ?_
  refine lv_aload_n S.1 S.2.1 dX4_digest_29 rfl (lv_at hl 0 rfl) ?_
  refine g_X4_M_now S hI dX4_digest_30 ?_
  refine lv_iconst (v := (nI 2)) S.1 S.2.1 dX4_digest_33 (by rfl) ?_
  refine a_nw S hI hz1 (j := 2) (by omega) dX4_digest_34 ?_
  rw [show (nw 2) = ((gX α).2.1) from hpic.2.1.2.2]
  refine j_st S hJ (j := 2) (by omega) (by omega) dX4_digest_35 (fun H locs hJ => ?_)
  have hI := hJ.iv
  refine lv_dup S.1 S.2.1 dX4_digest_36 rfl ?_
  refine lv_iconst (v := (nI 3)) S.1 S.2.1 dX4_digest_37 (by rfl) ?_
  refine lv_aload_n S.1 S.2.1 dX4_digest_38 rfl (lv_at hl 0 rfl) ?_
  refine g_X4_M_promises S hI hz1 dX4_digest_39 ?_
  refine j_st S hJ (j := 3) (by omega) (by omega) dX4_digest_42 (fun H locs hJ => ?_)
  have hI := hJ.iv
  refine lv_dup S.1 S.2.1 dX4_digest_43 rfl ?_
  refine lv_iconst (v := (nI 4)) S.1 S.2.1 dX4_digest_44 (by rfl) ?_
  refine lv_aload_n S.1 S.2.1 dX4_digest_45 rfl (lv_at hl 0 rfl) ?_
  refine clj_i hJ (rnVj (As := []) (rest := [.int (nI 4), .ref ja2, .ref ja2]) S hJ (c_coldestOf l (cut G ja2) _ hz1 hpic) (cw_X4_X4_coldestOf S.2.2.2.2 ⟨Nat.le_of_ble_eq_true rfl, Nat.le_of_ble_eq_true rfl⟩) (rcM hI) rfl hl.1 (Nat.le_of_ble_eq_true rfl) dX4_digest_46 ⟨(Nat.le_of_ble_eq_true rfl), (Nat.le_of_ble_eq_true rfl)⟩) (fun r3 σ3 H locs hq3 hJ => ?_)
  have hI := hJ.iv
  obtain ⟨hr3, hs3⟩ := hq3
  rw [hs3] at hJ
  have hI := hJ.iv
  rw [hr3]
  refine j_st S hJ (j := 4) (by omega) (by omega) dX4_digest_49 (fun H locs hJ => ?_)
  have hI := hJ.iv
  refine lv_dup S.1 S.2.1 dX4_digest_50 rfl ?_
  refine lv_iconst (v := (nI 5)) S.1 S.2.1 dX4_digest_51 (by rfl) ?_
  refine lv_aload_n S.1 S.2.1 dX4_digest_52 rfl (lv_at hl 0 rfl) ?_
  refine clj_i hJ (rnVj (As := []) (rest := [.int (nI 5), .ref ja2, .ref ja2]) S hJ (c_most l (cut G ja2) _ hz1 hpic) (cw_X4_X4_most S.2.2.2.2 ⟨Nat.le_of_ble_eq_true rfl, Nat.le_of_ble_eq_true rfl⟩) (rcM hI) rfl hl.1 (Nat.le_of_ble_eq_true rfl) dX4_digest_53 ⟨(Nat.le_of_ble_eq_true rfl), (Nat.le_of_ble_eq_true rfl)⟩) (fun r4 σ4 H locs hq4 hJ => ?_)
  have hI := hJ.iv
  obtain ⟨hr4, hs4⟩ := hq4
  rw [hs4] at hJ
  have hI := hJ.iv
  rw [hr4]
  refine j_st S hJ (j := 5) (by omega) (by omega) dX4_digest_56 (fun H locs hJ => ?_)
  have hI := hJ.iv
  refine lv_dup S.1 S.2.1 dX4_digest_57 rfl ?_
  refine lv_bipush (v := (nI 6)) S.1 S.2.1 dX4_digest_58 (by rfl) ?_
  refine lv_aload_n S.1 S.2.1 dX4_digest_60 rfl (lv_at hl 0 rfl) ?_
  refine clj_i hJ (rnVj (As := []) (rest := [.int (nI 6), .ref ja2, .ref ja2]) S hJ (c_best l (cut G ja2) _ hz1 hpic) (cw_X4_X4_best S.2.2.2.2 ⟨Nat.le_of_ble_eq_true rfl, Nat.le_of_ble_eq_true rfl⟩) (rcM hI) rfl hl.1 (Nat.le_of_ble_eq_true rfl) dX4_digest_61 ⟨(Nat.le_of_ble_eq_true rfl), (Nat.le_of_ble_eq_true rfl)⟩) (fun r5 σ5 H locs hq5 hJ => ?_)
  have hI := hJ.iv
  obtain ⟨hr5, mkb, lfb, nwb, kpb, ez5, hpb⟩ := hq5
  rw [hr5]
  have hmb : gM σ5 = (0, nI n, mkb, lfb, nwb, kpb) := by rw [ez5]; rfl
  refine j_st S hJ (j := 6) (by omega) (by omega) dX4_digest_64 (fun H locs hJ => ?_)
  have hI := hJ.iv
  refine lv_dup S.1 S.2.1 dX4_digest_65 rfl ?_
  refine lv_bipush (v := (nI 7)) S.1 S.2.1 dX4_digest_66 (by rfl) ?_
  refine lv_aload_n S.1 S.2.1 dX4_digest_68 rfl (lv_at hl 0 rfl) ?_
  refine clj_i hJ (rnVj (As := []) (rest := [.int (nI 7), .ref ja2, .ref ja2]) S hJ (c_cold l (cut G ja2) _ hmb hpb) (cw_X4_X4_cold S.2.2.2.2 ⟨Nat.le_of_ble_eq_true rfl, Nat.le_of_ble_eq_true rfl⟩) (rcM hI) rfl hl.1 (Nat.le_of_ble_eq_true rfl) dX4_digest_69 ⟨(Nat.le_of_ble_eq_true rfl), (Nat.le_of_ble_eq_true rfl)⟩) (fun r6 σ6 H locs hq6 hJ => ?_)
  have hI := hJ.iv
  obtain ⟨hr6, mkc, lfc, nwc, kpc, ez6, hpc⟩ := hq6
  rw [hr6]
  have hmc : gM σ6 = (0, nI n, mkc, lfc, nwc, kpc) := by rw [ez6]; rfl
  refine j_st S hJ (j := 7) (by omega) (by omega) dX4_digest_72 (fun H locs hJ => ?_)
  have hI := hJ.iv
  refine lv_astore_n (lv' := [(1, .ref ja2), (0, .ref (gB G 3))]) S.1 S.2.1 dX4_digest_73 rfl hl (by decide) rfl (fun ls hl => ?_)
  refine ld_X4_2017 S dX4_digest_74 ?_
  refine lv_lstore_n (lv' := [(2, .long 2017), (1, .ref ja2), (0, .ref (gB G 3))]) S.1 S.2.1 dX4_digest_77 rfl hl (by decide) rfl (fun ls hl => ?_)
  refine lv_aload_n S.1 S.2.1 dX4_digest_78 rfl (lv_at hl 1 rfl) ?_
  refine lv_astore (lv' := [(4, .ref ja2), (2, .long 2017), (1, .ref ja2), (0, .ref (gB G 3))]) S.1 S.2.1 dX4_digest_79 hl (by decide) rfl (fun ls hl => ?_)
  refine lv_aload S.1 S.2.1 dX4_digest_81 (lv_at hl 0 rfl) ?_
  refine j_len S hJ dX4_digest_83 ?_
  refine lv_istore (lv' := [(5, .int (nI 8)), (4, .ref ja2), (2, .long 2017), (1, .ref ja2), (0, .ref (gB G 3))]) S.1 S.2.1 dX4_digest_84 hl (by decide) rfl (fun ls hl => ?_)
  refine lv_iconst (v := (nI 0)) S.1 S.2.1 dX4_digest_86 (by rfl) ?_
  refine lv_istore (lv' := [(6, .int (nI 0)), (5, .int (nI 8)), (4, .ref ja2), (2, .long 2017), (1, .ref ja2), (0, .ref (gB G 3))]) S.1 S.2.1 dX4_digest_87 hl (by decide) rfl (fun ls hl => ?_)
  refine dg_Q S 2017 hJ (fun ls hl => ?_) 8 0 (by omega) ls (lv_sub hl [5, 3, 2, 1, 0] rfl)
  refine lv_iconst (v := (nI 0)) S.1 S.2.1 dX4_digest_119 (by rfl) ?_
  refine lv_istore (lv' := [(4, .int (nI 0)), (0, .ref (gB G 3)), (2, .long (rowD _ 2017 8))]) S.1 S.2.1 dX4_digest_120 hl (by decide) rfl (fun ls hl => ?_)
  exact dg_S S hr hlk hmc hpc _ ⟨dg_row8 α n, _, _, _, _, (by rw [ez6, ez5, ey1]; rfl), hpc⟩ 5 0 (by omega) _ _ hI ls (lv_sub hl [1, 2, 0] rfl)
