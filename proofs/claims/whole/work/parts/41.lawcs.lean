section LCB
variable {p : Program} {l : Launch} {e : Env} {R : Room} {s : State} {m : MethodId} {args : Array Value} {below : List Frame} {meth : Method} {c : Code} {H : Heap} {locs : List Loc} {cells slots : Nat} {Q : State → Prop}
variable {ls : Array Slot} {G : Gt} {σ : St} {b L j : Nat} {xs : Nat → Int32}
def Kont (p : Program) (l : Launch) (e : Env) (R : Room) (s : State) (m : MethodId) (args : Array Value) (below : List Frame) (meth : Method) (c : Code) (cells slots : Nat) (Q : State → Prop) (G : Gt) (b j : Nat) : Prop :=
  ∀ (σ' : St) (H1 : Heap) (locs1 : List Loc) (ls1 : Array Slot), Rel σ' → Iv G σ' s H1 locs1 → lv_has ls1 9 [(0, .ref b), (1, .ref (gB G 0)), (2, .ref (gB G 3)), (3, .ref (gB G 8)), (4, .int (nI j))] → W p l e R s m args below meth c H1 locs1 cells slots Q (F0 m 1724 ls1 [])
set_option maxRecDepth 100000 in
set_option maxHeartbeats 4000000 in
theorem lc_make (hst9 : l.stackTraces = false) (S : CallFix p m c cL_law 9 s args AL RL) (hI : Iv G σ s H locs) (hl : lv_has ls 9 [(0, .ref b), (1, .ref (gB G 0)), (2, .ref (gB G 3)), (3, .ref (gB G 8)), (4, .int (nI j))]) (hXs : va_X b L xs s s.heap) (hbl : b < s.heap.size) (hbA : ¬ gA G b) (hj9 : j + 3 < L) (hL9 : L ≤ 2048) (hR9 : Rel σ) (hF9 : 12 ≤ R.frames ∧ 440 ≤ R.locals) (hC9 : cells + 1 ≤ R.cells) (hS9 : slots + 6 ≤ R.slots) (kont : Kont p l e R s m args below meth c (cells + 1) (slots + 6) Q G b j) : W p l e R s m args below meth c H locs cells slots Q (F0 m 188 ls []) := by
  obtain ⟨k9, P9, hL1, hM1⟩ := pr_make l hst9 G σ hR9 (xs (j + 1)) (xs (j + 2)) (xs (j + 3))
  refine lv_aload_n S.1 S.2.1 dL_law_188 rfl (lv_at hl 1 rfl) ?_
  refine lv_aload_n S.1 S.2.1 dL_law_189 rfl (lv_at hl 0 rfl) ?_
  refine lv_iload S.1 S.2.1 dL_law_190 (lv_at hl 4 rfl) ?_
  refine lv_iconst (v := 1) S.1 S.2.1 dL_law_192 (by decide) ?_
  refine lv_iadd S.1 S.2.1 dL_law_193 ?_
  rw [show ((nI j) + 1) = (nI (j + 1)) from nI_1 j]
  refine sc_at S hI hXs hbl hbA (j := (j + 1)) (by omega) hL9 dL_law_194 ?_
  refine lv_aload_n S.1 S.2.1 dL_law_195 rfl (lv_at hl 0 rfl) ?_
  refine lv_iload S.1 S.2.1 dL_law_196 (lv_at hl 4 rfl) ?_
  refine lv_iconst (v := 2) S.1 S.2.1 dL_law_198 (by decide) ?_
  refine lv_iadd S.1 S.2.1 dL_law_199 ?_
  rw [show ((nI j) + 2) = (nI (j + 2)) from nI_2 j]
  refine sc_at S hI hXs hbl hbA (j := (j + 2)) (by omega) hL9 dL_law_200 ?_
  refine lv_aload_n S.1 S.2.1 dL_law_201 rfl (lv_at hl 0 rfl) ?_
  refine lv_iload S.1 S.2.1 dL_law_202 (lv_at hl 4 rfl) ?_
  refine lv_iconst (v := 3) S.1 S.2.1 dL_law_204 (by decide) ?_
  refine lv_iadd S.1 S.2.1 dL_law_205 ?_
  rw [show ((nI j) + 3) = (nI (j + 3)) from nI_3 j]
  refine sc_at S hI hXs hbl hbA (j := (j + 3)) (by omega) hL9 dL_law_206 ?_
  refine lv_aload_n S.1 S.2.1 dL_law_207 rfl (lv_at hl 3 rfl) ?_
  refine cl_i hI (rnL (As := [.ref (gB G 0), .int (xs (j + 1)), .int (xs (j + 2)), .int (xs (j + 3)), .ref (gB G 8)]) (rest := []) S hI hL1 (cwl_make S.2.2.2.2 ⟨by omega, by omega⟩) rfl hl.1 (Nat.le_of_ble_eq_true rfl) dL_law_208 ⟨by omega, by omega⟩) (fun r1 σ1 H locs hq1 hI => ?_)
  obtain ⟨hk1, hp1⟩ := hq1
  rw [hk1]
  obtain ⟨d9, hd9, hC4⟩ := hM1 σ1 hp1
  refine lv_istore (lv' := [(5, .int k9), (0, .ref b), (1, .ref (gB G 0)), (2, .ref (gB G 3)), (3, .ref (gB G 8)), (4, .int (nI j))]) S.1 S.2.1 dL_law_211 hl (by decide) rfl (fun ls hl => ?_)
  refine lv_aload_n S.1 S.2.1 dL_law_213 rfl (lv_at hl 3 rfl) ?_
  refine lv_aload_n S.1 S.2.1 dL_law_214 rfl (lv_at hl 1 rfl) ?_
  refine lv_iload S.1 S.2.1 dL_law_215 (lv_at hl 5 rfl) ?_
  refine lv_iconst (v := 1) S.1 S.2.1 dL_law_217 (by decide) ?_
  refine lv_iadd S.1 S.2.1 dL_law_218 ?_
  rw [show ((nI j) + 1) = (nI (j + 1)) from nI_1 j]
  refine sc_at S hI hXs hbl hbA (j := (j + 1)) (by omega) hL9 dL_law_219 ?_
  refine lv_aload_n S.1 S.2.1 dL_law_220 rfl (lv_at hl 1 rfl) ?_
  refine lv_iload S.1 S.2.1 dL_law_221 (lv_at hl 5 rfl) ?_
  refine lv_iconst (v := 2) S.1 S.2.1 dL_law_223 (by decide) ?_
  refine lv_iadd S.1 S.2.1 dL_law_224 ?_
  rw [show ((nI j) + 2) = (nI (j + 2)) from nI_2 j]
  refine sc_at S hI hXs hbl hbA (j := (j + 2)) (by omega) hL9 dL_law_225 ?_
  refine lv_aload_n S.1 S.2.1 dL_law_226 rfl (lv_at hl 1 rfl) ?_
  refine lv_iload S.1 S.2.1 dL_law_227 (lv_at hl 5 rfl) ?_
  refine lv_iconst (v := 3) S.1 S.2.1 dL_law_229 (by decide) ?_
  refine lv_iadd S.1 S.2.1 dL_law_230 ?_
  rw [show ((nI j) + 3) = (nI (j + 3)) from nI_3 j]
  refine sc_at S hI hXs hbl hbA (j := (j + 3)) (by omega) hL9 dL_law_231 ?_
  refine cl_i hI (rnV (As := [.int (xs (j + 1)), .int (xs (j + 2)), .int (xs (j + 3))]) (rest := []) S hI hC4 (cw_L_X4_make S.2.2.2.2 ⟨by omega, by omega⟩) (rcM hI) rfl hl.1 (Nat.le_of_ble_eq_true rfl) dL_law_232 ⟨by omega, by omega⟩) (fun r2 σ2 H locs hq2 hI => ?_)
  obtain ⟨ht2, ho2, hR2⟩ := hq2
  refine lv_istore (lv' := [(6, .int r2), (5, .int k9), (0, .ref b), (1, .ref (gB G 0)), (2, .ref (gB G 3)), (3, .ref (gB G 8)), (4, .int (nI j))]) S.1 S.2.1 dL_law_235 hl (by decide) rfl (fun ls hl => ?_)
  refine lv_aload_n S.1 S.2.1 dL_law_237 rfl (lv_at hl 4 rfl) ?_
  refine cl_i hI (rnV (As := []) (rest := []) S hI (c_thrown l G σ2 (th := (gM σ2).1) (np := (gM σ2).2.1) (mk := (gM σ2).2.2.1) (lf := (gM σ2).2.2.2.1) (nw := (gM σ2).2.2.2.2.1) (kp := (gM σ2).2.2.2.2.2) rfl) (cw_L_X4_thrown S.2.2.2.2 ⟨by omega, by omega⟩) (rcM hI) rfl hl.1 (Nat.le_of_ble_eq_true rfl) dL_law_238 ⟨by omega, by omega⟩) (fun r3 σ3 H locs hq3 hI => ?_)
  obtain ⟨hr3, hs3⟩ := hq3
  rw [hs3] at hI
  rw [hr3, ht2]
  refine lv_iload S.1 S.2.1 dL_law_241 (lv_at hl 1 rfl) ?_
  refine lv_icmp_eq (tgt := 248) S.1 S.2.1 dL_law_243 (by decide) (fun cz_243 => ?_) (fun c9 => absurd rfl c9)
  refine lv_iload S.1 S.2.1 dL_law_248 (lv_at hl 1 rfl) ?_
  refine lv_if_ne (tgt := 265) S.1 S.2.1 dL_law_250 (by decide) (fun cz_250 => ?_) (fun cz_250 => ?_)
  · refine lv_goto (tgt := 1724) S.1 S.2.1 dL_law_265 (by decide) ?_
    exact kont _ _ _ _ hR2 hI (lv_sub hl [2, 3, 4, 5, 6] rfl)
  · refine lv_aload_n S.1 S.2.1 dL_law_253 rfl (lv_at hl 5 rfl) ?_
    refine lv_iconst (v := 0) S.1 S.2.1 dL_law_254 (by decide) ?_
    refine a_out S hI dL_law_255 ?_
    refine lv_iload S.1 S.2.1 dL_law_256 (lv_at hl 0 rfl) ?_
    refine lv_i2l (v := r2.toInt64) S.1 S.2.1 dL_law_258 rfl ?_
    rw [ho2 cz_250]
    refine lw_lcmp S.1 S.2.1 dL_law_259 ?_
    refine lv_if_eq (tgt := 265) S.1 S.2.1 dL_law_260 (by decide) (fun _ => ?_) (fun c9 => absurd c9 (by decide))
    refine lv_goto (tgt := 1724) S.1 S.2.1 dL_law_265 (by decide) ?_
    exact kont _ _ _ _ hR2 hI (lv_sub hl [2, 3, 4, 5, 6] rfl)
set_option maxRecDepth 100000 in
set_option maxHeartbeats 4000000 in
theorem lc_move (hst9 : l.stackTraces = false) (S : CallFix p m c cL_law 9 s args AL RL) (hI : Iv G σ s H locs) (hl : lv_has ls 9 [(0, .ref b), (1, .ref (gB G 0)), (2, .ref (gB G 3)), (3, .ref (gB G 8)), (4, .int (nI j))]) (hXs : va_X b L xs s s.heap) (hbl : b < s.heap.size) (hbA : ¬ gA G b) (hj9 : j + 3 < L) (hL9 : L ≤ 2048) (hR9 : Rel σ) (hF9 : 12 ≤ R.frames ∧ 440 ≤ R.locals) (hC9 : cells + 1 ≤ R.cells) (hS9 : slots + 6 ≤ R.slots) (kont : Kont p l e R s m args below meth c (cells + 1) (slots + 6) Q G b j) : W p l e R s m args below meth c H locs cells slots Q (F0 m 268 ls []) := by
  obtain ⟨k9, P9, hL1, hM1⟩ := pr_move l hst9 G σ hR9 (xs (j + 1)) (xs (j + 2))
  refine lv_aload_n S.1 S.2.1 dL_law_268 rfl (lv_at hl 1 rfl) ?_
  refine lv_aload_n S.1 S.2.1 dL_law_269 rfl (lv_at hl 0 rfl) ?_
  refine lv_iload S.1 S.2.1 dL_law_270 (lv_at hl 4 rfl) ?_
  refine lv_iconst (v := 1) S.1 S.2.1 dL_law_272 (by decide) ?_
  refine lv_iadd S.1 S.2.1 dL_law_273 ?_
  rw [show ((nI j) + 1) = (nI (j + 1)) from nI_1 j]
  refine sc_at S hI hXs hbl hbA (j := (j + 1)) (by omega) hL9 dL_law_274 ?_
  refine lv_aload_n S.1 S.2.1 dL_law_275 rfl (lv_at hl 0 rfl) ?_
  refine lv_iload S.1 S.2.1 dL_law_276 (lv_at hl 4 rfl) ?_
  refine lv_iconst (v := 2) S.1 S.2.1 dL_law_278 (by decide) ?_
  refine lv_iadd S.1 S.2.1 dL_law_279 ?_
  rw [show ((nI j) + 2) = (nI (j + 2)) from nI_2 j]
  refine sc_at S hI hXs hbl hbA (j := (j + 2)) (by omega) hL9 dL_law_280 ?_
  refine lv_aload_n S.1 S.2.1 dL_law_281 rfl (lv_at hl 3 rfl) ?_
  refine cl_i hI (rnL (As := [.ref (gB G 0), .int (xs (j + 1)), .int (xs (j + 2)), .ref (gB G 8)]) (rest := []) S hI hL1 (cwl_move S.2.2.2.2 ⟨by omega, by omega⟩) rfl hl.1 (Nat.le_of_ble_eq_true rfl) dL_law_282 ⟨by omega, by omega⟩) (fun r1 σ1 H locs hq1 hI => ?_)
  obtain ⟨hk1, hp1⟩ := hq1
  rw [hk1]
  obtain ⟨d9, hd9, hC4⟩ := hM1 σ1 hp1
  refine lv_istore (lv' := [(5, .int k9), (0, .ref b), (1, .ref (gB G 0)), (2, .ref (gB G 3)), (3, .ref (gB G 8)), (4, .int (nI j))]) S.1 S.2.1 dL_law_285 hl (by decide) rfl (fun ls hl => ?_)
  refine lv_aload_n S.1 S.2.1 dL_law_287 rfl (lv_at hl 3 rfl) ?_
  refine lv_aload_n S.1 S.2.1 dL_law_288 rfl (lv_at hl 1 rfl) ?_
  refine lv_iload S.1 S.2.1 dL_law_289 (lv_at hl 5 rfl) ?_
  refine lv_iconst (v := 1) S.1 S.2.1 dL_law_291 (by decide) ?_
  refine lv_iadd S.1 S.2.1 dL_law_292 ?_
  rw [show ((nI j) + 1) = (nI (j + 1)) from nI_1 j]
  refine sc_at S hI hXs hbl hbA (j := (j + 1)) (by omega) hL9 dL_law_293 ?_
  refine lv_aload_n S.1 S.2.1 dL_law_294 rfl (lv_at hl 1 rfl) ?_
  refine lv_iload S.1 S.2.1 dL_law_295 (lv_at hl 5 rfl) ?_
  refine lv_iconst (v := 2) S.1 S.2.1 dL_law_297 (by decide) ?_
  refine lv_iadd S.1 S.2.1 dL_law_298 ?_
  rw [show ((nI j) + 2) = (nI (j + 2)) from nI_2 j]
  refine sc_at S hI hXs hbl hbA (j := (j + 2)) (by omega) hL9 dL_law_299 ?_
  refine cl_i hI (rnV (As := [.int (xs (j + 1)), .int (xs (j + 2))]) (rest := []) S hI hC4 (cw_L_X4_move S.2.2.2.2 ⟨by omega, by omega⟩) (rcM hI) rfl hl.1 (Nat.le_of_ble_eq_true rfl) dL_law_300 ⟨by omega, by omega⟩) (fun r2 σ2 H locs hq2 hI => ?_)
  obtain ⟨ht2, ho2, hR2⟩ := hq2
  refine lv_istore (lv' := [(6, .int r2), (5, .int k9), (0, .ref b), (1, .ref (gB G 0)), (2, .ref (gB G 3)), (3, .ref (gB G 8)), (4, .int (nI j))]) S.1 S.2.1 dL_law_303 hl (by decide) rfl (fun ls hl => ?_)
  refine lv_aload_n S.1 S.2.1 dL_law_305 rfl (lv_at hl 4 rfl) ?_
  refine cl_i hI (rnV (As := []) (rest := []) S hI (c_thrown l G σ2 (th := (gM σ2).1) (np := (gM σ2).2.1) (mk := (gM σ2).2.2.1) (lf := (gM σ2).2.2.2.1) (nw := (gM σ2).2.2.2.2.1) (kp := (gM σ2).2.2.2.2.2) rfl) (cw_L_X4_thrown S.2.2.2.2 ⟨by omega, by omega⟩) (rcM hI) rfl hl.1 (Nat.le_of_ble_eq_true rfl) dL_law_306 ⟨by omega, by omega⟩) (fun r3 σ3 H locs hq3 hI => ?_)
  obtain ⟨hr3, hs3⟩ := hq3
  rw [hs3] at hI
  rw [hr3, ht2]
  refine lv_iload S.1 S.2.1 dL_law_309 (lv_at hl 1 rfl) ?_
  refine lv_icmp_eq (tgt := 316) S.1 S.2.1 dL_law_311 (by decide) (fun cz_311 => ?_) (fun c9 => absurd rfl c9)
  refine lv_iload S.1 S.2.1 dL_law_316 (lv_at hl 1 rfl) ?_
  refine lv_if_ne (tgt := 333) S.1 S.2.1 dL_law_318 (by decide) (fun cz_318 => ?_) (fun cz_318 => ?_)
  · refine lv_goto (tgt := 1724) S.1 S.2.1 dL_law_333 (by decide) ?_
    exact kont _ _ _ _ hR2 hI (lv_sub hl [2, 3, 4, 5, 6] rfl)
  · refine lv_aload_n S.1 S.2.1 dL_law_321 rfl (lv_at hl 5 rfl) ?_
    refine lv_iconst (v := 0) S.1 S.2.1 dL_law_322 (by decide) ?_
    refine a_out S hI dL_law_323 ?_
    refine lv_iload S.1 S.2.1 dL_law_324 (lv_at hl 0 rfl) ?_
    refine lv_i2l (v := r2.toInt64) S.1 S.2.1 dL_law_326 rfl ?_
    rw [ho2 cz_318]
    refine lw_lcmp S.1 S.2.1 dL_law_327 ?_
    refine lv_if_eq (tgt := 333) S.1 S.2.1 dL_law_328 (by decide) (fun _ => ?_) (fun c9 => absurd c9 (by decide))
    refine lv_goto (tgt := 1724) S.1 S.2.1 dL_law_333 (by decide) ?_
    exact kont _ _ _ _ hR2 hI (lv_sub hl [2, 3, 4, 5, 6] rfl)
set_option maxRecDepth 100000 in
set_option maxHeartbeats 4000000 in
theorem lc_keep (hst9 : l.stackTraces = false) (S : CallFix p m c cL_law 9 s args AL RL) (hI : Iv G σ s H locs) (hl : lv_has ls 9 [(0, .ref b), (1, .ref (gB G 0)), (2, .ref (gB G 3)), (3, .ref (gB G 8)), (4, .int (nI j))]) (hXs : va_X b L xs s s.heap) (hbl : b < s.heap.size) (hbA : ¬ gA G b) (hj9 : j + 3 < L) (hL9 : L ≤ 2048) (hR9 : Rel σ) (hF9 : 12 ≤ R.frames ∧ 440 ≤ R.locals) (hC9 : cells + 1 ≤ R.cells) (hS9 : slots + 6 ≤ R.slots) (kont : Kont p l e R s m args below meth c (cells + 1) (slots + 6) Q G b j) : W p l e R s m args below meth c H locs cells slots Q (F0 m 336 ls []) := by
  obtain ⟨k9, P9, hL1, hM1⟩ := pr_keep l hst9 G σ hR9 (xs (j + 1))
  refine lv_aload_n S.1 S.2.1 dL_law_336 rfl (lv_at hl 1 rfl) ?_
  refine lv_aload_n S.1 S.2.1 dL_law_337 rfl (lv_at hl 0 rfl) ?_
  refine lv_iload S.1 S.2.1 dL_law_338 (lv_at hl 4 rfl) ?_
  refine lv_iconst (v := 1) S.1 S.2.1 dL_law_340 (by decide) ?_
  refine lv_iadd S.1 S.2.1 dL_law_341 ?_
  rw [show ((nI j) + 1) = (nI (j + 1)) from nI_1 j]
  refine sc_at S hI hXs hbl hbA (j := (j + 1)) (by omega) hL9 dL_law_342 ?_
  refine lv_aload_n S.1 S.2.1 dL_law_343 rfl (lv_at hl 3 rfl) ?_
  refine cl_i hI (rnL (As := [.ref (gB G 0), .int (xs (j + 1)), .ref (gB G 8)]) (rest := []) S hI hL1 (cwl_keep S.2.2.2.2 ⟨by omega, by omega⟩) rfl hl.1 (Nat.le_of_ble_eq_true rfl) dL_law_344 ⟨by omega, by omega⟩) (fun r1 σ1 H locs hq1 hI => ?_)
  obtain ⟨hk1, hp1⟩ := hq1
  rw [hk1]
  obtain ⟨d9, hd9, hC4⟩ := hM1 σ1 hp1
  refine lv_istore (lv' := [(5, .int k9), (0, .ref b), (1, .ref (gB G 0)), (2, .ref (gB G 3)), (3, .ref (gB G 8)), (4, .int (nI j))]) S.1 S.2.1 dL_law_347 hl (by decide) rfl (fun ls hl => ?_)
  refine lv_aload_n S.1 S.2.1 dL_law_349 rfl (lv_at hl 3 rfl) ?_
  refine lv_aload_n S.1 S.2.1 dL_law_350 rfl (lv_at hl 1 rfl) ?_
  refine lv_iload S.1 S.2.1 dL_law_351 (lv_at hl 5 rfl) ?_
  refine lv_iconst (v := 1) S.1 S.2.1 dL_law_353 (by decide) ?_
  refine lv_iadd S.1 S.2.1 dL_law_354 ?_
  rw [show ((nI j) + 1) = (nI (j + 1)) from nI_1 j]
  refine sc_at S hI hXs hbl hbA (j := (j + 1)) (by omega) hL9 dL_law_355 ?_
  refine cl_i hI (rnV (As := [.int (xs (j + 1))]) (rest := []) S hI hC4 (cw_L_X4_keep S.2.2.2.2 ⟨by omega, by omega⟩) (rcM hI) rfl hl.1 (Nat.le_of_ble_eq_true rfl) dL_law_356 ⟨by omega, by omega⟩) (fun r2 σ2 H locs hq2 hI => ?_)
  obtain ⟨ht2, ho2, hR2⟩ := hq2
  refine lv_istore (lv' := [(6, .int r2), (5, .int k9), (0, .ref b), (1, .ref (gB G 0)), (2, .ref (gB G 3)), (3, .ref (gB G 8)), (4, .int (nI j))]) S.1 S.2.1 dL_law_359 hl (by decide) rfl (fun ls hl => ?_)
  refine lv_aload_n S.1 S.2.1 dL_law_361 rfl (lv_at hl 4 rfl) ?_
  refine cl_i hI (rnV (As := []) (rest := []) S hI (c_thrown l G σ2 (th := (gM σ2).1) (np := (gM σ2).2.1) (mk := (gM σ2).2.2.1) (lf := (gM σ2).2.2.2.1) (nw := (gM σ2).2.2.2.2.1) (kp := (gM σ2).2.2.2.2.2) rfl) (cw_L_X4_thrown S.2.2.2.2 ⟨by omega, by omega⟩) (rcM hI) rfl hl.1 (Nat.le_of_ble_eq_true rfl) dL_law_362 ⟨by omega, by omega⟩) (fun r3 σ3 H locs hq3 hI => ?_)
  obtain ⟨hr3, hs3⟩ := hq3
  rw [hs3] at hI
  rw [hr3, ht2]
  refine lv_iload S.1 S.2.1 dL_law_365 (lv_at hl 1 rfl) ?_
  refine lv_icmp_eq (tgt := 372) S.1 S.2.1 dL_law_367 (by decide) (fun cz_367 => ?_) (fun c9 => absurd rfl c9)
  refine lv_iload S.1 S.2.1 dL_law_372 (lv_at hl 1 rfl) ?_
  refine lv_if_ne (tgt := 389) S.1 S.2.1 dL_law_374 (by decide) (fun cz_374 => ?_) (fun cz_374 => ?_)
  · refine lv_goto (tgt := 1724) S.1 S.2.1 dL_law_389 (by decide) ?_
    exact kont _ _ _ _ hR2 hI (lv_sub hl [2, 3, 4, 5, 6] rfl)
  · refine lv_aload_n S.1 S.2.1 dL_law_377 rfl (lv_at hl 5 rfl) ?_
    refine lv_iconst (v := 0) S.1 S.2.1 dL_law_378 (by decide) ?_
    refine a_out S hI dL_law_379 ?_
    refine lv_iload S.1 S.2.1 dL_law_380 (lv_at hl 0 rfl) ?_
    refine lv_i2l (v := r2.toInt64) S.1 S.2.1 dL_law_382 rfl ?_
    rw [ho2 cz_374]
    refine lw_lcmp S.1 S.2.1 dL_law_383 ?_
    refine lv_if_eq (tgt := 389) S.1 S.2.1 dL_law_384 (by decide) (fun _ => ?_) (fun c9 => absurd c9 (by decide))
    refine lv_goto (tgt := 1724) S.1 S.2.1 dL_law_389 (by decide) ?_
    exact kont _ _ _ _ hR2 hI (lv_sub hl [2, 3, 4, 5, 6] rfl)
set_option maxRecDepth 100000 in
set_option maxHeartbeats 4000000 in
theorem lc_set (hst9 : l.stackTraces = false) (S : CallFix p m c cL_law 9 s args AL RL) (hI : Iv G σ s H locs) (hl : lv_has ls 9 [(0, .ref b), (1, .ref (gB G 0)), (2, .ref (gB G 3)), (3, .ref (gB G 8)), (4, .int (nI j))]) (hXs : va_X b L xs s s.heap) (hbl : b < s.heap.size) (hbA : ¬ gA G b) (hj9 : j + 3 < L) (hL9 : L ≤ 2048) (hR9 : Rel σ) (hF9 : 12 ≤ R.frames ∧ 440 ≤ R.locals) (hC9 : cells + 1 ≤ R.cells) (hS9 : slots + 6 ≤ R.slots) (kont : Kont p l e R s m args below meth c (cells + 1) (slots + 6) Q G b j) : W p l e R s m args below meth c H locs cells slots Q (F0 m 392 ls []) := by
  obtain ⟨k9, P9, hL1, hM1⟩ := pr_set l hst9 G σ hR9 (xs (j + 1)) (xs (j + 2))
  refine lv_aload_n S.1 S.2.1 dL_law_392 rfl (lv_at hl 1 rfl) ?_
  refine lv_aload_n S.1 S.2.1 dL_law_393 rfl (lv_at hl 0 rfl) ?_
  refine lv_iload S.1 S.2.1 dL_law_394 (lv_at hl 4 rfl) ?_
  refine lv_iconst (v := 1) S.1 S.2.1 dL_law_396 (by decide) ?_
  refine lv_iadd S.1 S.2.1 dL_law_397 ?_
  rw [show ((nI j) + 1) = (nI (j + 1)) from nI_1 j]
  refine sc_at S hI hXs hbl hbA (j := (j + 1)) (by omega) hL9 dL_law_398 ?_
  refine lv_aload_n S.1 S.2.1 dL_law_399 rfl (lv_at hl 0 rfl) ?_
  refine lv_iload S.1 S.2.1 dL_law_400 (lv_at hl 4 rfl) ?_
  refine lv_iconst (v := 2) S.1 S.2.1 dL_law_402 (by decide) ?_
  refine lv_iadd S.1 S.2.1 dL_law_403 ?_
  rw [show ((nI j) + 2) = (nI (j + 2)) from nI_2 j]
  refine sc_at S hI hXs hbl hbA (j := (j + 2)) (by omega) hL9 dL_law_404 ?_
  refine lv_aload_n S.1 S.2.1 dL_law_405 rfl (lv_at hl 3 rfl) ?_
  refine cl_i hI (rnL (As := [.ref (gB G 0), .int (xs (j + 1)), .int (xs (j + 2)), .ref (gB G 8)]) (rest := []) S hI hL1 (cwl_set S.2.2.2.2 ⟨by omega, by omega⟩) rfl hl.1 (Nat.le_of_ble_eq_true rfl) dL_law_406 ⟨by omega, by omega⟩) (fun r1 σ1 H locs hq1 hI => ?_)
  obtain ⟨hk1, hp1⟩ := hq1
  rw [hk1]
  obtain ⟨d9, hd9, hC4⟩ := hM1 σ1 hp1
  refine lv_istore (lv' := [(5, .int k9), (0, .ref b), (1, .ref (gB G 0)), (2, .ref (gB G 3)), (3, .ref (gB G 8)), (4, .int (nI j))]) S.1 S.2.1 dL_law_409 hl (by decide) rfl (fun ls hl => ?_)
  refine lv_aload_n S.1 S.2.1 dL_law_411 rfl (lv_at hl 3 rfl) ?_
  refine lv_aload_n S.1 S.2.1 dL_law_412 rfl (lv_at hl 1 rfl) ?_
  refine lv_iload S.1 S.2.1 dL_law_413 (lv_at hl 5 rfl) ?_
  refine lv_iconst (v := 1) S.1 S.2.1 dL_law_415 (by decide) ?_
  refine lv_iadd S.1 S.2.1 dL_law_416 ?_
  rw [show ((nI j) + 1) = (nI (j + 1)) from nI_1 j]
  refine sc_at S hI hXs hbl hbA (j := (j + 1)) (by omega) hL9 dL_law_417 ?_
  refine lv_aload_n S.1 S.2.1 dL_law_418 rfl (lv_at hl 1 rfl) ?_
  refine lv_iload S.1 S.2.1 dL_law_419 (lv_at hl 5 rfl) ?_
  refine lv_iconst (v := 2) S.1 S.2.1 dL_law_421 (by decide) ?_
  refine lv_iadd S.1 S.2.1 dL_law_422 ?_
  rw [show ((nI j) + 2) = (nI (j + 2)) from nI_2 j]
  refine sc_at S hI hXs hbl hbA (j := (j + 2)) (by omega) hL9 dL_law_423 ?_
  refine cl_i hI (rnV (As := [.int (xs (j + 1)), .int (xs (j + 2))]) (rest := []) S hI hC4 (cw_L_X4_set S.2.2.2.2 ⟨by omega, by omega⟩) (rcM hI) rfl hl.1 (Nat.le_of_ble_eq_true rfl) dL_law_424 ⟨by omega, by omega⟩) (fun r2 σ2 H locs hq2 hI => ?_)
  obtain ⟨ht2, ho2, hR2⟩ := hq2
  refine lv_istore (lv' := [(6, .int r2), (5, .int k9), (0, .ref b), (1, .ref (gB G 0)), (2, .ref (gB G 3)), (3, .ref (gB G 8)), (4, .int (nI j))]) S.1 S.2.1 dL_law_427 hl (by decide) rfl (fun ls hl => ?_)
  refine lv_aload_n S.1 S.2.1 dL_law_429 rfl (lv_at hl 4 rfl) ?_
  refine cl_i hI (rnV (As := []) (rest := []) S hI (c_thrown l G σ2 (th := (gM σ2).1) (np := (gM σ2).2.1) (mk := (gM σ2).2.2.1) (lf := (gM σ2).2.2.2.1) (nw := (gM σ2).2.2.2.2.1) (kp := (gM σ2).2.2.2.2.2) rfl) (cw_L_X4_thrown S.2.2.2.2 ⟨by omega, by omega⟩) (rcM hI) rfl hl.1 (Nat.le_of_ble_eq_true rfl) dL_law_430 ⟨by omega, by omega⟩) (fun r3 σ3 H locs hq3 hI => ?_)
  obtain ⟨hr3, hs3⟩ := hq3
  rw [hs3] at hI
  rw [hr3, ht2]
  refine lv_iload S.1 S.2.1 dL_law_433 (lv_at hl 1 rfl) ?_
  refine lv_icmp_eq (tgt := 440) S.1 S.2.1 dL_law_435 (by decide) (fun cz_435 => ?_) (fun c9 => absurd rfl c9)
  refine lv_iload S.1 S.2.1 dL_law_440 (lv_at hl 1 rfl) ?_
  refine lv_if_ne (tgt := 457) S.1 S.2.1 dL_law_442 (by decide) (fun cz_442 => ?_) (fun cz_442 => ?_)
  · refine lv_goto (tgt := 1724) S.1 S.2.1 dL_law_457 (by decide) ?_
    exact kont _ _ _ _ hR2 hI (lv_sub hl [2, 3, 4, 5, 6] rfl)
  · refine lv_aload_n S.1 S.2.1 dL_law_445 rfl (lv_at hl 5 rfl) ?_
    refine lv_iconst (v := 0) S.1 S.2.1 dL_law_446 (by decide) ?_
    refine a_out S hI dL_law_447 ?_
    refine lv_iload S.1 S.2.1 dL_law_448 (lv_at hl 0 rfl) ?_
    refine lv_i2l (v := r2.toInt64) S.1 S.2.1 dL_law_450 rfl ?_
    rw [ho2 cz_442]
    refine lw_lcmp S.1 S.2.1 dL_law_451 ?_
    refine lv_if_eq (tgt := 457) S.1 S.2.1 dL_law_452 (by decide) (fun _ => ?_) (fun c9 => absurd c9 (by decide))
    refine lv_goto (tgt := 1724) S.1 S.2.1 dL_law_457 (by decide) ?_
    exact kont _ _ _ _ hR2 hI (lv_sub hl [2, 3, 4, 5, 6] rfl)
set_option maxRecDepth 100000 in
set_option maxHeartbeats 4000000 in
theorem lc_pass (hst9 : l.stackTraces = false) (S : CallFix p m c cL_law 9 s args AL RL) (hI : Iv G σ s H locs) (hl : lv_has ls 9 [(0, .ref b), (1, .ref (gB G 0)), (2, .ref (gB G 3)), (3, .ref (gB G 8)), (4, .int (nI j))]) (hXs : va_X b L xs s s.heap) (hbl : b < s.heap.size) (hbA : ¬ gA G b) (hj9 : j + 3 < L) (hL9 : L ≤ 2048) (hR9 : Rel σ) (hF9 : 12 ≤ R.frames ∧ 440 ≤ R.locals) (hC9 : cells + 1 ≤ R.cells) (hS9 : slots + 6 ≤ R.slots) (kont : Kont p l e R s m args below meth c (cells + 1) (slots + 6) Q G b j) : W p l e R s m args below meth c H locs cells slots Q (F0 m 473 ls []) := by
  obtain ⟨k9, P9, hL1, hM1⟩ := pr_pass l hst9 G σ hR9 (xs (j + 1))
  refine lv_aload_n S.1 S.2.1 dL_law_473 rfl (lv_at hl 1 rfl) ?_
  refine lv_aload_n S.1 S.2.1 dL_law_474 rfl (lv_at hl 0 rfl) ?_
  refine lv_iload S.1 S.2.1 dL_law_475 (lv_at hl 4 rfl) ?_
  refine lv_iconst (v := 1) S.1 S.2.1 dL_law_477 (by decide) ?_
  refine lv_iadd S.1 S.2.1 dL_law_478 ?_
  rw [show ((nI j) + 1) = (nI (j + 1)) from nI_1 j]
  refine sc_at S hI hXs hbl hbA (j := (j + 1)) (by omega) hL9 dL_law_479 ?_
  refine lv_aload_n S.1 S.2.1 dL_law_480 rfl (lv_at hl 3 rfl) ?_
  refine cl_i hI (rnL (As := [.ref (gB G 0), .int (xs (j + 1)), .ref (gB G 8)]) (rest := []) S hI hL1 (cwl_pass S.2.2.2.2 ⟨by omega, by omega⟩) rfl hl.1 (Nat.le_of_ble_eq_true rfl) dL_law_481 ⟨by omega, by omega⟩) (fun r1 σ1 H locs hq1 hI => ?_)
  obtain ⟨hk1, hp1⟩ := hq1
  rw [hk1]
  obtain ⟨d9, hd9, hC4⟩ := hM1 σ1 hp1
  refine lv_istore (lv' := [(5, .int k9), (0, .ref b), (1, .ref (gB G 0)), (2, .ref (gB G 3)), (3, .ref (gB G 8)), (4, .int (nI j))]) S.1 S.2.1 dL_law_484 hl (by decide) rfl (fun ls hl => ?_)
  refine lv_aload_n S.1 S.2.1 dL_law_486 rfl (lv_at hl 3 rfl) ?_
  refine lv_aload_n S.1 S.2.1 dL_law_487 rfl (lv_at hl 1 rfl) ?_
  refine lv_iload S.1 S.2.1 dL_law_488 (lv_at hl 5 rfl) ?_
  refine lv_iconst (v := 1) S.1 S.2.1 dL_law_490 (by decide) ?_
  refine lv_iadd S.1 S.2.1 dL_law_491 ?_
  rw [show ((nI j) + 1) = (nI (j + 1)) from nI_1 j]
  refine sc_at S hI hXs hbl hbA (j := (j + 1)) (by omega) hL9 dL_law_492 ?_
  refine cl_i hI (rnV (As := [.int (xs (j + 1))]) (rest := []) S hI hC4 (cw_L_X4_pass S.2.2.2.2 ⟨by omega, by omega⟩) (rcM hI) rfl hl.1 (Nat.le_of_ble_eq_true rfl) dL_law_493 ⟨by omega, by omega⟩) (fun r2 σ2 H locs hq2 hI => ?_)
  obtain ⟨ht2, ho2, hR2⟩ := hq2
  refine lv_istore (lv' := [(6, .int r2), (5, .int k9), (0, .ref b), (1, .ref (gB G 0)), (2, .ref (gB G 3)), (3, .ref (gB G 8)), (4, .int (nI j))]) S.1 S.2.1 dL_law_496 hl (by decide) rfl (fun ls hl => ?_)
  refine lv_aload_n S.1 S.2.1 dL_law_498 rfl (lv_at hl 4 rfl) ?_
  refine cl_i hI (rnV (As := []) (rest := []) S hI (c_thrown l G σ2 (th := (gM σ2).1) (np := (gM σ2).2.1) (mk := (gM σ2).2.2.1) (lf := (gM σ2).2.2.2.1) (nw := (gM σ2).2.2.2.2.1) (kp := (gM σ2).2.2.2.2.2) rfl) (cw_L_X4_thrown S.2.2.2.2 ⟨by omega, by omega⟩) (rcM hI) rfl hl.1 (Nat.le_of_ble_eq_true rfl) dL_law_499 ⟨by omega, by omega⟩) (fun r3 σ3 H locs hq3 hI => ?_)
  obtain ⟨hr3, hs3⟩ := hq3
  rw [hs3] at hI
  rw [hr3, ht2]
  refine lv_iload S.1 S.2.1 dL_law_502 (lv_at hl 1 rfl) ?_
  refine lv_icmp_eq (tgt := 509) S.1 S.2.1 dL_law_504 (by decide) (fun cz_504 => ?_) (fun c9 => absurd rfl c9)
  refine lv_iload S.1 S.2.1 dL_law_509 (lv_at hl 1 rfl) ?_
  refine lv_if_ne (tgt := 526) S.1 S.2.1 dL_law_511 (by decide) (fun cz_511 => ?_) (fun cz_511 => ?_)
  · refine lv_goto (tgt := 1724) S.1 S.2.1 dL_law_526 (by decide) ?_
    exact kont _ _ _ _ hR2 hI (lv_sub hl [2, 3, 4, 5, 6] rfl)
  · refine lv_aload_n S.1 S.2.1 dL_law_514 rfl (lv_at hl 5 rfl) ?_
    refine lv_iconst (v := 0) S.1 S.2.1 dL_law_515 (by decide) ?_
    refine a_out S hI dL_law_516 ?_
    refine lv_iload S.1 S.2.1 dL_law_517 (lv_at hl 0 rfl) ?_
    refine lv_i2l (v := r2.toInt64) S.1 S.2.1 dL_law_519 rfl ?_
    rw [ho2 cz_511]
    refine lw_lcmp S.1 S.2.1 dL_law_520 ?_
    refine lv_if_eq (tgt := 526) S.1 S.2.1 dL_law_521 (by decide) (fun _ => ?_) (fun c9 => absurd c9 (by decide))
    refine lv_goto (tgt := 1724) S.1 S.2.1 dL_law_526 (by decide) ?_
    exact kont _ _ _ _ hR2 hI (lv_sub hl [2, 3, 4, 5, 6] rfl)
set_option maxRecDepth 100000 in
set_option maxHeartbeats 4000000 in
theorem lc_settingOf (hst9 : l.stackTraces = false) (S : CallFix p m c cL_law 9 s args AL RL) (hI : Iv G σ s H locs) (hl : lv_has ls 9 [(0, .ref b), (1, .ref (gB G 0)), (2, .ref (gB G 3)), (3, .ref (gB G 8)), (4, .int (nI j))]) (hXs : va_X b L xs s s.heap) (hbl : b < s.heap.size) (hbA : ¬ gA G b) (hj9 : j + 3 < L) (hL9 : L ≤ 2048) (hR9 : Rel σ) (hF9 : 12 ≤ R.frames ∧ 440 ≤ R.locals) (hC9 : cells + 1 ≤ R.cells) (hS9 : slots + 6 ≤ R.slots) (kont : Kont p l e R s m args below meth c (cells + 1) (slots + 6) Q G b j) : W p l e R s m args below meth c H locs cells slots Q (F0 m 555 ls []) := by
  obtain ⟨k9, P9, hL1, hM1⟩ := pr_settingOf l hst9 G σ hR9 (xs (j + 1))
  refine lv_aload_n S.1 S.2.1 dL_law_555 rfl (lv_at hl 1 rfl) ?_
  refine lv_aload_n S.1 S.2.1 dL_law_556 rfl (lv_at hl 0 rfl) ?_
  refine lv_iload S.1 S.2.1 dL_law_557 (lv_at hl 4 rfl) ?_
  refine lv_iconst (v := 1) S.1 S.2.1 dL_law_559 (by decide) ?_
  refine lv_iadd S.1 S.2.1 dL_law_560 ?_
  rw [show ((nI j) + 1) = (nI (j + 1)) from nI_1 j]
  refine sc_at S hI hXs hbl hbA (j := (j + 1)) (by omega) hL9 dL_law_561 ?_
  refine lv_aload_n S.1 S.2.1 dL_law_562 rfl (lv_at hl 3 rfl) ?_
  refine cl_i hI (rnL (As := [.ref (gB G 0), .int (xs (j + 1)), .ref (gB G 8)]) (rest := []) S hI hL1 (cwl_settingOf S.2.2.2.2 ⟨by omega, by omega⟩) rfl hl.1 (Nat.le_of_ble_eq_true rfl) dL_law_563 ⟨by omega, by omega⟩) (fun r1 σ1 H locs hq1 hI => ?_)
  obtain ⟨hk1, hp1⟩ := hq1
  rw [hk1]
  obtain ⟨d9, hd9, hC4⟩ := hM1 σ1 hp1
  refine lv_istore (lv' := [(5, .int k9), (0, .ref b), (1, .ref (gB G 0)), (2, .ref (gB G 3)), (3, .ref (gB G 8)), (4, .int (nI j))]) S.1 S.2.1 dL_law_566 hl (by decide) rfl (fun ls hl => ?_)
  refine lv_aload_n S.1 S.2.1 dL_law_568 rfl (lv_at hl 3 rfl) ?_
  refine lv_aload_n S.1 S.2.1 dL_law_569 rfl (lv_at hl 1 rfl) ?_
  refine lv_iload S.1 S.2.1 dL_law_570 (lv_at hl 5 rfl) ?_
  refine lv_iconst (v := 1) S.1 S.2.1 dL_law_572 (by decide) ?_
  refine lv_iadd S.1 S.2.1 dL_law_573 ?_
  rw [show ((nI j) + 1) = (nI (j + 1)) from nI_1 j]
  refine sc_at S hI hXs hbl hbA (j := (j + 1)) (by omega) hL9 dL_law_574 ?_
  refine cl_i hI (rnV (As := [.int (xs (j + 1))]) (rest := []) S hI hC4 (cw_L_X4_settingOf S.2.2.2.2 ⟨by omega, by omega⟩) (rcM hI) rfl hl.1 (Nat.le_of_ble_eq_true rfl) dL_law_575 ⟨by omega, by omega⟩) (fun r2 σ2 H locs hq2 hI => ?_)
  obtain ⟨ht2, ho2, hR2⟩ := hq2
  refine lv_istore (lv' := [(6, .int r2), (5, .int k9), (0, .ref b), (1, .ref (gB G 0)), (2, .ref (gB G 3)), (3, .ref (gB G 8)), (4, .int (nI j))]) S.1 S.2.1 dL_law_578 hl (by decide) rfl (fun ls hl => ?_)
  refine lv_aload_n S.1 S.2.1 dL_law_580 rfl (lv_at hl 4 rfl) ?_
  refine cl_i hI (rnV (As := []) (rest := []) S hI (c_thrown l G σ2 (th := (gM σ2).1) (np := (gM σ2).2.1) (mk := (gM σ2).2.2.1) (lf := (gM σ2).2.2.2.1) (nw := (gM σ2).2.2.2.2.1) (kp := (gM σ2).2.2.2.2.2) rfl) (cw_L_X4_thrown S.2.2.2.2 ⟨by omega, by omega⟩) (rcM hI) rfl hl.1 (Nat.le_of_ble_eq_true rfl) dL_law_581 ⟨by omega, by omega⟩) (fun r3 σ3 H locs hq3 hI => ?_)
  obtain ⟨hr3, hs3⟩ := hq3
  rw [hs3] at hI
  rw [hr3, ht2]
  refine lv_iload S.1 S.2.1 dL_law_584 (lv_at hl 1 rfl) ?_
  refine lv_icmp_eq (tgt := 591) S.1 S.2.1 dL_law_586 (by decide) (fun cz_586 => ?_) (fun c9 => absurd rfl c9)
  refine lv_iload S.1 S.2.1 dL_law_591 (lv_at hl 1 rfl) ?_
  refine lv_if_ne (tgt := 608) S.1 S.2.1 dL_law_593 (by decide) (fun cz_593 => ?_) (fun cz_593 => ?_)
  · refine lv_goto (tgt := 1724) S.1 S.2.1 dL_law_608 (by decide) ?_
    exact kont _ _ _ _ hR2 hI (lv_sub hl [2, 3, 4, 5, 6] rfl)
  · refine lv_aload_n S.1 S.2.1 dL_law_596 rfl (lv_at hl 5 rfl) ?_
    refine lv_iconst (v := 0) S.1 S.2.1 dL_law_597 (by decide) ?_
    refine a_out S hI dL_law_598 ?_
    refine lv_iload S.1 S.2.1 dL_law_599 (lv_at hl 0 rfl) ?_
    refine lv_i2l (v := r2.toInt64) S.1 S.2.1 dL_law_601 rfl ?_
    rw [ho2 cz_593]
    refine lw_lcmp S.1 S.2.1 dL_law_602 ?_
    refine lv_if_eq (tgt := 608) S.1 S.2.1 dL_law_603 (by decide) (fun _ => ?_) (fun c9 => absurd c9 (by decide))
    refine lv_goto (tgt := 1724) S.1 S.2.1 dL_law_608 (by decide) ?_
    exact kont _ _ _ _ hR2 hI (lv_sub hl [2, 3, 4, 5, 6] rfl)
set_option maxRecDepth 100000 in
set_option maxHeartbeats 4000000 in
theorem lc_heatOn (hst9 : l.stackTraces = false) (S : CallFix p m c cL_law 9 s args AL RL) (hI : Iv G σ s H locs) (hl : lv_has ls 9 [(0, .ref b), (1, .ref (gB G 0)), (2, .ref (gB G 3)), (3, .ref (gB G 8)), (4, .int (nI j))]) (hXs : va_X b L xs s s.heap) (hbl : b < s.heap.size) (hbA : ¬ gA G b) (hj9 : j + 3 < L) (hL9 : L ≤ 2048) (hR9 : Rel σ) (hF9 : 12 ≤ R.frames ∧ 440 ≤ R.locals) (hC9 : cells + 1 ≤ R.cells) (hS9 : slots + 6 ≤ R.slots) (kont : Kont p l e R s m args below meth c (cells + 1) (slots + 6) Q G b j) : W p l e R s m args below meth c H locs cells slots Q (F0 m 611 ls []) := by
  obtain ⟨k9, P9, hL1, hM1⟩ := pr_heatOn l hst9 G σ hR9 (xs (j + 1))
  refine lv_aload_n S.1 S.2.1 dL_law_611 rfl (lv_at hl 1 rfl) ?_
  refine lv_aload_n S.1 S.2.1 dL_law_612 rfl (lv_at hl 0 rfl) ?_
  refine lv_iload S.1 S.2.1 dL_law_613 (lv_at hl 4 rfl) ?_
  refine lv_iconst (v := 1) S.1 S.2.1 dL_law_615 (by decide) ?_
  refine lv_iadd S.1 S.2.1 dL_law_616 ?_
  rw [show ((nI j) + 1) = (nI (j + 1)) from nI_1 j]
  refine sc_at S hI hXs hbl hbA (j := (j + 1)) (by omega) hL9 dL_law_617 ?_
  refine lv_aload_n S.1 S.2.1 dL_law_618 rfl (lv_at hl 3 rfl) ?_
  refine cl_i hI (rnL (As := [.ref (gB G 0), .int (xs (j + 1)), .ref (gB G 8)]) (rest := []) S hI hL1 (cwl_heatOn S.2.2.2.2 ⟨by omega, by omega⟩) rfl hl.1 (Nat.le_of_ble_eq_true rfl) dL_law_619 ⟨by omega, by omega⟩) (fun r1 σ1 H locs hq1 hI => ?_)
  obtain ⟨hk1, hp1⟩ := hq1
  rw [hk1]
  obtain ⟨d9, hd9, hC4⟩ := hM1 σ1 hp1
  refine lv_istore (lv' := [(5, .int k9), (0, .ref b), (1, .ref (gB G 0)), (2, .ref (gB G 3)), (3, .ref (gB G 8)), (4, .int (nI j))]) S.1 S.2.1 dL_law_622 hl (by decide) rfl (fun ls hl => ?_)
  refine lv_aload_n S.1 S.2.1 dL_law_624 rfl (lv_at hl 3 rfl) ?_
  refine lv_aload_n S.1 S.2.1 dL_law_625 rfl (lv_at hl 1 rfl) ?_
  refine lv_iload S.1 S.2.1 dL_law_626 (lv_at hl 5 rfl) ?_
  refine lv_iconst (v := 1) S.1 S.2.1 dL_law_628 (by decide) ?_
  refine lv_iadd S.1 S.2.1 dL_law_629 ?_
  rw [show ((nI j) + 1) = (nI (j + 1)) from nI_1 j]
  refine sc_at S hI hXs hbl hbA (j := (j + 1)) (by omega) hL9 dL_law_630 ?_
  refine cl_i hI (rnV (As := [.int (xs (j + 1))]) (rest := []) S hI hC4 (cw_L_X4_heatOn S.2.2.2.2 ⟨by omega, by omega⟩) (rcM hI) rfl hl.1 (Nat.le_of_ble_eq_true rfl) dL_law_631 ⟨by omega, by omega⟩) (fun r2 σ2 H locs hq2 hI => ?_)
  obtain ⟨ht2, ho2, hR2⟩ := hq2
  refine lv_istore (lv' := [(6, .int r2), (5, .int k9), (0, .ref b), (1, .ref (gB G 0)), (2, .ref (gB G 3)), (3, .ref (gB G 8)), (4, .int (nI j))]) S.1 S.2.1 dL_law_634 hl (by decide) rfl (fun ls hl => ?_)
  refine lv_aload_n S.1 S.2.1 dL_law_636 rfl (lv_at hl 4 rfl) ?_
  refine cl_i hI (rnV (As := []) (rest := []) S hI (c_thrown l G σ2 (th := (gM σ2).1) (np := (gM σ2).2.1) (mk := (gM σ2).2.2.1) (lf := (gM σ2).2.2.2.1) (nw := (gM σ2).2.2.2.2.1) (kp := (gM σ2).2.2.2.2.2) rfl) (cw_L_X4_thrown S.2.2.2.2 ⟨by omega, by omega⟩) (rcM hI) rfl hl.1 (Nat.le_of_ble_eq_true rfl) dL_law_637 ⟨by omega, by omega⟩) (fun r3 σ3 H locs hq3 hI => ?_)
  obtain ⟨hr3, hs3⟩ := hq3
  rw [hs3] at hI
  rw [hr3, ht2]
  refine lv_iload S.1 S.2.1 dL_law_640 (lv_at hl 1 rfl) ?_
  refine lv_icmp_eq (tgt := 647) S.1 S.2.1 dL_law_642 (by decide) (fun cz_642 => ?_) (fun c9 => absurd rfl c9)
  refine lv_iload S.1 S.2.1 dL_law_647 (lv_at hl 1 rfl) ?_
  refine lv_if_ne (tgt := 664) S.1 S.2.1 dL_law_649 (by decide) (fun cz_649 => ?_) (fun cz_649 => ?_)
  · refine lv_goto (tgt := 1724) S.1 S.2.1 dL_law_664 (by decide) ?_
    exact kont _ _ _ _ hR2 hI (lv_sub hl [2, 3, 4, 5, 6] rfl)
  · refine lv_aload_n S.1 S.2.1 dL_law_652 rfl (lv_at hl 5 rfl) ?_
    refine lv_iconst (v := 0) S.1 S.2.1 dL_law_653 (by decide) ?_
    refine a_out S hI dL_law_654 ?_
    refine lv_iload S.1 S.2.1 dL_law_655 (lv_at hl 0 rfl) ?_
    refine lv_i2l (v := r2.toInt64) S.1 S.2.1 dL_law_657 rfl ?_
    rw [ho2 cz_649]
    refine lw_lcmp S.1 S.2.1 dL_law_658 ?_
    refine lv_if_eq (tgt := 664) S.1 S.2.1 dL_law_659 (by decide) (fun _ => ?_) (fun c9 => absurd c9 (by decide))
    refine lv_goto (tgt := 1724) S.1 S.2.1 dL_law_664 (by decide) ?_
    exact kont _ _ _ _ hR2 hI (lv_sub hl [2, 3, 4, 5, 6] rfl)
set_option maxRecDepth 100000 in
set_option maxHeartbeats 4000000 in
theorem lc_promisesOn (hst9 : l.stackTraces = false) (S : CallFix p m c cL_law 9 s args AL RL) (hI : Iv G σ s H locs) (hl : lv_has ls 9 [(0, .ref b), (1, .ref (gB G 0)), (2, .ref (gB G 3)), (3, .ref (gB G 8)), (4, .int (nI j))]) (hXs : va_X b L xs s s.heap) (hbl : b < s.heap.size) (hbA : ¬ gA G b) (hj9 : j + 3 < L) (hL9 : L ≤ 2048) (hR9 : Rel σ) (hF9 : 12 ≤ R.frames ∧ 440 ≤ R.locals) (hC9 : cells + 1 ≤ R.cells) (hS9 : slots + 6 ≤ R.slots) (kont : Kont p l e R s m args below meth c (cells + 1) (slots + 6) Q G b j) : W p l e R s m args below meth c H locs cells slots Q (F0 m 667 ls []) := by
  obtain ⟨k9, P9, hL1, hM1⟩ := pr_promisesOn l hst9 G σ hR9 (xs (j + 1))
  refine lv_aload_n S.1 S.2.1 dL_law_667 rfl (lv_at hl 1 rfl) ?_
  refine lv_aload_n S.1 S.2.1 dL_law_668 rfl (lv_at hl 0 rfl) ?_
  refine lv_iload S.1 S.2.1 dL_law_669 (lv_at hl 4 rfl) ?_
  refine lv_iconst (v := 1) S.1 S.2.1 dL_law_671 (by decide) ?_
  refine lv_iadd S.1 S.2.1 dL_law_672 ?_
  rw [show ((nI j) + 1) = (nI (j + 1)) from nI_1 j]
  refine sc_at S hI hXs hbl hbA (j := (j + 1)) (by omega) hL9 dL_law_673 ?_
  refine lv_aload_n S.1 S.2.1 dL_law_674 rfl (lv_at hl 3 rfl) ?_
  refine cl_i hI (rnL (As := [.ref (gB G 0), .int (xs (j + 1)), .ref (gB G 8)]) (rest := []) S hI hL1 (cwl_promisesOn S.2.2.2.2 ⟨by omega, by omega⟩) rfl hl.1 (Nat.le_of_ble_eq_true rfl) dL_law_675 ⟨by omega, by omega⟩) (fun r1 σ1 H locs hq1 hI => ?_)
  obtain ⟨hk1, hp1⟩ := hq1
  rw [hk1]
  obtain ⟨d9, hd9, hC4⟩ := hM1 σ1 hp1
  refine lv_istore (lv' := [(5, .int k9), (0, .ref b), (1, .ref (gB G 0)), (2, .ref (gB G 3)), (3, .ref (gB G 8)), (4, .int (nI j))]) S.1 S.2.1 dL_law_678 hl (by decide) rfl (fun ls hl => ?_)
  refine lv_aload_n S.1 S.2.1 dL_law_680 rfl (lv_at hl 3 rfl) ?_
  refine lv_aload_n S.1 S.2.1 dL_law_681 rfl (lv_at hl 1 rfl) ?_
  refine lv_iload S.1 S.2.1 dL_law_682 (lv_at hl 5 rfl) ?_
  refine lv_iconst (v := 1) S.1 S.2.1 dL_law_684 (by decide) ?_
  refine lv_iadd S.1 S.2.1 dL_law_685 ?_
  rw [show ((nI j) + 1) = (nI (j + 1)) from nI_1 j]
  refine sc_at S hI hXs hbl hbA (j := (j + 1)) (by omega) hL9 dL_law_686 ?_
  refine cl_i hI (rnV (As := [.int (xs (j + 1))]) (rest := []) S hI hC4 (cw_L_X4_promisesOn S.2.2.2.2 ⟨by omega, by omega⟩) (rcM hI) rfl hl.1 (Nat.le_of_ble_eq_true rfl) dL_law_687 ⟨by omega, by omega⟩) (fun r2 σ2 H locs hq2 hI => ?_)
  obtain ⟨ht2, ho2, hR2⟩ := hq2
  refine lv_istore (lv' := [(6, .int r2), (5, .int k9), (0, .ref b), (1, .ref (gB G 0)), (2, .ref (gB G 3)), (3, .ref (gB G 8)), (4, .int (nI j))]) S.1 S.2.1 dL_law_690 hl (by decide) rfl (fun ls hl => ?_)
  refine lv_aload_n S.1 S.2.1 dL_law_692 rfl (lv_at hl 4 rfl) ?_
  refine cl_i hI (rnV (As := []) (rest := []) S hI (c_thrown l G σ2 (th := (gM σ2).1) (np := (gM σ2).2.1) (mk := (gM σ2).2.2.1) (lf := (gM σ2).2.2.2.1) (nw := (gM σ2).2.2.2.2.1) (kp := (gM σ2).2.2.2.2.2) rfl) (cw_L_X4_thrown S.2.2.2.2 ⟨by omega, by omega⟩) (rcM hI) rfl hl.1 (Nat.le_of_ble_eq_true rfl) dL_law_693 ⟨by omega, by omega⟩) (fun r3 σ3 H locs hq3 hI => ?_)
  obtain ⟨hr3, hs3⟩ := hq3
  rw [hs3] at hI
  rw [hr3, ht2]
  refine lv_iload S.1 S.2.1 dL_law_696 (lv_at hl 1 rfl) ?_
  refine lv_icmp_eq (tgt := 703) S.1 S.2.1 dL_law_698 (by decide) (fun cz_698 => ?_) (fun c9 => absurd rfl c9)
  refine lv_iload S.1 S.2.1 dL_law_703 (lv_at hl 1 rfl) ?_
  refine lv_if_ne (tgt := 720) S.1 S.2.1 dL_law_705 (by decide) (fun cz_705 => ?_) (fun cz_705 => ?_)
  · refine lv_goto (tgt := 1724) S.1 S.2.1 dL_law_720 (by decide) ?_
    exact kont _ _ _ _ hR2 hI (lv_sub hl [2, 3, 4, 5, 6] rfl)
  · refine lv_aload_n S.1 S.2.1 dL_law_708 rfl (lv_at hl 5 rfl) ?_
    refine lv_iconst (v := 0) S.1 S.2.1 dL_law_709 (by decide) ?_
    refine a_out S hI dL_law_710 ?_
    refine lv_iload S.1 S.2.1 dL_law_711 (lv_at hl 0 rfl) ?_
    refine lv_i2l (v := r2.toInt64) S.1 S.2.1 dL_law_713 rfl ?_
    rw [ho2 cz_705]
    refine lw_lcmp S.1 S.2.1 dL_law_714 ?_
    refine lv_if_eq (tgt := 720) S.1 S.2.1 dL_law_715 (by decide) (fun _ => ?_) (fun c9 => absurd c9 (by decide))
    refine lv_goto (tgt := 1724) S.1 S.2.1 dL_law_720 (by decide) ?_
    exact kont _ _ _ _ hR2 hI (lv_sub hl [2, 3, 4, 5, 6] rfl)
set_option maxRecDepth 100000 in
set_option maxHeartbeats 4000000 in
theorem lc_makerOf (hst9 : l.stackTraces = false) (S : CallFix p m c cL_law 9 s args AL RL) (hI : Iv G σ s H locs) (hl : lv_has ls 9 [(0, .ref b), (1, .ref (gB G 0)), (2, .ref (gB G 3)), (3, .ref (gB G 8)), (4, .int (nI j))]) (hXs : va_X b L xs s s.heap) (hbl : b < s.heap.size) (hbA : ¬ gA G b) (hj9 : j + 3 < L) (hL9 : L ≤ 2048) (hR9 : Rel σ) (hF9 : 12 ≤ R.frames ∧ 440 ≤ R.locals) (hC9 : cells + 1 ≤ R.cells) (hS9 : slots + 6 ≤ R.slots) (kont : Kont p l e R s m args below meth c (cells + 1) (slots + 6) Q G b j) : W p l e R s m args below meth c H locs cells slots Q (F0 m 762 ls []) := by
  obtain ⟨k9, P9, hL1, hM1⟩ := pr_makerOf l hst9 G σ hR9 (xs (j + 1))
  refine lv_aload_n S.1 S.2.1 dL_law_762 rfl (lv_at hl 1 rfl) ?_
  refine lv_aload_n S.1 S.2.1 dL_law_763 rfl (lv_at hl 0 rfl) ?_
  refine lv_iload S.1 S.2.1 dL_law_764 (lv_at hl 4 rfl) ?_
  refine lv_iconst (v := 1) S.1 S.2.1 dL_law_766 (by decide) ?_
  refine lv_iadd S.1 S.2.1 dL_law_767 ?_
  rw [show ((nI j) + 1) = (nI (j + 1)) from nI_1 j]
  refine sc_at S hI hXs hbl hbA (j := (j + 1)) (by omega) hL9 dL_law_768 ?_
  refine lv_aload_n S.1 S.2.1 dL_law_769 rfl (lv_at hl 3 rfl) ?_
  refine cl_i hI (rnL (As := [.ref (gB G 0), .int (xs (j + 1)), .ref (gB G 8)]) (rest := []) S hI hL1 (cwl_makerOf S.2.2.2.2 ⟨by omega, by omega⟩) rfl hl.1 (Nat.le_of_ble_eq_true rfl) dL_law_770 ⟨by omega, by omega⟩) (fun r1 σ1 H locs hq1 hI => ?_)
  obtain ⟨hk1, hp1⟩ := hq1
  rw [hk1]
  obtain ⟨d9, hd9, hC4⟩ := hM1 σ1 hp1
  refine lv_istore (lv' := [(5, .int k9), (0, .ref b), (1, .ref (gB G 0)), (2, .ref (gB G 3)), (3, .ref (gB G 8)), (4, .int (nI j))]) S.1 S.2.1 dL_law_773 hl (by decide) rfl (fun ls hl => ?_)
  refine lv_aload_n S.1 S.2.1 dL_law_775 rfl (lv_at hl 3 rfl) ?_
  refine lv_aload_n S.1 S.2.1 dL_law_776 rfl (lv_at hl 1 rfl) ?_
  refine lv_iload S.1 S.2.1 dL_law_777 (lv_at hl 5 rfl) ?_
  refine lv_iconst (v := 1) S.1 S.2.1 dL_law_779 (by decide) ?_
  refine lv_iadd S.1 S.2.1 dL_law_780 ?_
  rw [show ((nI j) + 1) = (nI (j + 1)) from nI_1 j]
  refine sc_at S hI hXs hbl hbA (j := (j + 1)) (by omega) hL9 dL_law_781 ?_
  refine cl_i hI (rnV (As := [.int (xs (j + 1))]) (rest := []) S hI hC4 (cw_L_X4_makerOf S.2.2.2.2 ⟨by omega, by omega⟩) (rcM hI) rfl hl.1 (Nat.le_of_ble_eq_true rfl) dL_law_782 ⟨by omega, by omega⟩) (fun r2 σ2 H locs hq2 hI => ?_)
  obtain ⟨ht2, ho2, hR2⟩ := hq2
  refine lv_istore (lv' := [(6, .int r2), (5, .int k9), (0, .ref b), (1, .ref (gB G 0)), (2, .ref (gB G 3)), (3, .ref (gB G 8)), (4, .int (nI j))]) S.1 S.2.1 dL_law_785 hl (by decide) rfl (fun ls hl => ?_)
  refine lv_aload_n S.1 S.2.1 dL_law_787 rfl (lv_at hl 4 rfl) ?_
  refine cl_i hI (rnV (As := []) (rest := []) S hI (c_thrown l G σ2 (th := (gM σ2).1) (np := (gM σ2).2.1) (mk := (gM σ2).2.2.1) (lf := (gM σ2).2.2.2.1) (nw := (gM σ2).2.2.2.2.1) (kp := (gM σ2).2.2.2.2.2) rfl) (cw_L_X4_thrown S.2.2.2.2 ⟨by omega, by omega⟩) (rcM hI) rfl hl.1 (Nat.le_of_ble_eq_true rfl) dL_law_788 ⟨by omega, by omega⟩) (fun r3 σ3 H locs hq3 hI => ?_)
  obtain ⟨hr3, hs3⟩ := hq3
  rw [hs3] at hI
  rw [hr3, ht2]
  refine lv_iload S.1 S.2.1 dL_law_791 (lv_at hl 1 rfl) ?_
  refine lv_icmp_eq (tgt := 798) S.1 S.2.1 dL_law_793 (by decide) (fun cz_793 => ?_) (fun c9 => absurd rfl c9)
  refine lv_iload S.1 S.2.1 dL_law_798 (lv_at hl 1 rfl) ?_
  refine lv_if_ne (tgt := 815) S.1 S.2.1 dL_law_800 (by decide) (fun cz_800 => ?_) (fun cz_800 => ?_)
  · refine lv_goto (tgt := 1724) S.1 S.2.1 dL_law_815 (by decide) ?_
    exact kont _ _ _ _ hR2 hI (lv_sub hl [2, 3, 4, 5, 6] rfl)
  · refine lv_aload_n S.1 S.2.1 dL_law_803 rfl (lv_at hl 5 rfl) ?_
    refine lv_iconst (v := 0) S.1 S.2.1 dL_law_804 (by decide) ?_
    refine a_out S hI dL_law_805 ?_
    refine lv_iload S.1 S.2.1 dL_law_806 (lv_at hl 0 rfl) ?_
    refine lv_i2l (v := r2.toInt64) S.1 S.2.1 dL_law_808 rfl ?_
    rw [ho2 cz_800]
    refine lw_lcmp S.1 S.2.1 dL_law_809 ?_
    refine lv_if_eq (tgt := 815) S.1 S.2.1 dL_law_810 (by decide) (fun _ => ?_) (fun c9 => absurd c9 (by decide))
    refine lv_goto (tgt := 1724) S.1 S.2.1 dL_law_815 (by decide) ?_
    exact kont _ _ _ _ hR2 hI (lv_sub hl [2, 3, 4, 5, 6] rfl)
set_option maxRecDepth 100000 in
set_option maxHeartbeats 4000000 in
theorem lc_shelfOf (hst9 : l.stackTraces = false) (S : CallFix p m c cL_law 9 s args AL RL) (hI : Iv G σ s H locs) (hl : lv_has ls 9 [(0, .ref b), (1, .ref (gB G 0)), (2, .ref (gB G 3)), (3, .ref (gB G 8)), (4, .int (nI j))]) (hXs : va_X b L xs s s.heap) (hbl : b < s.heap.size) (hbA : ¬ gA G b) (hj9 : j + 3 < L) (hL9 : L ≤ 2048) (hR9 : Rel σ) (hF9 : 12 ≤ R.frames ∧ 440 ≤ R.locals) (hC9 : cells + 1 ≤ R.cells) (hS9 : slots + 6 ≤ R.slots) (kont : Kont p l e R s m args below meth c (cells + 1) (slots + 6) Q G b j) : W p l e R s m args below meth c H locs cells slots Q (F0 m 818 ls []) := by
  obtain ⟨k9, P9, hL1, hM1⟩ := pr_shelfOf l hst9 G σ hR9 (xs (j + 1))
  refine lv_aload_n S.1 S.2.1 dL_law_818 rfl (lv_at hl 1 rfl) ?_
  refine lv_aload_n S.1 S.2.1 dL_law_819 rfl (lv_at hl 0 rfl) ?_
  refine lv_iload S.1 S.2.1 dL_law_820 (lv_at hl 4 rfl) ?_
  refine lv_iconst (v := 1) S.1 S.2.1 dL_law_822 (by decide) ?_
  refine lv_iadd S.1 S.2.1 dL_law_823 ?_
  rw [show ((nI j) + 1) = (nI (j + 1)) from nI_1 j]
  refine sc_at S hI hXs hbl hbA (j := (j + 1)) (by omega) hL9 dL_law_824 ?_
  refine lv_aload_n S.1 S.2.1 dL_law_825 rfl (lv_at hl 3 rfl) ?_
  refine cl_i hI (rnL (As := [.ref (gB G 0), .int (xs (j + 1)), .ref (gB G 8)]) (rest := []) S hI hL1 (cwl_shelfOf S.2.2.2.2 ⟨by omega, by omega⟩) rfl hl.1 (Nat.le_of_ble_eq_true rfl) dL_law_826 ⟨by omega, by omega⟩) (fun r1 σ1 H locs hq1 hI => ?_)
  obtain ⟨hk1, hp1⟩ := hq1
  rw [hk1]
  obtain ⟨d9, hd9, hC4⟩ := hM1 σ1 hp1
  refine lv_istore (lv' := [(5, .int k9), (0, .ref b), (1, .ref (gB G 0)), (2, .ref (gB G 3)), (3, .ref (gB G 8)), (4, .int (nI j))]) S.1 S.2.1 dL_law_829 hl (by decide) rfl (fun ls hl => ?_)
  refine lv_aload_n S.1 S.2.1 dL_law_831 rfl (lv_at hl 3 rfl) ?_
  refine lv_aload_n S.1 S.2.1 dL_law_832 rfl (lv_at hl 1 rfl) ?_
  refine lv_iload S.1 S.2.1 dL_law_833 (lv_at hl 5 rfl) ?_
  refine lv_iconst (v := 1) S.1 S.2.1 dL_law_835 (by decide) ?_
  refine lv_iadd S.1 S.2.1 dL_law_836 ?_
  rw [show ((nI j) + 1) = (nI (j + 1)) from nI_1 j]
  refine sc_at S hI hXs hbl hbA (j := (j + 1)) (by omega) hL9 dL_law_837 ?_
  refine cl_i hI (rnV (As := [.int (xs (j + 1))]) (rest := []) S hI hC4 (cw_L_X4_shelfOf S.2.2.2.2 ⟨by omega, by omega⟩) (rcM hI) rfl hl.1 (Nat.le_of_ble_eq_true rfl) dL_law_838 ⟨by omega, by omega⟩) (fun r2 σ2 H locs hq2 hI => ?_)
  obtain ⟨ht2, ho2, hR2⟩ := hq2
  refine lv_istore (lv' := [(6, .int r2), (5, .int k9), (0, .ref b), (1, .ref (gB G 0)), (2, .ref (gB G 3)), (3, .ref (gB G 8)), (4, .int (nI j))]) S.1 S.2.1 dL_law_841 hl (by decide) rfl (fun ls hl => ?_)
  refine lv_aload_n S.1 S.2.1 dL_law_843 rfl (lv_at hl 4 rfl) ?_
  refine cl_i hI (rnV (As := []) (rest := []) S hI (c_thrown l G σ2 (th := (gM σ2).1) (np := (gM σ2).2.1) (mk := (gM σ2).2.2.1) (lf := (gM σ2).2.2.2.1) (nw := (gM σ2).2.2.2.2.1) (kp := (gM σ2).2.2.2.2.2) rfl) (cw_L_X4_thrown S.2.2.2.2 ⟨by omega, by omega⟩) (rcM hI) rfl hl.1 (Nat.le_of_ble_eq_true rfl) dL_law_844 ⟨by omega, by omega⟩) (fun r3 σ3 H locs hq3 hI => ?_)
  obtain ⟨hr3, hs3⟩ := hq3
  rw [hs3] at hI
  rw [hr3, ht2]
  refine lv_iload S.1 S.2.1 dL_law_847 (lv_at hl 1 rfl) ?_
  refine lv_icmp_eq (tgt := 854) S.1 S.2.1 dL_law_849 (by decide) (fun cz_849 => ?_) (fun c9 => absurd rfl c9)
  refine lv_iload S.1 S.2.1 dL_law_854 (lv_at hl 1 rfl) ?_
  refine lv_if_ne (tgt := 871) S.1 S.2.1 dL_law_856 (by decide) (fun cz_856 => ?_) (fun cz_856 => ?_)
  · refine lv_goto (tgt := 1724) S.1 S.2.1 dL_law_871 (by decide) ?_
    exact kont _ _ _ _ hR2 hI (lv_sub hl [2, 3, 4, 5, 6] rfl)
  · refine lv_aload_n S.1 S.2.1 dL_law_859 rfl (lv_at hl 5 rfl) ?_
    refine lv_iconst (v := 0) S.1 S.2.1 dL_law_860 (by decide) ?_
    refine a_out S hI dL_law_861 ?_
    refine lv_iload S.1 S.2.1 dL_law_862 (lv_at hl 0 rfl) ?_
    refine lv_i2l (v := r2.toInt64) S.1 S.2.1 dL_law_864 rfl ?_
    rw [ho2 cz_856]
    refine lw_lcmp S.1 S.2.1 dL_law_865 ?_
    refine lv_if_eq (tgt := 871) S.1 S.2.1 dL_law_866 (by decide) (fun _ => ?_) (fun c9 => absurd c9 (by decide))
    refine lv_goto (tgt := 1724) S.1 S.2.1 dL_law_871 (by decide) ?_
    exact kont _ _ _ _ hR2 hI (lv_sub hl [2, 3, 4, 5, 6] rfl)
set_option maxRecDepth 100000 in
set_option maxHeartbeats 4000000 in
theorem lc_heatOf (hst9 : l.stackTraces = false) (S : CallFix p m c cL_law 9 s args AL RL) (hI : Iv G σ s H locs) (hl : lv_has ls 9 [(0, .ref b), (1, .ref (gB G 0)), (2, .ref (gB G 3)), (3, .ref (gB G 8)), (4, .int (nI j))]) (hXs : va_X b L xs s s.heap) (hbl : b < s.heap.size) (hbA : ¬ gA G b) (hj9 : j + 3 < L) (hL9 : L ≤ 2048) (hR9 : Rel σ) (hF9 : 12 ≤ R.frames ∧ 440 ≤ R.locals) (hC9 : cells + 1 ≤ R.cells) (hS9 : slots + 6 ≤ R.slots) (kont : Kont p l e R s m args below meth c (cells + 1) (slots + 6) Q G b j) : W p l e R s m args below meth c H locs cells slots Q (F0 m 874 ls []) := by
  obtain ⟨k9, P9, hL1, hM1⟩ := pr_heatOf l hst9 G σ hR9 (xs (j + 1))
  refine lv_aload_n S.1 S.2.1 dL_law_874 rfl (lv_at hl 1 rfl) ?_
  refine lv_aload_n S.1 S.2.1 dL_law_875 rfl (lv_at hl 0 rfl) ?_
  refine lv_iload S.1 S.2.1 dL_law_876 (lv_at hl 4 rfl) ?_
  refine lv_iconst (v := 1) S.1 S.2.1 dL_law_878 (by decide) ?_
  refine lv_iadd S.1 S.2.1 dL_law_879 ?_
  rw [show ((nI j) + 1) = (nI (j + 1)) from nI_1 j]
  refine sc_at S hI hXs hbl hbA (j := (j + 1)) (by omega) hL9 dL_law_880 ?_
  refine lv_aload_n S.1 S.2.1 dL_law_881 rfl (lv_at hl 3 rfl) ?_
  refine cl_i hI (rnL (As := [.ref (gB G 0), .int (xs (j + 1)), .ref (gB G 8)]) (rest := []) S hI hL1 (cwl_heatOf S.2.2.2.2 ⟨by omega, by omega⟩) rfl hl.1 (Nat.le_of_ble_eq_true rfl) dL_law_882 ⟨by omega, by omega⟩) (fun r1 σ1 H locs hq1 hI => ?_)
  obtain ⟨hk1, hp1⟩ := hq1
  rw [hk1]
  obtain ⟨d9, hd9, hC4⟩ := hM1 σ1 hp1
  refine lv_istore (lv' := [(5, .int k9), (0, .ref b), (1, .ref (gB G 0)), (2, .ref (gB G 3)), (3, .ref (gB G 8)), (4, .int (nI j))]) S.1 S.2.1 dL_law_885 hl (by decide) rfl (fun ls hl => ?_)
  refine lv_aload_n S.1 S.2.1 dL_law_887 rfl (lv_at hl 3 rfl) ?_
  refine lv_aload_n S.1 S.2.1 dL_law_888 rfl (lv_at hl 1 rfl) ?_
  refine lv_iload S.1 S.2.1 dL_law_889 (lv_at hl 5 rfl) ?_
  refine lv_iconst (v := 1) S.1 S.2.1 dL_law_891 (by decide) ?_
  refine lv_iadd S.1 S.2.1 dL_law_892 ?_
  rw [show ((nI j) + 1) = (nI (j + 1)) from nI_1 j]
  refine sc_at S hI hXs hbl hbA (j := (j + 1)) (by omega) hL9 dL_law_893 ?_
  refine cl_i hI (rnV (As := [.int (xs (j + 1))]) (rest := []) S hI hC4 (cw_L_X4_heatOf S.2.2.2.2 ⟨by omega, by omega⟩) (rcM hI) rfl hl.1 (Nat.le_of_ble_eq_true rfl) dL_law_894 ⟨by omega, by omega⟩) (fun r2 σ2 H locs hq2 hI => ?_)
  obtain ⟨ht2, ho2, hR2⟩ := hq2
  refine lv_istore (lv' := [(6, .int r2), (5, .int k9), (0, .ref b), (1, .ref (gB G 0)), (2, .ref (gB G 3)), (3, .ref (gB G 8)), (4, .int (nI j))]) S.1 S.2.1 dL_law_897 hl (by decide) rfl (fun ls hl => ?_)
  refine lv_aload_n S.1 S.2.1 dL_law_899 rfl (lv_at hl 4 rfl) ?_
  refine cl_i hI (rnV (As := []) (rest := []) S hI (c_thrown l G σ2 (th := (gM σ2).1) (np := (gM σ2).2.1) (mk := (gM σ2).2.2.1) (lf := (gM σ2).2.2.2.1) (nw := (gM σ2).2.2.2.2.1) (kp := (gM σ2).2.2.2.2.2) rfl) (cw_L_X4_thrown S.2.2.2.2 ⟨by omega, by omega⟩) (rcM hI) rfl hl.1 (Nat.le_of_ble_eq_true rfl) dL_law_900 ⟨by omega, by omega⟩) (fun r3 σ3 H locs hq3 hI => ?_)
  obtain ⟨hr3, hs3⟩ := hq3
  rw [hs3] at hI
  rw [hr3, ht2]
  refine lv_iload S.1 S.2.1 dL_law_903 (lv_at hl 1 rfl) ?_
  refine lv_icmp_eq (tgt := 910) S.1 S.2.1 dL_law_905 (by decide) (fun cz_905 => ?_) (fun c9 => absurd rfl c9)
  refine lv_iload S.1 S.2.1 dL_law_910 (lv_at hl 1 rfl) ?_
  refine lv_if_ne (tgt := 927) S.1 S.2.1 dL_law_912 (by decide) (fun cz_912 => ?_) (fun cz_912 => ?_)
  · refine lv_goto (tgt := 1724) S.1 S.2.1 dL_law_927 (by decide) ?_
    exact kont _ _ _ _ hR2 hI (lv_sub hl [2, 3, 4, 5, 6] rfl)
  · refine lv_aload_n S.1 S.2.1 dL_law_915 rfl (lv_at hl 5 rfl) ?_
    refine lv_iconst (v := 0) S.1 S.2.1 dL_law_916 (by decide) ?_
    refine a_out S hI dL_law_917 ?_
    refine lv_iload S.1 S.2.1 dL_law_918 (lv_at hl 0 rfl) ?_
    refine lv_i2l (v := r2.toInt64) S.1 S.2.1 dL_law_920 rfl ?_
    rw [ho2 cz_912]
    refine lw_lcmp S.1 S.2.1 dL_law_921 ?_
    refine lv_if_eq (tgt := 927) S.1 S.2.1 dL_law_922 (by decide) (fun _ => ?_) (fun c9 => absurd c9 (by decide))
    refine lv_goto (tgt := 1724) S.1 S.2.1 dL_law_927 (by decide) ?_
    exact kont _ _ _ _ hR2 hI (lv_sub hl [2, 3, 4, 5, 6] rfl)
set_option maxRecDepth 100000 in
set_option maxHeartbeats 4000000 in
theorem lc_ageOf (hst9 : l.stackTraces = false) (S : CallFix p m c cL_law 9 s args AL RL) (hI : Iv G σ s H locs) (hl : lv_has ls 9 [(0, .ref b), (1, .ref (gB G 0)), (2, .ref (gB G 3)), (3, .ref (gB G 8)), (4, .int (nI j))]) (hXs : va_X b L xs s s.heap) (hbl : b < s.heap.size) (hbA : ¬ gA G b) (hj9 : j + 3 < L) (hL9 : L ≤ 2048) (hR9 : Rel σ) (hF9 : 12 ≤ R.frames ∧ 440 ≤ R.locals) (hC9 : cells + 1 ≤ R.cells) (hS9 : slots + 6 ≤ R.slots) (kont : Kont p l e R s m args below meth c (cells + 1) (slots + 6) Q G b j) : W p l e R s m args below meth c H locs cells slots Q (F0 m 930 ls []) := by
  obtain ⟨k9, P9, hL1, hM1⟩ := pr_ageOf l hst9 G σ hR9 (xs (j + 1))
  refine lv_aload_n S.1 S.2.1 dL_law_930 rfl (lv_at hl 1 rfl) ?_
  refine lv_aload_n S.1 S.2.1 dL_law_931 rfl (lv_at hl 0 rfl) ?_
  refine lv_iload S.1 S.2.1 dL_law_932 (lv_at hl 4 rfl) ?_
  refine lv_iconst (v := 1) S.1 S.2.1 dL_law_934 (by decide) ?_
  refine lv_iadd S.1 S.2.1 dL_law_935 ?_
  rw [show ((nI j) + 1) = (nI (j + 1)) from nI_1 j]
  refine sc_at S hI hXs hbl hbA (j := (j + 1)) (by omega) hL9 dL_law_936 ?_
  refine lv_aload_n S.1 S.2.1 dL_law_937 rfl (lv_at hl 3 rfl) ?_
  refine cl_i hI (rnL (As := [.ref (gB G 0), .int (xs (j + 1)), .ref (gB G 8)]) (rest := []) S hI hL1 (cwl_ageOf S.2.2.2.2 ⟨by omega, by omega⟩) rfl hl.1 (Nat.le_of_ble_eq_true rfl) dL_law_938 ⟨by omega, by omega⟩) (fun r1 σ1 H locs hq1 hI => ?_)
  obtain ⟨hk1, hp1⟩ := hq1
  rw [hk1]
  obtain ⟨d9, hd9, hC4⟩ := hM1 σ1 hp1
  refine lv_istore (lv' := [(5, .int k9), (0, .ref b), (1, .ref (gB G 0)), (2, .ref (gB G 3)), (3, .ref (gB G 8)), (4, .int (nI j))]) S.1 S.2.1 dL_law_941 hl (by decide) rfl (fun ls hl => ?_)
  refine lv_aload_n S.1 S.2.1 dL_law_943 rfl (lv_at hl 3 rfl) ?_
  refine lv_aload_n S.1 S.2.1 dL_law_944 rfl (lv_at hl 1 rfl) ?_
  refine lv_iload S.1 S.2.1 dL_law_945 (lv_at hl 5 rfl) ?_
  refine lv_iconst (v := 1) S.1 S.2.1 dL_law_947 (by decide) ?_
  refine lv_iadd S.1 S.2.1 dL_law_948 ?_
  rw [show ((nI j) + 1) = (nI (j + 1)) from nI_1 j]
  refine sc_at S hI hXs hbl hbA (j := (j + 1)) (by omega) hL9 dL_law_949 ?_
  refine cl_i hI (rnV (As := [.int (xs (j + 1))]) (rest := []) S hI hC4 (cw_L_X4_ageOf S.2.2.2.2 ⟨by omega, by omega⟩) (rcM hI) rfl hl.1 (Nat.le_of_ble_eq_true rfl) dL_law_950 ⟨by omega, by omega⟩) (fun r2 σ2 H locs hq2 hI => ?_)
  obtain ⟨ht2, ho2, hR2⟩ := hq2
  refine lv_istore (lv' := [(6, .int r2), (5, .int k9), (0, .ref b), (1, .ref (gB G 0)), (2, .ref (gB G 3)), (3, .ref (gB G 8)), (4, .int (nI j))]) S.1 S.2.1 dL_law_953 hl (by decide) rfl (fun ls hl => ?_)
  refine lv_aload_n S.1 S.2.1 dL_law_955 rfl (lv_at hl 4 rfl) ?_
  refine cl_i hI (rnV (As := []) (rest := []) S hI (c_thrown l G σ2 (th := (gM σ2).1) (np := (gM σ2).2.1) (mk := (gM σ2).2.2.1) (lf := (gM σ2).2.2.2.1) (nw := (gM σ2).2.2.2.2.1) (kp := (gM σ2).2.2.2.2.2) rfl) (cw_L_X4_thrown S.2.2.2.2 ⟨by omega, by omega⟩) (rcM hI) rfl hl.1 (Nat.le_of_ble_eq_true rfl) dL_law_956 ⟨by omega, by omega⟩) (fun r3 σ3 H locs hq3 hI => ?_)
  obtain ⟨hr3, hs3⟩ := hq3
  rw [hs3] at hI
  rw [hr3, ht2]
  refine lv_iload S.1 S.2.1 dL_law_959 (lv_at hl 1 rfl) ?_
  refine lv_icmp_eq (tgt := 966) S.1 S.2.1 dL_law_961 (by decide) (fun cz_961 => ?_) (fun c9 => absurd rfl c9)
  refine lv_iload S.1 S.2.1 dL_law_966 (lv_at hl 1 rfl) ?_
  refine lv_if_ne (tgt := 983) S.1 S.2.1 dL_law_968 (by decide) (fun cz_968 => ?_) (fun cz_968 => ?_)
  · refine lv_goto (tgt := 1724) S.1 S.2.1 dL_law_983 (by decide) ?_
    exact kont _ _ _ _ hR2 hI (lv_sub hl [2, 3, 4, 5, 6] rfl)
  · refine lv_aload_n S.1 S.2.1 dL_law_971 rfl (lv_at hl 5 rfl) ?_
    refine lv_iconst (v := 0) S.1 S.2.1 dL_law_972 (by decide) ?_
    refine a_out S hI dL_law_973 ?_
    refine lv_iload S.1 S.2.1 dL_law_974 (lv_at hl 0 rfl) ?_
    refine lv_i2l (v := r2.toInt64) S.1 S.2.1 dL_law_976 rfl ?_
    rw [ho2 cz_968]
    refine lw_lcmp S.1 S.2.1 dL_law_977 ?_
    refine lv_if_eq (tgt := 983) S.1 S.2.1 dL_law_978 (by decide) (fun _ => ?_) (fun c9 => absurd c9 (by decide))
    refine lv_goto (tgt := 1724) S.1 S.2.1 dL_law_983 (by decide) ?_
    exact kont _ _ _ _ hR2 hI (lv_sub hl [2, 3, 4, 5, 6] rfl)
set_option maxRecDepth 100000 in
set_option maxHeartbeats 4000000 in
theorem lc_hoursLeft (hst9 : l.stackTraces = false) (S : CallFix p m c cL_law 9 s args AL RL) (hI : Iv G σ s H locs) (hl : lv_has ls 9 [(0, .ref b), (1, .ref (gB G 0)), (2, .ref (gB G 3)), (3, .ref (gB G 8)), (4, .int (nI j))]) (hXs : va_X b L xs s s.heap) (hbl : b < s.heap.size) (hbA : ¬ gA G b) (hj9 : j + 3 < L) (hL9 : L ≤ 2048) (hR9 : Rel σ) (hF9 : 12 ≤ R.frames ∧ 440 ≤ R.locals) (hC9 : cells + 1 ≤ R.cells) (hS9 : slots + 6 ≤ R.slots) (kont : Kont p l e R s m args below meth c (cells + 1) (slots + 6) Q G b j) : W p l e R s m args below meth c H locs cells slots Q (F0 m 986 ls []) := by
  obtain ⟨k9, P9, hL1, hM1⟩ := pr_hoursLeft l hst9 G σ hR9 (xs (j + 1))
  refine lv_aload_n S.1 S.2.1 dL_law_986 rfl (lv_at hl 1 rfl) ?_
  refine lv_aload_n S.1 S.2.1 dL_law_987 rfl (lv_at hl 0 rfl) ?_
  refine lv_iload S.1 S.2.1 dL_law_988 (lv_at hl 4 rfl) ?_
  refine lv_iconst (v := 1) S.1 S.2.1 dL_law_990 (by decide) ?_
  refine lv_iadd S.1 S.2.1 dL_law_991 ?_
  rw [show ((nI j) + 1) = (nI (j + 1)) from nI_1 j]
  refine sc_at S hI hXs hbl hbA (j := (j + 1)) (by omega) hL9 dL_law_992 ?_
  refine lv_aload_n S.1 S.2.1 dL_law_993 rfl (lv_at hl 3 rfl) ?_
  refine cl_i hI (rnL (As := [.ref (gB G 0), .int (xs (j + 1)), .ref (gB G 8)]) (rest := []) S hI hL1 (cwl_hoursLeft S.2.2.2.2 ⟨by omega, by omega⟩) rfl hl.1 (Nat.le_of_ble_eq_true rfl) dL_law_994 ⟨by omega, by omega⟩) (fun r1 σ1 H locs hq1 hI => ?_)
  obtain ⟨hk1, hp1⟩ := hq1
  rw [hk1]
  obtain ⟨d9, hd9, hC4⟩ := hM1 σ1 hp1
  refine lv_istore (lv' := [(5, .int k9), (0, .ref b), (1, .ref (gB G 0)), (2, .ref (gB G 3)), (3, .ref (gB G 8)), (4, .int (nI j))]) S.1 S.2.1 dL_law_997 hl (by decide) rfl (fun ls hl => ?_)
  refine lv_aload_n S.1 S.2.1 dL_law_999 rfl (lv_at hl 3 rfl) ?_
  refine lv_aload_n S.1 S.2.1 dL_law_1000 rfl (lv_at hl 1 rfl) ?_
  refine lv_iload S.1 S.2.1 dL_law_1001 (lv_at hl 5 rfl) ?_
  refine lv_iconst (v := 1) S.1 S.2.1 dL_law_1003 (by decide) ?_
  refine lv_iadd S.1 S.2.1 dL_law_1004 ?_
  rw [show ((nI j) + 1) = (nI (j + 1)) from nI_1 j]
  refine sc_at S hI hXs hbl hbA (j := (j + 1)) (by omega) hL9 dL_law_1005 ?_
  refine cl_i hI (rnV (As := [.int (xs (j + 1))]) (rest := []) S hI hC4 (cw_L_X4_hoursLeft S.2.2.2.2 ⟨by omega, by omega⟩) (rcM hI) rfl hl.1 (Nat.le_of_ble_eq_true rfl) dL_law_1006 ⟨by omega, by omega⟩) (fun r2 σ2 H locs hq2 hI => ?_)
  obtain ⟨ht2, ho2, hR2⟩ := hq2
  refine lv_istore (lv' := [(6, .int r2), (5, .int k9), (0, .ref b), (1, .ref (gB G 0)), (2, .ref (gB G 3)), (3, .ref (gB G 8)), (4, .int (nI j))]) S.1 S.2.1 dL_law_1009 hl (by decide) rfl (fun ls hl => ?_)
  refine lv_aload_n S.1 S.2.1 dL_law_1011 rfl (lv_at hl 4 rfl) ?_
  refine cl_i hI (rnV (As := []) (rest := []) S hI (c_thrown l G σ2 (th := (gM σ2).1) (np := (gM σ2).2.1) (mk := (gM σ2).2.2.1) (lf := (gM σ2).2.2.2.1) (nw := (gM σ2).2.2.2.2.1) (kp := (gM σ2).2.2.2.2.2) rfl) (cw_L_X4_thrown S.2.2.2.2 ⟨by omega, by omega⟩) (rcM hI) rfl hl.1 (Nat.le_of_ble_eq_true rfl) dL_law_1012 ⟨by omega, by omega⟩) (fun r3 σ3 H locs hq3 hI => ?_)
  obtain ⟨hr3, hs3⟩ := hq3
  rw [hs3] at hI
  rw [hr3, ht2]
  refine lv_iload S.1 S.2.1 dL_law_1015 (lv_at hl 1 rfl) ?_
  refine lv_icmp_eq (tgt := 1022) S.1 S.2.1 dL_law_1017 (by decide) (fun cz_1017 => ?_) (fun c9 => absurd rfl c9)
  refine lv_iload S.1 S.2.1 dL_law_1022 (lv_at hl 1 rfl) ?_
  refine lv_if_ne (tgt := 1039) S.1 S.2.1 dL_law_1024 (by decide) (fun cz_1024 => ?_) (fun cz_1024 => ?_)
  · refine lv_goto (tgt := 1724) S.1 S.2.1 dL_law_1039 (by decide) ?_
    exact kont _ _ _ _ hR2 hI (lv_sub hl [2, 3, 4, 5, 6] rfl)
  · refine lv_aload_n S.1 S.2.1 dL_law_1027 rfl (lv_at hl 5 rfl) ?_
    refine lv_iconst (v := 0) S.1 S.2.1 dL_law_1028 (by decide) ?_
    refine a_out S hI dL_law_1029 ?_
    refine lv_iload S.1 S.2.1 dL_law_1030 (lv_at hl 0 rfl) ?_
    refine lv_i2l (v := r2.toInt64) S.1 S.2.1 dL_law_1032 rfl ?_
    rw [ho2 cz_1024]
    refine lw_lcmp S.1 S.2.1 dL_law_1033 ?_
    refine lv_if_eq (tgt := 1039) S.1 S.2.1 dL_law_1034 (by decide) (fun _ => ?_) (fun c9 => absurd c9 (by decide))
    refine lv_goto (tgt := 1724) S.1 S.2.1 dL_law_1039 (by decide) ?_
    exact kont _ _ _ _ hR2 hI (lv_sub hl [2, 3, 4, 5, 6] rfl)
set_option maxRecDepth 100000 in
set_option maxHeartbeats 4000000 in
theorem lc_owedBy (hst9 : l.stackTraces = false) (S : CallFix p m c cL_law 9 s args AL RL) (hI : Iv G σ s H locs) (hl : lv_has ls 9 [(0, .ref b), (1, .ref (gB G 0)), (2, .ref (gB G 3)), (3, .ref (gB G 8)), (4, .int (nI j))]) (hXs : va_X b L xs s s.heap) (hbl : b < s.heap.size) (hbA : ¬ gA G b) (hj9 : j + 3 < L) (hL9 : L ≤ 2048) (hR9 : Rel σ) (hF9 : 12 ≤ R.frames ∧ 440 ≤ R.locals) (hC9 : cells + 1 ≤ R.cells) (hS9 : slots + 6 ≤ R.slots) (kont : Kont p l e R s m args below meth c (cells + 1) (slots + 6) Q G b j) : W p l e R s m args below meth c H locs cells slots Q (F0 m 1294 ls []) := by
  obtain ⟨k9, P9, hL1, hM1⟩ := pr_owedBy l hst9 G σ hR9 (xs (j + 1))
  refine lv_aload_n S.1 S.2.1 dL_law_1294 rfl (lv_at hl 1 rfl) ?_
  refine lv_aload_n S.1 S.2.1 dL_law_1295 rfl (lv_at hl 0 rfl) ?_
  refine lv_iload S.1 S.2.1 dL_law_1296 (lv_at hl 4 rfl) ?_
  refine lv_iconst (v := 1) S.1 S.2.1 dL_law_1298 (by decide) ?_
  refine lv_iadd S.1 S.2.1 dL_law_1299 ?_
  rw [show ((nI j) + 1) = (nI (j + 1)) from nI_1 j]
  refine sc_at S hI hXs hbl hbA (j := (j + 1)) (by omega) hL9 dL_law_1300 ?_
  refine lv_aload_n S.1 S.2.1 dL_law_1301 rfl (lv_at hl 3 rfl) ?_
  refine cl_i hI (rnL (As := [.ref (gB G 0), .int (xs (j + 1)), .ref (gB G 8)]) (rest := []) S hI hL1 (cwl_owedBy S.2.2.2.2 ⟨by omega, by omega⟩) rfl hl.1 (Nat.le_of_ble_eq_true rfl) dL_law_1302 ⟨by omega, by omega⟩) (fun r1 σ1 H locs hq1 hI => ?_)
  obtain ⟨hk1, hp1⟩ := hq1
  rw [hk1]
  obtain ⟨d9, hd9, hC4⟩ := hM1 σ1 hp1
  refine lv_istore (lv' := [(5, .int k9), (0, .ref b), (1, .ref (gB G 0)), (2, .ref (gB G 3)), (3, .ref (gB G 8)), (4, .int (nI j))]) S.1 S.2.1 dL_law_1305 hl (by decide) rfl (fun ls hl => ?_)
  refine lv_aload_n S.1 S.2.1 dL_law_1307 rfl (lv_at hl 3 rfl) ?_
  refine lv_aload_n S.1 S.2.1 dL_law_1308 rfl (lv_at hl 1 rfl) ?_
  refine lv_iload S.1 S.2.1 dL_law_1309 (lv_at hl 5 rfl) ?_
  refine lv_iconst (v := 1) S.1 S.2.1 dL_law_1311 (by decide) ?_
  refine lv_iadd S.1 S.2.1 dL_law_1312 ?_
  rw [show ((nI j) + 1) = (nI (j + 1)) from nI_1 j]
  refine sc_at S hI hXs hbl hbA (j := (j + 1)) (by omega) hL9 dL_law_1313 ?_
  refine cl_i hI (rnV (As := [.int (xs (j + 1))]) (rest := []) S hI hC4 (cw_L_X4_owedBy S.2.2.2.2 ⟨by omega, by omega⟩) (rcM hI) rfl hl.1 (Nat.le_of_ble_eq_true rfl) dL_law_1314 ⟨by omega, by omega⟩) (fun r2 σ2 H locs hq2 hI => ?_)
  obtain ⟨ht2, ho2, hR2⟩ := hq2
  refine lv_istore (lv' := [(6, .int r2), (5, .int k9), (0, .ref b), (1, .ref (gB G 0)), (2, .ref (gB G 3)), (3, .ref (gB G 8)), (4, .int (nI j))]) S.1 S.2.1 dL_law_1317 hl (by decide) rfl (fun ls hl => ?_)
  refine lv_aload_n S.1 S.2.1 dL_law_1319 rfl (lv_at hl 4 rfl) ?_
  refine cl_i hI (rnV (As := []) (rest := []) S hI (c_thrown l G σ2 (th := (gM σ2).1) (np := (gM σ2).2.1) (mk := (gM σ2).2.2.1) (lf := (gM σ2).2.2.2.1) (nw := (gM σ2).2.2.2.2.1) (kp := (gM σ2).2.2.2.2.2) rfl) (cw_L_X4_thrown S.2.2.2.2 ⟨by omega, by omega⟩) (rcM hI) rfl hl.1 (Nat.le_of_ble_eq_true rfl) dL_law_1320 ⟨by omega, by omega⟩) (fun r3 σ3 H locs hq3 hI => ?_)
  obtain ⟨hr3, hs3⟩ := hq3
  rw [hs3] at hI
  rw [hr3, ht2]
  refine lv_iload S.1 S.2.1 dL_law_1323 (lv_at hl 1 rfl) ?_
  refine lv_icmp_eq (tgt := 1330) S.1 S.2.1 dL_law_1325 (by decide) (fun cz_1325 => ?_) (fun c9 => absurd rfl c9)
  refine lv_iload S.1 S.2.1 dL_law_1330 (lv_at hl 1 rfl) ?_
  refine lv_if_ne (tgt := 1347) S.1 S.2.1 dL_law_1332 (by decide) (fun cz_1332 => ?_) (fun cz_1332 => ?_)
  · refine lv_goto (tgt := 1724) S.1 S.2.1 dL_law_1347 (by decide) ?_
    exact kont _ _ _ _ hR2 hI (lv_sub hl [2, 3, 4, 5, 6] rfl)
  · refine lv_aload_n S.1 S.2.1 dL_law_1335 rfl (lv_at hl 5 rfl) ?_
    refine lv_iconst (v := 0) S.1 S.2.1 dL_law_1336 (by decide) ?_
    refine a_out S hI dL_law_1337 ?_
    refine lv_iload S.1 S.2.1 dL_law_1338 (lv_at hl 0 rfl) ?_
    refine lv_i2l (v := r2.toInt64) S.1 S.2.1 dL_law_1340 rfl ?_
    rw [ho2 cz_1332]
    refine lw_lcmp S.1 S.2.1 dL_law_1341 ?_
    refine lv_if_eq (tgt := 1347) S.1 S.2.1 dL_law_1342 (by decide) (fun _ => ?_) (fun c9 => absurd c9 (by decide))
    refine lv_goto (tgt := 1724) S.1 S.2.1 dL_law_1347 (by decide) ?_
    exact kont _ _ _ _ hR2 hI (lv_sub hl [2, 3, 4, 5, 6] rfl)
set_option maxRecDepth 100000 in
set_option maxHeartbeats 4000000 in
theorem lc_honourOf (hst9 : l.stackTraces = false) (S : CallFix p m c cL_law 9 s args AL RL) (hI : Iv G σ s H locs) (hl : lv_has ls 9 [(0, .ref b), (1, .ref (gB G 0)), (2, .ref (gB G 3)), (3, .ref (gB G 8)), (4, .int (nI j))]) (hXs : va_X b L xs s s.heap) (hbl : b < s.heap.size) (hbA : ¬ gA G b) (hj9 : j + 3 < L) (hL9 : L ≤ 2048) (hR9 : Rel σ) (hF9 : 12 ≤ R.frames ∧ 440 ≤ R.locals) (hC9 : cells + 1 ≤ R.cells) (hS9 : slots + 6 ≤ R.slots) (kont : Kont p l e R s m args below meth c (cells + 1) (slots + 6) Q G b j) : W p l e R s m args below meth c H locs cells slots Q (F0 m 1350 ls []) := by
  obtain ⟨k9, P9, hL1, hM1⟩ := pr_honourOf l hst9 G σ hR9 (xs (j + 1))
  refine lv_aload_n S.1 S.2.1 dL_law_1350 rfl (lv_at hl 1 rfl) ?_
  refine lv_aload_n S.1 S.2.1 dL_law_1351 rfl (lv_at hl 0 rfl) ?_
  refine lv_iload S.1 S.2.1 dL_law_1352 (lv_at hl 4 rfl) ?_
  refine lv_iconst (v := 1) S.1 S.2.1 dL_law_1354 (by decide) ?_
  refine lv_iadd S.1 S.2.1 dL_law_1355 ?_
  rw [show ((nI j) + 1) = (nI (j + 1)) from nI_1 j]
  refine sc_at S hI hXs hbl hbA (j := (j + 1)) (by omega) hL9 dL_law_1356 ?_
  refine lv_aload_n S.1 S.2.1 dL_law_1357 rfl (lv_at hl 3 rfl) ?_
  refine cl_i hI (rnL (As := [.ref (gB G 0), .int (xs (j + 1)), .ref (gB G 8)]) (rest := []) S hI hL1 (cwl_honourOf S.2.2.2.2 ⟨by omega, by omega⟩) rfl hl.1 (Nat.le_of_ble_eq_true rfl) dL_law_1358 ⟨by omega, by omega⟩) (fun r1 σ1 H locs hq1 hI => ?_)
  obtain ⟨hk1, hp1⟩ := hq1
  rw [hk1]
  obtain ⟨d9, hd9, hC4⟩ := hM1 σ1 hp1
  refine lv_istore (lv' := [(5, .int k9), (0, .ref b), (1, .ref (gB G 0)), (2, .ref (gB G 3)), (3, .ref (gB G 8)), (4, .int (nI j))]) S.1 S.2.1 dL_law_1361 hl (by decide) rfl (fun ls hl => ?_)
  refine lv_aload_n S.1 S.2.1 dL_law_1363 rfl (lv_at hl 3 rfl) ?_
  refine lv_aload_n S.1 S.2.1 dL_law_1364 rfl (lv_at hl 1 rfl) ?_
  refine lv_iload S.1 S.2.1 dL_law_1365 (lv_at hl 5 rfl) ?_
  refine lv_iconst (v := 1) S.1 S.2.1 dL_law_1367 (by decide) ?_
  refine lv_iadd S.1 S.2.1 dL_law_1368 ?_
  rw [show ((nI j) + 1) = (nI (j + 1)) from nI_1 j]
  refine sc_at S hI hXs hbl hbA (j := (j + 1)) (by omega) hL9 dL_law_1369 ?_
  refine cl_i hI (rnV (As := [.int (xs (j + 1))]) (rest := []) S hI hC4 (cw_L_X4_honourOf S.2.2.2.2 ⟨by omega, by omega⟩) (rcM hI) rfl hl.1 (Nat.le_of_ble_eq_true rfl) dL_law_1370 ⟨by omega, by omega⟩) (fun r2 σ2 H locs hq2 hI => ?_)
  obtain ⟨ht2, ho2, hR2⟩ := hq2
  refine lv_istore (lv' := [(6, .int r2), (5, .int k9), (0, .ref b), (1, .ref (gB G 0)), (2, .ref (gB G 3)), (3, .ref (gB G 8)), (4, .int (nI j))]) S.1 S.2.1 dL_law_1373 hl (by decide) rfl (fun ls hl => ?_)
  refine lv_aload_n S.1 S.2.1 dL_law_1375 rfl (lv_at hl 4 rfl) ?_
  refine cl_i hI (rnV (As := []) (rest := []) S hI (c_thrown l G σ2 (th := (gM σ2).1) (np := (gM σ2).2.1) (mk := (gM σ2).2.2.1) (lf := (gM σ2).2.2.2.1) (nw := (gM σ2).2.2.2.2.1) (kp := (gM σ2).2.2.2.2.2) rfl) (cw_L_X4_thrown S.2.2.2.2 ⟨by omega, by omega⟩) (rcM hI) rfl hl.1 (Nat.le_of_ble_eq_true rfl) dL_law_1376 ⟨by omega, by omega⟩) (fun r3 σ3 H locs hq3 hI => ?_)
  obtain ⟨hr3, hs3⟩ := hq3
  rw [hs3] at hI
  rw [hr3, ht2]
  refine lv_iload S.1 S.2.1 dL_law_1379 (lv_at hl 1 rfl) ?_
  refine lv_icmp_eq (tgt := 1386) S.1 S.2.1 dL_law_1381 (by decide) (fun cz_1381 => ?_) (fun c9 => absurd rfl c9)
  refine lv_iload S.1 S.2.1 dL_law_1386 (lv_at hl 1 rfl) ?_
  refine lv_if_ne (tgt := 1403) S.1 S.2.1 dL_law_1388 (by decide) (fun cz_1388 => ?_) (fun cz_1388 => ?_)
  · refine lv_goto (tgt := 1724) S.1 S.2.1 dL_law_1403 (by decide) ?_
    exact kont _ _ _ _ hR2 hI (lv_sub hl [2, 3, 4, 5, 6] rfl)
  · refine lv_aload_n S.1 S.2.1 dL_law_1391 rfl (lv_at hl 5 rfl) ?_
    refine lv_iconst (v := 0) S.1 S.2.1 dL_law_1392 (by decide) ?_
    refine a_out S hI dL_law_1393 ?_
    refine lv_iload S.1 S.2.1 dL_law_1394 (lv_at hl 0 rfl) ?_
    refine lv_i2l (v := r2.toInt64) S.1 S.2.1 dL_law_1396 rfl ?_
    rw [ho2 cz_1388]
    refine lw_lcmp S.1 S.2.1 dL_law_1397 ?_
    refine lv_if_eq (tgt := 1403) S.1 S.2.1 dL_law_1398 (by decide) (fun _ => ?_) (fun c9 => absurd c9 (by decide))
    refine lv_goto (tgt := 1724) S.1 S.2.1 dL_law_1403 (by decide) ?_
    exact kont _ _ _ _ hR2 hI (lv_sub hl [2, 3, 4, 5, 6] rfl)
set_option maxRecDepth 100000 in
set_option maxHeartbeats 4000000 in
theorem lc_hoursUntilFrozen (hst9 : l.stackTraces = false) (S : CallFix p m c cL_law 9 s args AL RL) (hI : Iv G σ s H locs) (hl : lv_has ls 9 [(0, .ref b), (1, .ref (gB G 0)), (2, .ref (gB G 3)), (3, .ref (gB G 8)), (4, .int (nI j))]) (hXs : va_X b L xs s s.heap) (hbl : b < s.heap.size) (hbA : ¬ gA G b) (hj9 : j + 3 < L) (hL9 : L ≤ 2048) (hR9 : Rel σ) (hF9 : 12 ≤ R.frames ∧ 440 ≤ R.locals) (hC9 : cells + 1 ≤ R.cells) (hS9 : slots + 6 ≤ R.slots) (kont : Kont p l e R s m args below meth c (cells + 1) (slots + 6) Q G b j) : W p l e R s m args below meth c H locs cells slots Q (F0 m 1419 ls []) := by
  obtain ⟨k9, P9, hL1, hM1⟩ := pr_hoursUntilFrozen l hst9 G σ hR9 (xs (j + 1))
  refine lv_aload_n S.1 S.2.1 dL_law_1419 rfl (lv_at hl 1 rfl) ?_
  refine lv_aload_n S.1 S.2.1 dL_law_1420 rfl (lv_at hl 0 rfl) ?_
  refine lv_iload S.1 S.2.1 dL_law_1421 (lv_at hl 4 rfl) ?_
  refine lv_iconst (v := 1) S.1 S.2.1 dL_law_1423 (by decide) ?_
  refine lv_iadd S.1 S.2.1 dL_law_1424 ?_
  rw [show ((nI j) + 1) = (nI (j + 1)) from nI_1 j]
  refine sc_at S hI hXs hbl hbA (j := (j + 1)) (by omega) hL9 dL_law_1425 ?_
  refine lv_aload_n S.1 S.2.1 dL_law_1426 rfl (lv_at hl 3 rfl) ?_
  refine cl_i hI (rnL (As := [.ref (gB G 0), .int (xs (j + 1)), .ref (gB G 8)]) (rest := []) S hI hL1 (cwl_hoursUntilFrozen S.2.2.2.2 ⟨by omega, by omega⟩) rfl hl.1 (Nat.le_of_ble_eq_true rfl) dL_law_1427 ⟨by omega, by omega⟩) (fun r1 σ1 H locs hq1 hI => ?_)
  obtain ⟨hk1, hp1⟩ := hq1
  rw [hk1]
  obtain ⟨d9, hd9, hC4⟩ := hM1 σ1 hp1
  refine lv_istore (lv' := [(5, .int k9), (0, .ref b), (1, .ref (gB G 0)), (2, .ref (gB G 3)), (3, .ref (gB G 8)), (4, .int (nI j))]) S.1 S.2.1 dL_law_1430 hl (by decide) rfl (fun ls hl => ?_)
  refine lv_aload_n S.1 S.2.1 dL_law_1432 rfl (lv_at hl 3 rfl) ?_
  refine lv_aload_n S.1 S.2.1 dL_law_1433 rfl (lv_at hl 1 rfl) ?_
  refine lv_iload S.1 S.2.1 dL_law_1434 (lv_at hl 5 rfl) ?_
  refine lv_iconst (v := 1) S.1 S.2.1 dL_law_1436 (by decide) ?_
  refine lv_iadd S.1 S.2.1 dL_law_1437 ?_
  rw [show ((nI j) + 1) = (nI (j + 1)) from nI_1 j]
  refine sc_at S hI hXs hbl hbA (j := (j + 1)) (by omega) hL9 dL_law_1438 ?_
  refine cl_i hI (rnV (As := [.int (xs (j + 1))]) (rest := []) S hI hC4 (cw_L_X4_hoursUntilFrozen S.2.2.2.2 ⟨by omega, by omega⟩) (rcM hI) rfl hl.1 (Nat.le_of_ble_eq_true rfl) dL_law_1439 ⟨by omega, by omega⟩) (fun r2 σ2 H locs hq2 hI => ?_)
  obtain ⟨ht2, ho2, hR2⟩ := hq2
  refine lv_istore (lv' := [(6, .int r2), (5, .int k9), (0, .ref b), (1, .ref (gB G 0)), (2, .ref (gB G 3)), (3, .ref (gB G 8)), (4, .int (nI j))]) S.1 S.2.1 dL_law_1442 hl (by decide) rfl (fun ls hl => ?_)
  refine lv_aload_n S.1 S.2.1 dL_law_1444 rfl (lv_at hl 4 rfl) ?_
  refine cl_i hI (rnV (As := []) (rest := []) S hI (c_thrown l G σ2 (th := (gM σ2).1) (np := (gM σ2).2.1) (mk := (gM σ2).2.2.1) (lf := (gM σ2).2.2.2.1) (nw := (gM σ2).2.2.2.2.1) (kp := (gM σ2).2.2.2.2.2) rfl) (cw_L_X4_thrown S.2.2.2.2 ⟨by omega, by omega⟩) (rcM hI) rfl hl.1 (Nat.le_of_ble_eq_true rfl) dL_law_1445 ⟨by omega, by omega⟩) (fun r3 σ3 H locs hq3 hI => ?_)
  obtain ⟨hr3, hs3⟩ := hq3
  rw [hs3] at hI
  rw [hr3, ht2]
  refine lv_iload S.1 S.2.1 dL_law_1448 (lv_at hl 1 rfl) ?_
  refine lv_icmp_eq (tgt := 1455) S.1 S.2.1 dL_law_1450 (by decide) (fun cz_1450 => ?_) (fun c9 => absurd rfl c9)
  refine lv_iload S.1 S.2.1 dL_law_1455 (lv_at hl 1 rfl) ?_
  refine lv_if_ne (tgt := 1472) S.1 S.2.1 dL_law_1457 (by decide) (fun cz_1457 => ?_) (fun cz_1457 => ?_)
  · refine lv_goto (tgt := 1724) S.1 S.2.1 dL_law_1472 (by decide) ?_
    exact kont _ _ _ _ hR2 hI (lv_sub hl [2, 3, 4, 5, 6] rfl)
  · refine lv_aload_n S.1 S.2.1 dL_law_1460 rfl (lv_at hl 5 rfl) ?_
    refine lv_iconst (v := 0) S.1 S.2.1 dL_law_1461 (by decide) ?_
    refine a_out S hI dL_law_1462 ?_
    refine lv_iload S.1 S.2.1 dL_law_1463 (lv_at hl 0 rfl) ?_
    refine lv_i2l (v := r2.toInt64) S.1 S.2.1 dL_law_1465 rfl ?_
    rw [ho2 cz_1457]
    refine lw_lcmp S.1 S.2.1 dL_law_1466 ?_
    refine lv_if_eq (tgt := 1472) S.1 S.2.1 dL_law_1467 (by decide) (fun _ => ?_) (fun c9 => absurd c9 (by decide))
    refine lv_goto (tgt := 1724) S.1 S.2.1 dL_law_1472 (by decide) ?_
    exact kont _ _ _ _ hR2 hI (lv_sub hl [2, 3, 4, 5, 6] rfl)
set_option maxRecDepth 100000 in
set_option maxHeartbeats 4000000 in
theorem lc_hoursUntilThawed (hst9 : l.stackTraces = false) (S : CallFix p m c cL_law 9 s args AL RL) (hI : Iv G σ s H locs) (hl : lv_has ls 9 [(0, .ref b), (1, .ref (gB G 0)), (2, .ref (gB G 3)), (3, .ref (gB G 8)), (4, .int (nI j))]) (hXs : va_X b L xs s s.heap) (hbl : b < s.heap.size) (hbA : ¬ gA G b) (hj9 : j + 3 < L) (hL9 : L ≤ 2048) (hR9 : Rel σ) (hF9 : 12 ≤ R.frames ∧ 440 ≤ R.locals) (hC9 : cells + 1 ≤ R.cells) (hS9 : slots + 6 ≤ R.slots) (kont : Kont p l e R s m args below meth c (cells + 1) (slots + 6) Q G b j) : W p l e R s m args below meth c H locs cells slots Q (F0 m 1475 ls []) := by
  obtain ⟨k9, P9, hL1, hM1⟩ := pr_hoursUntilThawed l hst9 G σ hR9 (xs (j + 1))
  refine lv_aload_n S.1 S.2.1 dL_law_1475 rfl (lv_at hl 1 rfl) ?_
  refine lv_aload_n S.1 S.2.1 dL_law_1476 rfl (lv_at hl 0 rfl) ?_
  refine lv_iload S.1 S.2.1 dL_law_1477 (lv_at hl 4 rfl) ?_
  refine lv_iconst (v := 1) S.1 S.2.1 dL_law_1479 (by decide) ?_
  refine lv_iadd S.1 S.2.1 dL_law_1480 ?_
  rw [show ((nI j) + 1) = (nI (j + 1)) from nI_1 j]
  refine sc_at S hI hXs hbl hbA (j := (j + 1)) (by omega) hL9 dL_law_1481 ?_
  refine lv_aload_n S.1 S.2.1 dL_law_1482 rfl (lv_at hl 3 rfl) ?_
  refine cl_i hI (rnL (As := [.ref (gB G 0), .int (xs (j + 1)), .ref (gB G 8)]) (rest := []) S hI hL1 (cwl_hoursUntilThawed S.2.2.2.2 ⟨by omega, by omega⟩) rfl hl.1 (Nat.le_of_ble_eq_true rfl) dL_law_1483 ⟨by omega, by omega⟩) (fun r1 σ1 H locs hq1 hI => ?_)
  obtain ⟨hk1, hp1⟩ := hq1
  rw [hk1]
  obtain ⟨d9, hd9, hC4⟩ := hM1 σ1 hp1
  refine lv_istore (lv' := [(5, .int k9), (0, .ref b), (1, .ref (gB G 0)), (2, .ref (gB G 3)), (3, .ref (gB G 8)), (4, .int (nI j))]) S.1 S.2.1 dL_law_1486 hl (by decide) rfl (fun ls hl => ?_)
  refine lv_aload_n S.1 S.2.1 dL_law_1488 rfl (lv_at hl 3 rfl) ?_
  refine lv_aload_n S.1 S.2.1 dL_law_1489 rfl (lv_at hl 1 rfl) ?_
  refine lv_iload S.1 S.2.1 dL_law_1490 (lv_at hl 5 rfl) ?_
  refine lv_iconst (v := 1) S.1 S.2.1 dL_law_1492 (by decide) ?_
  refine lv_iadd S.1 S.2.1 dL_law_1493 ?_
  rw [show ((nI j) + 1) = (nI (j + 1)) from nI_1 j]
  refine sc_at S hI hXs hbl hbA (j := (j + 1)) (by omega) hL9 dL_law_1494 ?_
  refine cl_i hI (rnV (As := [.int (xs (j + 1))]) (rest := []) S hI hC4 (cw_L_X4_hoursUntilThawed S.2.2.2.2 ⟨by omega, by omega⟩) (rcM hI) rfl hl.1 (Nat.le_of_ble_eq_true rfl) dL_law_1495 ⟨by omega, by omega⟩) (fun r2 σ2 H locs hq2 hI => ?_)
  obtain ⟨ht2, ho2, hR2⟩ := hq2
  refine lv_istore (lv' := [(6, .int r2), (5, .int k9), (0, .ref b), (1, .ref (gB G 0)), (2, .ref (gB G 3)), (3, .ref (gB G 8)), (4, .int (nI j))]) S.1 S.2.1 dL_law_1498 hl (by decide) rfl (fun ls hl => ?_)
  refine lv_aload_n S.1 S.2.1 dL_law_1500 rfl (lv_at hl 4 rfl) ?_
  refine cl_i hI (rnV (As := []) (rest := []) S hI (c_thrown l G σ2 (th := (gM σ2).1) (np := (gM σ2).2.1) (mk := (gM σ2).2.2.1) (lf := (gM σ2).2.2.2.1) (nw := (gM σ2).2.2.2.2.1) (kp := (gM σ2).2.2.2.2.2) rfl) (cw_L_X4_thrown S.2.2.2.2 ⟨by omega, by omega⟩) (rcM hI) rfl hl.1 (Nat.le_of_ble_eq_true rfl) dL_law_1501 ⟨by omega, by omega⟩) (fun r3 σ3 H locs hq3 hI => ?_)
  obtain ⟨hr3, hs3⟩ := hq3
  rw [hs3] at hI
  rw [hr3, ht2]
  refine lv_iload S.1 S.2.1 dL_law_1504 (lv_at hl 1 rfl) ?_
  refine lv_icmp_eq (tgt := 1511) S.1 S.2.1 dL_law_1506 (by decide) (fun cz_1506 => ?_) (fun c9 => absurd rfl c9)
  refine lv_iload S.1 S.2.1 dL_law_1511 (lv_at hl 1 rfl) ?_
  refine lv_if_ne (tgt := 1528) S.1 S.2.1 dL_law_1513 (by decide) (fun cz_1513 => ?_) (fun cz_1513 => ?_)
  · refine lv_goto (tgt := 1724) S.1 S.2.1 dL_law_1528 (by decide) ?_
    exact kont _ _ _ _ hR2 hI (lv_sub hl [2, 3, 4, 5, 6] rfl)
  · refine lv_aload_n S.1 S.2.1 dL_law_1516 rfl (lv_at hl 5 rfl) ?_
    refine lv_iconst (v := 0) S.1 S.2.1 dL_law_1517 (by decide) ?_
    refine a_out S hI dL_law_1518 ?_
    refine lv_iload S.1 S.2.1 dL_law_1519 (lv_at hl 0 rfl) ?_
    refine lv_i2l (v := r2.toInt64) S.1 S.2.1 dL_law_1521 rfl ?_
    rw [ho2 cz_1513]
    refine lw_lcmp S.1 S.2.1 dL_law_1522 ?_
    refine lv_if_eq (tgt := 1528) S.1 S.2.1 dL_law_1523 (by decide) (fun _ => ?_) (fun c9 => absurd c9 (by decide))
    refine lv_goto (tgt := 1724) S.1 S.2.1 dL_law_1528 (by decide) ?_
    exact kont _ _ _ _ hR2 hI (lv_sub hl [2, 3, 4, 5, 6] rfl)
set_option maxRecDepth 100000 in
set_option maxHeartbeats 4000000 in
theorem lc_hoursUntilExpired (hst9 : l.stackTraces = false) (S : CallFix p m c cL_law 9 s args AL RL) (hI : Iv G σ s H locs) (hl : lv_has ls 9 [(0, .ref b), (1, .ref (gB G 0)), (2, .ref (gB G 3)), (3, .ref (gB G 8)), (4, .int (nI j))]) (hXs : va_X b L xs s s.heap) (hbl : b < s.heap.size) (hbA : ¬ gA G b) (hj9 : j + 3 < L) (hL9 : L ≤ 2048) (hR9 : Rel σ) (hF9 : 12 ≤ R.frames ∧ 440 ≤ R.locals) (hC9 : cells + 1 ≤ R.cells) (hS9 : slots + 6 ≤ R.slots) (kont : Kont p l e R s m args below meth c (cells + 1) (slots + 6) Q G b j) : W p l e R s m args below meth c H locs cells slots Q (F0 m 1531 ls []) := by
  obtain ⟨k9, P9, hL1, hM1⟩ := pr_hoursUntilExpired l hst9 G σ hR9 (xs (j + 1))
  refine lv_aload_n S.1 S.2.1 dL_law_1531 rfl (lv_at hl 1 rfl) ?_
  refine lv_aload_n S.1 S.2.1 dL_law_1532 rfl (lv_at hl 0 rfl) ?_
  refine lv_iload S.1 S.2.1 dL_law_1533 (lv_at hl 4 rfl) ?_
  refine lv_iconst (v := 1) S.1 S.2.1 dL_law_1535 (by decide) ?_
  refine lv_iadd S.1 S.2.1 dL_law_1536 ?_
  rw [show ((nI j) + 1) = (nI (j + 1)) from nI_1 j]
  refine sc_at S hI hXs hbl hbA (j := (j + 1)) (by omega) hL9 dL_law_1537 ?_
  refine lv_aload_n S.1 S.2.1 dL_law_1538 rfl (lv_at hl 3 rfl) ?_
  refine cl_i hI (rnL (As := [.ref (gB G 0), .int (xs (j + 1)), .ref (gB G 8)]) (rest := []) S hI hL1 (cwl_hoursUntilExpired S.2.2.2.2 ⟨by omega, by omega⟩) rfl hl.1 (Nat.le_of_ble_eq_true rfl) dL_law_1539 ⟨by omega, by omega⟩) (fun r1 σ1 H locs hq1 hI => ?_)
  obtain ⟨hk1, hp1⟩ := hq1
  rw [hk1]
  obtain ⟨d9, hd9, hC4⟩ := hM1 σ1 hp1
  refine lv_istore (lv' := [(5, .int k9), (0, .ref b), (1, .ref (gB G 0)), (2, .ref (gB G 3)), (3, .ref (gB G 8)), (4, .int (nI j))]) S.1 S.2.1 dL_law_1542 hl (by decide) rfl (fun ls hl => ?_)
  refine lv_aload_n S.1 S.2.1 dL_law_1544 rfl (lv_at hl 3 rfl) ?_
  refine lv_aload_n S.1 S.2.1 dL_law_1545 rfl (lv_at hl 1 rfl) ?_
  refine lv_iload S.1 S.2.1 dL_law_1546 (lv_at hl 5 rfl) ?_
  refine lv_iconst (v := 1) S.1 S.2.1 dL_law_1548 (by decide) ?_
  refine lv_iadd S.1 S.2.1 dL_law_1549 ?_
  rw [show ((nI j) + 1) = (nI (j + 1)) from nI_1 j]
  refine sc_at S hI hXs hbl hbA (j := (j + 1)) (by omega) hL9 dL_law_1550 ?_
  refine cl_i hI (rnV (As := [.int (xs (j + 1))]) (rest := []) S hI hC4 (cw_L_X4_hoursUntilExpired S.2.2.2.2 ⟨by omega, by omega⟩) (rcM hI) rfl hl.1 (Nat.le_of_ble_eq_true rfl) dL_law_1551 ⟨by omega, by omega⟩) (fun r2 σ2 H locs hq2 hI => ?_)
  obtain ⟨ht2, ho2, hR2⟩ := hq2
  refine lv_istore (lv' := [(6, .int r2), (5, .int k9), (0, .ref b), (1, .ref (gB G 0)), (2, .ref (gB G 3)), (3, .ref (gB G 8)), (4, .int (nI j))]) S.1 S.2.1 dL_law_1554 hl (by decide) rfl (fun ls hl => ?_)
  refine lv_aload_n S.1 S.2.1 dL_law_1556 rfl (lv_at hl 4 rfl) ?_
  refine cl_i hI (rnV (As := []) (rest := []) S hI (c_thrown l G σ2 (th := (gM σ2).1) (np := (gM σ2).2.1) (mk := (gM σ2).2.2.1) (lf := (gM σ2).2.2.2.1) (nw := (gM σ2).2.2.2.2.1) (kp := (gM σ2).2.2.2.2.2) rfl) (cw_L_X4_thrown S.2.2.2.2 ⟨by omega, by omega⟩) (rcM hI) rfl hl.1 (Nat.le_of_ble_eq_true rfl) dL_law_1557 ⟨by omega, by omega⟩) (fun r3 σ3 H locs hq3 hI => ?_)
  obtain ⟨hr3, hs3⟩ := hq3
  rw [hs3] at hI
  rw [hr3, ht2]
  refine lv_iload S.1 S.2.1 dL_law_1560 (lv_at hl 1 rfl) ?_
  refine lv_icmp_eq (tgt := 1567) S.1 S.2.1 dL_law_1562 (by decide) (fun cz_1562 => ?_) (fun c9 => absurd rfl c9)
  refine lv_iload S.1 S.2.1 dL_law_1567 (lv_at hl 1 rfl) ?_
  refine lv_if_ne (tgt := 1584) S.1 S.2.1 dL_law_1569 (by decide) (fun cz_1569 => ?_) (fun cz_1569 => ?_)
  · refine lv_goto (tgt := 1724) S.1 S.2.1 dL_law_1584 (by decide) ?_
    exact kont _ _ _ _ hR2 hI (lv_sub hl [2, 3, 4, 5, 6] rfl)
  · refine lv_aload_n S.1 S.2.1 dL_law_1572 rfl (lv_at hl 5 rfl) ?_
    refine lv_iconst (v := 0) S.1 S.2.1 dL_law_1573 (by decide) ?_
    refine a_out S hI dL_law_1574 ?_
    refine lv_iload S.1 S.2.1 dL_law_1575 (lv_at hl 0 rfl) ?_
    refine lv_i2l (v := r2.toInt64) S.1 S.2.1 dL_law_1577 rfl ?_
    rw [ho2 cz_1569]
    refine lw_lcmp S.1 S.2.1 dL_law_1578 ?_
    refine lv_if_eq (tgt := 1584) S.1 S.2.1 dL_law_1579 (by decide) (fun _ => ?_) (fun c9 => absurd c9 (by decide))
    refine lv_goto (tgt := 1724) S.1 S.2.1 dL_law_1584 (by decide) ?_
    exact kont _ _ _ _ hR2 hI (lv_sub hl [2, 3, 4, 5, 6] rfl)
set_option maxRecDepth 100000 in
set_option maxHeartbeats 4000000 in
theorem lc_leftIn (hst9 : l.stackTraces = false) (S : CallFix p m c cL_law 9 s args AL RL) (hI : Iv G σ s H locs) (hl : lv_has ls 9 [(0, .ref b), (1, .ref (gB G 0)), (2, .ref (gB G 3)), (3, .ref (gB G 8)), (4, .int (nI j))]) (hXs : va_X b L xs s s.heap) (hbl : b < s.heap.size) (hbA : ¬ gA G b) (hj9 : j + 3 < L) (hL9 : L ≤ 2048) (hR9 : Rel σ) (hF9 : 12 ≤ R.frames ∧ 440 ≤ R.locals) (hC9 : cells + 1 ≤ R.cells) (hS9 : slots + 6 ≤ R.slots) (kont : Kont p l e R s m args below meth c (cells + 1) (slots + 6) Q G b j) : W p l e R s m args below meth c H locs cells slots Q (F0 m 1587 ls []) := by
  obtain ⟨k9, P9, hL1, hM1⟩ := pr_leftIn l hst9 G σ hR9 (xs (j + 1))
  refine lv_aload_n S.1 S.2.1 dL_law_1587 rfl (lv_at hl 1 rfl) ?_
  refine lv_aload_n S.1 S.2.1 dL_law_1588 rfl (lv_at hl 0 rfl) ?_
  refine lv_iload S.1 S.2.1 dL_law_1589 (lv_at hl 4 rfl) ?_
  refine lv_iconst (v := 1) S.1 S.2.1 dL_law_1591 (by decide) ?_
  refine lv_iadd S.1 S.2.1 dL_law_1592 ?_
  rw [show ((nI j) + 1) = (nI (j + 1)) from nI_1 j]
  refine sc_at S hI hXs hbl hbA (j := (j + 1)) (by omega) hL9 dL_law_1593 ?_
  refine lv_aload_n S.1 S.2.1 dL_law_1594 rfl (lv_at hl 3 rfl) ?_
  refine cl_i hI (rnL (As := [.ref (gB G 0), .int (xs (j + 1)), .ref (gB G 8)]) (rest := []) S hI hL1 (cwl_leftIn S.2.2.2.2 ⟨by omega, by omega⟩) rfl hl.1 (Nat.le_of_ble_eq_true rfl) dL_law_1595 ⟨by omega, by omega⟩) (fun r1 σ1 H locs hq1 hI => ?_)
  obtain ⟨hk1, hp1⟩ := hq1
  rw [hk1]
  obtain ⟨d9, hd9, hC4⟩ := hM1 σ1 hp1
  refine lv_istore (lv' := [(5, .int k9), (0, .ref b), (1, .ref (gB G 0)), (2, .ref (gB G 3)), (3, .ref (gB G 8)), (4, .int (nI j))]) S.1 S.2.1 dL_law_1598 hl (by decide) rfl (fun ls hl => ?_)
  refine lv_aload_n S.1 S.2.1 dL_law_1600 rfl (lv_at hl 3 rfl) ?_
  refine lv_aload_n S.1 S.2.1 dL_law_1601 rfl (lv_at hl 1 rfl) ?_
  refine lv_iload S.1 S.2.1 dL_law_1602 (lv_at hl 5 rfl) ?_
  refine lv_iconst (v := 1) S.1 S.2.1 dL_law_1604 (by decide) ?_
  refine lv_iadd S.1 S.2.1 dL_law_1605 ?_
  rw [show ((nI j) + 1) = (nI (j + 1)) from nI_1 j]
  refine sc_at S hI hXs hbl hbA (j := (j + 1)) (by omega) hL9 dL_law_1606 ?_
  refine cl_i hI (rnV (As := [.int (xs (j + 1))]) (rest := []) S hI hC4 (cw_L_X4_leftIn S.2.2.2.2 ⟨by omega, by omega⟩) (rcM hI) rfl hl.1 (Nat.le_of_ble_eq_true rfl) dL_law_1607 ⟨by omega, by omega⟩) (fun r2 σ2 H locs hq2 hI => ?_)
  obtain ⟨ht2, ho2, hR2⟩ := hq2
  refine lv_istore (lv' := [(6, .int r2), (5, .int k9), (0, .ref b), (1, .ref (gB G 0)), (2, .ref (gB G 3)), (3, .ref (gB G 8)), (4, .int (nI j))]) S.1 S.2.1 dL_law_1610 hl (by decide) rfl (fun ls hl => ?_)
  refine lv_aload_n S.1 S.2.1 dL_law_1612 rfl (lv_at hl 4 rfl) ?_
  refine cl_i hI (rnV (As := []) (rest := []) S hI (c_thrown l G σ2 (th := (gM σ2).1) (np := (gM σ2).2.1) (mk := (gM σ2).2.2.1) (lf := (gM σ2).2.2.2.1) (nw := (gM σ2).2.2.2.2.1) (kp := (gM σ2).2.2.2.2.2) rfl) (cw_L_X4_thrown S.2.2.2.2 ⟨by omega, by omega⟩) (rcM hI) rfl hl.1 (Nat.le_of_ble_eq_true rfl) dL_law_1613 ⟨by omega, by omega⟩) (fun r3 σ3 H locs hq3 hI => ?_)
  obtain ⟨hr3, hs3⟩ := hq3
  rw [hs3] at hI
  rw [hr3, ht2]
  refine lv_iload S.1 S.2.1 dL_law_1616 (lv_at hl 1 rfl) ?_
  refine lv_icmp_eq (tgt := 1623) S.1 S.2.1 dL_law_1618 (by decide) (fun cz_1618 => ?_) (fun c9 => absurd rfl c9)
  refine lv_iload S.1 S.2.1 dL_law_1623 (lv_at hl 1 rfl) ?_
  refine lv_if_ne (tgt := 1640) S.1 S.2.1 dL_law_1625 (by decide) (fun cz_1625 => ?_) (fun cz_1625 => ?_)
  · refine lv_goto (tgt := 1724) S.1 S.2.1 dL_law_1640 (by decide) ?_
    exact kont _ _ _ _ hR2 hI (lv_sub hl [2, 3, 4, 5, 6] rfl)
  · refine lv_aload_n S.1 S.2.1 dL_law_1628 rfl (lv_at hl 5 rfl) ?_
    refine lv_iconst (v := 0) S.1 S.2.1 dL_law_1629 (by decide) ?_
    refine a_out S hI dL_law_1630 ?_
    refine lv_iload S.1 S.2.1 dL_law_1631 (lv_at hl 0 rfl) ?_
    refine lv_i2l (v := r2.toInt64) S.1 S.2.1 dL_law_1633 rfl ?_
    rw [ho2 cz_1625]
    refine lw_lcmp S.1 S.2.1 dL_law_1634 ?_
    refine lv_if_eq (tgt := 1640) S.1 S.2.1 dL_law_1635 (by decide) (fun _ => ?_) (fun c9 => absurd c9 (by decide))
    refine lv_goto (tgt := 1724) S.1 S.2.1 dL_law_1640 (by decide) ?_
    exact kont _ _ _ _ hR2 hI (lv_sub hl [2, 3, 4, 5, 6] rfl)
end LCB
