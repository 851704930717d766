theorem sumN_tail {f : Nat → Int32} {n : Nat} (hn : n ≤ 20) (h : ∀ i, n ≤ i → i < 20 → f i = 0) : sumN f 20 = sumN f n := by
  have key : ∀ m1, n ≤ m1 → m1 ≤ 20 → sumN f m1 = sumN f n := by
    intro m1 h1
    induction h1 with
    | refl => intro _; rfl
    | @step m2 h3 ih =>
      intro h4
      rw [sumN_s, ih (by omega), h m2 h3 (by omega), Int32.add_zero]
  exact key 20 hn (Nat.le_refl 20)
theorem nI_div {a b : Nat} (ha : a < 2 ^ 31) (hb : b < 2 ^ 31) : nI a / nI b = nI (a / b) := by
  apply Int32.toInt_inj.mp
  have h1 : a / b ≤ a := Nat.div_le_self a b
  rw [Int32.toInt_div, nI_toInt ha, nI_toInt hb, nI_toInt (by omega)]
  rw [show ((a : Int).tdiv (b : Int)) = ((a / b : Nat) : Int) from by rw [Int.tdiv_eq_ediv_of_nonneg (by omega)]; rfl]
  generalize a / b = q at h1 ⊢
  exact Int.bmod_eq_of_le (by omega) (by omega)
theorem nI_mul (a b : Nat) : nI a * nI b = nI (a * b) := (Int32.ofNat_mul a b).symm
theorem nI_sub' {a b : Nat} (h : b ≤ a) : nI a - nI b = nI (a - b) := by
  rw [show nI a = nI (a - b) + nI b from by rw [nI_add, Nat.sub_add_cancel h], Int32.add_sub_cancel]
theorem nI_rem {a b : Nat} (ha : a < 2 ^ 31) (hb : b < 2 ^ 31) : nI a - nI a / nI b * nI b = nI (a % b) := by
  rw [nI_div ha hb, nI_mul, nI_sub' (Nat.div_mul_le_self a b)]
  congr 1
  have := Nat.div_add_mod a b
  rw [Nat.mul_comm] at this
  omega
theorem below_ok (v : Int32) {N : Nat} (h0 : 0 < N) (hN : N ≤ 1000) : ∃ k, k < N ∧ ((v &&& 2147483647) - (v &&& 2147483647) / (nI N) * (nI N)) = nI k := by
  obtain ⟨j, hj, e⟩ := pk_andE v (m := 2147483647) 31 (by decide)
  rw [e, nI_rem hj (by omega)]
  exact ⟨j % N, Nat.mod_lt j h0, rfl⟩
theorem nI_nz9 {N : Nat} (h0 : 0 < N) (hN : N ≤ 1000) : ¬ nI N = 0 := fun h => by
  have := congrArg Int32.toInt h
  rw [nI_toInt (by omega)] at this
  have e : (0 : Int32).toInt = 0 := by decide
  omega
section LDCI
variable {p : Program} {l : Launch} {e : Env} {R : Room} {s : State} {m : MethodId} {args : Array Value} {below : List Frame} {meth : Method} {c : Code} {H : Heap} {locs : List Loc} {cells slots nL : Nat} {Q : State → Prop} {cc : ByteArray} {pc : Nat} {ls : Array Slot} {rest : List Value}
set_option maxRecDepth 20000 in
theorem lc_2147483647 (S : CallFix p m c cc nL s args AL RL) (hdg : decode cc pc = .ok (.ldc 7, 2)) (kk : W p l e R s m args below meth c H locs cells slots Q (F0 m (pc + 2) ls (.int 2147483647 :: rest))) : W p l e R s m args below meth c H locs cells slots Q (F0 m pc ls rest) :=
  lv_ldc S.1 S.2.1 S.2.2.2.1 (S.2.2.2.2 _ (al (List.mem_of_getElem? (i := 532) rfl) rfl)) hdg kk
set_option maxRecDepth 20000 in
theorem lc_790386105 (S : CallFix p m c cc nL s args AL RL) (hdg : decode cc pc = .ok (.ldc 8, 2)) (kk : W p l e R s m args below meth c H locs cells slots Q (F0 m (pc + 2) ls (.int 790386105 :: rest))) : W p l e R s m args below meth c H locs cells slots Q (F0 m pc ls rest) :=
  lv_ldc S.1 S.2.1 S.2.2.2.1 (S.2.2.2.2 _ (al (List.mem_of_getElem? (i := 536) rfl) rfl)) hdg kk
end LDCI
set_option maxRecDepth 100000 in
set_option maxHeartbeats 4000000 in
theorem k_below (l : Launch) (G : Gt) {ws : va_W} (v9 : Int32) {N : Nat} (h0 : 0 < N) (hN : N ≤ 1000) : Cw l G yL_below cL_below 2 (some .int) 1 0 0 [.int v9, .int (nI N)] (ws) (Ui G (fun r ws' => (∃ k, k < N ∧ r = nI k) ∧ ws' = ws)) := by
  refine mw_intro (by decide +kernel) (Nat.le_of_ble_eq_true rfl) ?_
  intro p e s m below meth c S hr hlk hnm hJ ls hl
  have hl : lv_has ls 2 [(0, .int v9), (1, .int (nI N))] := hl
  refine lv_iload_n S.1 S.2.1 dL_below_0 rfl (lv_at hl 0 rfl) ?_
  refine lc_2147483647 S dL_below_1 ?_
  refine lv_iand S.1 S.2.1 dL_below_3 ?_
  refine lv_iload_n S.1 S.2.1 dL_below_4 rfl (lv_at hl 1 rfl) ?_
  refine lv_irem S.1 S.2.1 dL_below_5 (nI_nz9 h0 hN) ?_
  exact yt_i S hJ hr hlk (⟨below_ok v9 h0 hN, rfl⟩) (by omega) (by omega) dL_below_6
set_option maxRecDepth 100000 in
set_option maxHeartbeats 4000000 in
theorem k_cell (l : Launch) (G : Gt) {ws : va_W} {k : Nat} (hk : k < 1000) : Cw l G yL_cell cL_cell 2 (some .int) 1 0 0 [.ref (gE G 6), .int (nI k)] (ws) (Ui G (fun r ws' => ws' = ws)) := by
  refine mw_intro (by decide +kernel) (Nat.le_of_ble_eq_true rfl) ?_
  intro p e s m below meth c S hr hlk hnm hJ ls hl
  have hl : lv_has ls 2 [(0, .ref (gE G 6)), (1, .int (nI k))] := hl
  obtain ⟨L, xs, hL, hX, hbl, hbA⟩ := hJ.1.2.2.2.2.2.2.1.2.2
  refine lv_iload_n S.1 S.2.1 dL_cell_0 rfl (lv_at hl 1 rfl) ?_
  refine lv_aload_n S.1 S.2.1 dL_cell_1 rfl (lv_at hl 0 rfl) ?_
  refine va_slen S.1 S.2.1 hX hbl hbA hJ.2.2.2 dL_cell_2 ?_
  refine lv_icmp_ge (tgt := 12) S.1 S.2.1 dL_cell_3 (by decide) (fun cz_3 => ?_) (fun cz_3 => ?_)
  · refine lc_790386105 S dL_cell_12 ?_
    refine lv_iload_n S.1 S.2.1 dL_cell_14 rfl (lv_at hl 1 rfl) ?_
    refine lv_iconst (v := 3) S.1 S.2.1 dL_cell_15 (by decide) ?_
    refine lv_iadd S.1 S.2.1 dL_cell_16 ?_
    refine lv_imul S.1 S.2.1 dL_cell_17 ?_
    exact yt_i S hJ hr hlk rfl (by omega) (by omega) dL_cell_18
  · refine lv_aload_n S.1 S.2.1 dL_cell_6 rfl (lv_at hl 0 rfl) ?_
    refine lv_iload_n S.1 S.2.1 dL_cell_7 rfl (lv_at hl 1 rfl) ?_
    have hkl : k < L := by
      rcases Nat.lt_or_ge k L with h | h
      · exact h
      · exact absurd (nI_le h (by omega)) cz_3
    refine va_sld S.1 S.2.1 hX hbl hbA hJ.2.2.2 (vp_nI hkl (by omega)) dL_cell_8 ?_
    refine lv_goto (tgt := 18) S.1 S.2.1 dL_cell_9 (by decide) ?_
    exact yt_i S hJ hr hlk rfl (by omega) (by omega) dL_cell_18
set_option maxRecDepth 100000 in
set_option maxHeartbeats 4000000 in
theorem k_open (l : Launch) (G : Gt) {σ : St} {a : Sa} {hh pw ar : Int32} {st ht : Nat → Int32} {n : Nat} {row : Nat → Z7} {Y : va_W} {k : Nat} (hk : k < 5) : Cw l G yX4_open cX4_open 2 none 1 0 0 [.ref a.1.1, .int (nI k)] (fw G σ a (hh, pw, ar, st, ht, n, row) Y) (Uv G (fun ws' => ws' = fw G σ a (hh, pw, ar, st, va_up ht k (if 18 < ht k then 20 else ht k + 2), n, row) Y)) := by
  refine mw_intro (by decide +kernel) (Nat.le_of_ble_eq_true rfl) ?_
  intro p e s m below meth c S hr hlk hnm hJ ls hl
  have hl : lv_has ls 2 [(0, .ref a.1.1), (1, .int (nI k))] := hl
  refine lv_aload_n S.1 S.2.1 dX4_open_0 rfl (lv_at hl 0 rfl) ?_
  refine q_X4_heat S hJ dX4_open_1 ?_
  refine lv_iload_n S.1 S.2.1 dX4_open_4 rfl (lv_at hl 1 rfl) ?_
  refine lv_aload_n S.1 S.2.1 dX4_open_5 rfl (lv_at hl 0 rfl) ?_
  refine q_X4_heat S hJ dX4_open_6 ?_
  refine lv_iload_n S.1 S.2.1 dX4_open_9 rfl (lv_at hl 1 rfl) ?_
  refine i_ht S hJ (j := k) hk dX4_open_10 ?_
  refine lv_bipush (v := 18) S.1 S.2.1 dX4_open_11 (by decide) ?_
  refine lv_icmp_le (tgt := 21) S.1 S.2.1 dX4_open_13 (by decide) (fun cz_13 => ?_) (fun cz_13 => ?_)
  · refine lv_aload_n S.1 S.2.1 dX4_open_21 rfl (lv_at hl 0 rfl) ?_
    refine q_X4_heat S hJ dX4_open_22 ?_
    refine lv_iload_n S.1 S.2.1 dX4_open_25 rfl (lv_at hl 1 rfl) ?_
    refine i_ht S hJ (j := k) hk dX4_open_26 ?_
    refine lv_iconst (v := 2) S.1 S.2.1 dX4_open_27 (by decide) ?_
    refine lv_iadd S.1 S.2.1 dX4_open_28 ?_
    refine o_ht S hJ (j := k) hk dX4_open_29 (fun H locs hJ => ?_)
    exact yt_v S hJ hr hlk (by rw [if_neg (show ¬ 18 < ht k from Int32.not_lt.mpr cz_13)]) (by omega) (by omega) dX4_open_30
  · refine lv_bipush (v := 20) S.1 S.2.1 dX4_open_16 (by decide) ?_
    refine lv_goto (tgt := 29) S.1 S.2.1 dX4_open_18 (by decide) ?_
    refine o_ht S hJ (j := k) hk dX4_open_29 (fun H locs hJ => ?_)
    exact yt_v S hJ hr hlk (by rw [if_pos (show 18 < ht k from Int32.not_le.mp cz_13)]) (by omega) (by omega) dX4_open_30
def lieZ (row : Nat → Z7) : Nat → Int32 := fun i => if (row i).2.2.1 < 0 then 0 else 1
theorem row_eta {row : Nat → Z7} (i : Nat) : va_up row i ((row i).1, (row i).2.1, (row i).2.2.1, (row i).2.2.2.1, (row i).2.2.2.2.1, (row i).2.2.2.2.2.1, (row i).2.2.2.2.2.2) = row := va_up_same row i
set_option maxRecDepth 100000 in
set_option maxHeartbeats 4000000 in
theorem k_left (l : Launch) (G : Gt) {σ : St} {a : Sa} {hh pw ar : Int32} {st ht : Nat → Int32} {n : Nat} {row : Nat → Z7} {Y : va_W} (hn : n ≤ 20) : Cw l G yX4_left cX4_left 6 (some .int) 1 0 0 [.ref a.1.1] (fw G σ a (hh, pw, ar, st, ht, n, row) Y) (Ui G (fun r ws' => r = sumN (lieZ row) n ∧ ws' = fw G σ a (hh, pw, ar, st, ht, n, row) Y)) := by
  refine mw_intro (by decide +kernel) (Nat.le_of_ble_eq_true rfl) ?_
  intro p e s m below meth c S hr hlk hnm hJ ls hl
  have hl : lv_has ls 6 [(0, .ref a.1.1)] := hl
  have loop : ∀ (n9 : Nat) (k : Nat), k + n9 = n → ∀ (H : Heap) (locs : List Loc), Jw G (fw G σ a (hh, pw, ar, st, ht, n, row) Y) s H locs → ∀ ls : Array Slot, lv_has ls 6 [(0, .ref a.1.1), (1, .int (sumN (lieZ row) k)), (2, .ref a.1.2.2.2), (3, .int (nI n)), (4, .int (nI k))] → W p l e (rm 1 0 0) s m ([.ref a.1.1] : List Value).toArray below meth c H locs 0 0 (MQ below (Ui G (fun r ws' => r = sumN (lieZ row) n ∧ ws' = fw G σ a (hh, pw, ar, st, ht, n, row) Y)) ([.ref a.1.1] : List Value).toArray s 0 0 (gA G)) (F0 m 13 ls []) := by
    intro n9
    induction n9 with
    | zero =>
      intro k hk0 H locs hJ ls hl
      obtain rfl : k = n := by omega
      refine lv_iload S.1 S.2.1 dX4_left_13 (lv_at hl 4 rfl) ?_
      refine lv_iload_n S.1 S.2.1 dX4_left_15 rfl (lv_at hl 3 rfl) ?_
      refine lv_icmp_ge (tgt := 46) S.1 S.2.1 dX4_left_16 (by decide) (fun cz_16 => ?_) (fun c9 => absurd (nI_le (Nat.le_refl k) (by omega)) c9)
      refine lv_iload_n S.1 S.2.1 dX4_left_46 rfl (lv_at hl 1 rfl) ?_
      exact yt_i S hJ hr hlk (⟨rfl, rfl⟩) (by omega) (by omega) dX4_left_47
    | succ n9 ih =>
      intro k hk0 H locs hJ ls hl
      have hk2 : k < n := by omega
      refine lv_iload S.1 S.2.1 dX4_left_13 (lv_at hl 4 rfl) ?_
      refine lv_iload_n S.1 S.2.1 dX4_left_15 rfl (lv_at hl 3 rfl) ?_
      refine lv_icmp_ge (tgt := 46) S.1 S.2.1 dX4_left_16 (by decide) (fun c9 => absurd c9 (nI_ge hk2 (by omega))) (fun cz_16 => ?_)
      have hJ : Jw G (fw G σ a (hh, pw, ar, st, ht, n, va_up row k ((row k).1, (row k).2.1, (row k).2.2.1, (row k).2.2.2.1, (row k).2.2.2.2.1, (row k).2.2.2.2.2.1, (row k).2.2.2.2.2.2)) Y) s H locs := by rw [row_eta]; exact hJ
      refine lv_aload_n S.1 S.2.1 dX4_left_19 rfl (lv_at hl 2 rfl) ?_
      refine lv_iload S.1 S.2.1 dX4_left_20 (lv_at hl 4 rfl) ?_
      refine i_all S hJ (i := k) hk2 hn dX4_left_22 ?_
      refine lv_astore (lv' := [(5, .ref (a.2 k)), (0, .ref a.1.1), (1, .int (sumN (lieZ row) k)), (2, .ref a.1.2.2.2), (3, .int (nI n)), (4, .int (nI k))]) S.1 S.2.1 dX4_left_23 hl (by decide) rfl (fun ls hl => ?_)
      refine lv_iload_n S.1 S.2.1 dX4_left_25 rfl (lv_at hl 2 rfl) ?_
      refine lv_aload S.1 S.2.1 dX4_left_26 (lv_at hl 0 rfl) ?_
      refine lv_iconst (v := 2) S.1 S.2.1 dX4_left_28 (by decide) ?_
      refine i_row2 S hJ hk2 dX4_left_29 ?_
      refine lv_if_lt (tgt := 37) S.1 S.2.1 dX4_left_30 (by decide) (fun cz_30 => ?_) (fun cz_30 => ?_)
      · refine lv_iconst (v := 0) S.1 S.2.1 dX4_left_37 (by decide) ?_
        refine lv_iadd S.1 S.2.1 dX4_left_38 ?_
        refine lv_istore_n (lv' := [(1, .int ((sumN (lieZ row) k) + 0)), (5, .ref (a.2 k)), (0, .ref a.1.1), (2, .ref a.1.2.2.2), (3, .int (nI n)), (4, .int (nI k))]) S.1 S.2.1 dX4_left_39 rfl hl (by decide) rfl (fun ls hl => ?_)
        refine lv_iinc (v := (nI (k + 1))) (lv' := [(4, .int (nI (k + 1))), (1, .int ((sumN (lieZ row) k) + 0)), (5, .ref (a.2 k)), (0, .ref a.1.1), (2, .ref a.1.2.2.2), (3, .int (nI n))]) S.1 S.2.1 dX4_left_40 hl (k := 5) rfl (nI_1 k) (by decide) rfl (fun ls hl => ?_)
        refine lv_goto (tgt := 13) S.1 S.2.1 dX4_left_43 (by decide) ?_
        have hJ : Jw G (fw G σ a (hh, pw, ar, st, ht, n, row) Y) s H locs := by rw [row_eta] at hJ; exact hJ
        exact ih (k + 1) (by omega) _ _ hJ ls (by rw [show sumN (lieZ row) (k + 1) = ((sumN (lieZ row) k) + 0) from by rw [sumN_s]; exact congrArg (fun z => sumN (lieZ row) k + z) (if_pos cz_30)]; exact lv_sub hl [3, 1, 4, 5, 0] rfl)
      · refine lv_iconst (v := 1) S.1 S.2.1 dX4_left_33 (by decide) ?_
        refine lv_goto (tgt := 38) S.1 S.2.1 dX4_left_34 (by decide) ?_
        refine lv_iadd S.1 S.2.1 dX4_left_38 ?_
        refine lv_istore_n (lv' := [(1, .int ((sumN (lieZ row) k) + 1)), (5, .ref (a.2 k)), (0, .ref a.1.1), (2, .ref a.1.2.2.2), (3, .int (nI n)), (4, .int (nI k))]) S.1 S.2.1 dX4_left_39 rfl hl (by decide) rfl (fun ls hl => ?_)
        refine lv_iinc (v := (nI (k + 1))) (lv' := [(4, .int (nI (k + 1))), (1, .int ((sumN (lieZ row) k) + 1)), (5, .ref (a.2 k)), (0, .ref a.1.1), (2, .ref a.1.2.2.2), (3, .int (nI n))]) S.1 S.2.1 dX4_left_40 hl (k := 5) rfl (nI_1 k) (by decide) rfl (fun ls hl => ?_)
        refine lv_goto (tgt := 13) S.1 S.2.1 dX4_left_43 (by decide) ?_
        have hJ : Jw G (fw G σ a (hh, pw, ar, st, ht, n, row) Y) s H locs := by rw [row_eta] at hJ; exact hJ
        exact ih (k + 1) (by omega) _ _ hJ ls (by rw [show sumN (lieZ row) (k + 1) = ((sumN (lieZ row) k) + 1) from by rw [sumN_s]; exact congrArg (fun z => sumN (lieZ row) k + z) (if_neg cz_30)]; exact lv_sub hl [3, 1, 4, 5, 0] rfl)
  refine lv_iconst (v := 0) S.1 S.2.1 dX4_left_0 (by decide) ?_
  refine lv_istore_n (lv' := [(1, .int 0), (0, .ref a.1.1)]) S.1 S.2.1 dX4_left_1 rfl hl (by decide) rfl (fun ls hl => ?_)
  refine lv_aload_n S.1 S.2.1 dX4_left_2 rfl (lv_at hl 1 rfl) ?_
  refine q_X4_all S hJ dX4_left_3 ?_
  refine lv_astore_n (lv' := [(2, .ref a.1.2.2.2), (1, .int 0), (0, .ref a.1.1)]) S.1 S.2.1 dX4_left_6 rfl hl (by decide) rfl (fun ls hl => ?_)
  refine lv_aload_n S.1 S.2.1 dX4_left_7 rfl (lv_at hl 0 rfl) ?_
  refine l_all S hJ dX4_left_8 ?_
  refine lv_istore_n (lv' := [(3, .int (nI n)), (2, .ref a.1.2.2.2), (1, .int 0), (0, .ref a.1.1)]) S.1 S.2.1 dX4_left_9 rfl hl (by decide) rfl (fun ls hl => ?_)
  refine lv_iconst (v := (nI 0)) S.1 S.2.1 dX4_left_10 (by rfl) ?_
  refine lv_istore (lv' := [(4, .int (nI 0)), (3, .int (nI n)), (2, .ref a.1.2.2.2), (1, .int 0), (0, .ref a.1.1)]) S.1 S.2.1 dX4_left_11 hl (by decide) rfl (fun ls hl => ?_)
  exact loop n 0 (by omega) _ _ hJ ls (lv_sub hl [4, 3, 2, 1, 0] rfl)
