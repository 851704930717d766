def onR (row : Nat → Z7) (k : Nat) : Nat → Int32 := fun i => if (row i).2.2.1 = nI k then 1 else 0
theorem RowP.z2 {x : Pr} {z : Z7} (h : RowP x z) {k : Nat} (hk : k < 5) : z.2.2.1 = nI k ↔ x.2.1 = k := by
  rcases h.2.2.2.2 with ⟨h1, h2, -⟩ | ⟨h1, h2, -⟩
  · rw [h2]
    exact ⟨fun q => nI_eq9 (by omega) (by omega) q, fun q => by rw [q]⟩
  · rw [h2]
    exact ⟨fun q => absurd q.symm (nI_m1 (by omega)), fun q => by omega⟩
theorem RowP.neg {x : Pr} {z : Z7} (h : RowP x z) : z.2.2.1 < 0 ↔ ¬ x.2.1 < 6 := by
  rcases h.2.2.2.2 with ⟨h1, h2, -⟩ | ⟨h1, h2, -⟩
  · rw [h2]
    exact ⟨fun q => absurd q (nI_pos (by omega)), fun q => absurd (show x.2.1 < 6 by omega) q⟩
  · rw [h2]
    exact ⟨fun _ => by omega, fun _ => by decide⟩
section SAME
variable {σ : St} {n : Nat} {hh pw ar : Int32} {st ht : Nat → Int32} {row : Nat → Z7}
theorem Pct.n20 (h : Pct σ (hh, pw, ar, st, ht, n, row)) : n ≤ 20 := h.1.1
theorem Pct.off (h : Pct σ (hh, pw, ar, st, ht, n, row)) {i : Nat} (h1 : n ≤ i) (h2 : i < 20) : (gP σ i).1 = 0 ∧ (gP σ i).2.1 = 6 := h.1.2.2.2.2.2 i h1 h2
theorem on_eq (h : Pct σ (hh, pw, ar, st, ht, n, row)) {k : Nat} (hk : k < 5) : onF σ k = sumN (onR row k) n := by
  unfold onF
  rw [sumN_tail h.n20 (fun i h1 h2 => if_neg (by have := (h.off h1 h2).2; omega))]
  refine sumN_congr (fun i hi => ?_)
  have hz := (h.2.2.2 i hi).z2 hk
  show _ = if (row i).2.2.1 = nI k then (1 : Int32) else 0
  by_cases q : (gP σ i).2.1 = k
  · rw [if_pos q, if_pos (hz.mpr q)]
  · rw [if_neg q, if_neg (fun q2 => q (hz.mp q2))]
theorem left9 (h : Pct σ (hh, pw, ar, st, ht, n, row)) : sumN (lieZ row) n = sumN (mnC σ) 20 := by
  rw [sumN_tail (f := mnC σ) h.n20 (fun i h1 h2 => if_neg (by have := (h.off h1 h2).2; omega))]
  refine sumN_congr (fun i hi => ?_)
  have hz := (h.2.2.2 i hi).neg
  unfold lieZ mnC
  by_cases q : (gP σ i).2.1 < 6
  · rw [if_pos q, if_neg (fun q2 => hz.mp q2 q)]
  · rw [if_neg q, if_pos (hz.mpr q)]
theorem mean9 (h : Pct σ (hh, pw, ar, st, ht, n, row)) : sumN (mnS σ) 20 = sumN (mnS σ) n := sumN_tail h.n20 (fun i h1 h2 => if_neg (by have := (h.off h1 h2).2; omega))
def owR (σ : St) (w : Nat) : Nat → Int32 := fun i => if (gP σ i).2.1 < 6 ∧ (gP σ i).2.2.1 = nI w then 1 else 0
def cnR (σ : St) (w g : Nat) : Nat → Int32 := fun i => if (gP σ i).1 = g ∧ (gP σ i).2.2.1 = nI w then 1 else 0
theorem ow9 (h : Pct σ (hh, pw, ar, st, ht, n, row)) (w : Nat) : owF σ (nI w) = sumN (owR σ w) n := sumN_tail h.n20 (fun i h1 h2 => if_neg (by have := (h.off h1 h2).2; omega))
theorem hon9 (h : Pct σ (hh, pw, ar, st, ht, n, row)) (w : Nat) : honF σ w = sumN (cnR σ w 4) n - sumN (cnR σ w 5) n := by
  have e1 : ∀ g, 1 ≤ g → cntF σ (nI w) g = sumN (cnR σ w g) n := fun g hg => sumN_tail h.n20 (fun i h1 h2 => if_neg (by have := (h.off h1 h2).1; omega))
  unfold honF
  rw [e1 4 (by omega), e1 5 (by omega)]
/-- the two rows of six, as far as the promises were looked at -/
def foK (σ : St) (k : Nat) (f : Nat → Int32) : Prop := ∀ w, w < 6 → f w = sumN (owR σ w) k
def fhK (σ : St) (k : Nat) (f : Nat → Int32) : Prop := ∀ w, w < 6 → f w = sumN (cnR σ w 4) k - sumN (cnR σ w 5) k
theorem foK.up {k : Nat} {f : Nat → Int32} (h : foK σ k f) {ma : Nat} (hm : ma < 6) (em : (gP σ k).2.2.1 = nI ma) {x : Int32} (hx : x = if (gP σ k).2.1 < 6 then 1 else 0) : foK σ (k + 1) (va_up f ma (f ma + x)) := fun w hw => by
  rw [sumN_s]
  by_cases e9 : w = ma
  · subst e9
    rw [va_up_self, h w hw, hx]
    congr 1
    unfold owR
    by_cases q : (gP σ k).2.1 < 6
    · rw [if_pos q, if_pos ⟨q, em⟩]
    · rw [if_neg q, if_neg (fun q2 => q q2.1)]
  · rw [va_up_ne _ _ e9, h w hw, show owR σ w k = 0 from if_neg (fun q => e9 (nI_eq9 (by omega) (by omega) (em.symm.trans q.2)).symm), Int32.add_zero]
theorem i32_2 (a b c d : Int32) : a - b + (c - d) = a + c - (b + d) := by
  rw [Int32.sub_eq_add_neg, Int32.sub_eq_add_neg, Int32.sub_eq_add_neg, Int32.neg_add, Int32.add_assoc, Int32.add_assoc, Int32.sub_eq_add_neg]
  congr 1
  rw [← Int32.add_assoc, ← Int32.add_assoc, Int32.add_comm (-b) c]
theorem fhK.up {k : Nat} {f : Nat → Int32} (h : fhK σ k f) {ma : Nat} (hm : ma < 6) (em : (gP σ k).2.2.1 = nI ma) {x : Int32} (hx : x = (if (gP σ k).1 = 4 then 1 else 0) - (if (gP σ k).1 = 5 then 1 else 0)) : fhK σ (k + 1) (va_up f ma (f ma + x)) := fun w hw => by
  rw [sumN_s, sumN_s]
  by_cases e9 : w = ma
  · subst e9
    have e1 : ∀ g, cnR σ w g k = if (gP σ k).1 = g then 1 else 0 := fun g => by
      unfold cnR
      by_cases q : (gP σ k).1 = g
      · rw [if_pos q, if_pos ⟨q, em⟩]
      · rw [if_neg q, if_neg (fun q2 => q q2.1)]
    rw [va_up_self, h w hw, hx, e1 4, e1 5, i32_2]
  · have e1 : ∀ g, cnR σ w g k = 0 := fun g => if_neg (fun q => e9 (nI_eq9 (by omega) (by omega) (em.symm.trans q.2)).symm)
    rw [va_up_ne _ _ e9, h w hw, e1, e1, Int32.add_zero, Int32.add_zero]
theorem cold_up (σ : St) {k : Nat} : (coldF σ (k + 1 - 1) = if (gS σ (coldF σ (k - 1))).2 ≤ (gS σ k).2 then coldF σ (k - 1) else k) := by
  cases k with
  | zero =>
    show 0 = if (gS σ 0).2 ≤ (gS σ 0).2 then 0 else 0
    split <;> rfl
  | succ k => rfl
theorem most_up (σ : St) {k : Nat} : (mostF σ (k + 1 - 1) = if honF σ k ≤ honF σ (mostF σ (k - 1)) then mostF σ (k - 1) else k) := by
  cases k with
  | zero =>
    show 0 = if honF σ 0 ≤ honF σ 0 then 0 else 0
    split <;> rfl
  | succ k => rfl
end SAME
/-- a number is as large as itself -/
def FLc : Prop := ∀ x : UInt64, vf_n64 x → FP.dcmp x x = some Ordering.eq
theorem mean_n (hfl : FLn) (σ : St) : vf_n64 (meanF σ) := by
  unfold meanF
  split
  · show FP.dconst0 &&& 0x7fffffffffffffff ≤ 0x7ff0000000000000
    decide +kernel
  · rename_i h
    exact hfl _ _ h
set_option maxRecDepth 100000 in
set_option maxHeartbeats 4000000 in
theorem k_same (l : Launch) (hfl : FLn) (hfc : FLc) (G : Gt) {σ : St} {q0 q1 q2 q3 : Nat} {aR : Nat → Nat} {hh pw ar : Int32} {st ht : Nat → Int32} {n : Nat} {row : Nat → Z7} (hp : Pct σ (hh, pw, ar, st, ht, n, row)) : Cw l G yX4_isSame cX4_isSame 9 (some .boolean) 4 2 12 [.ref q0, .ref (gB G 0)] (fw G σ ((q0, q1, q2, q3), aR) (hh, pw, ar, st, ht, n, row) []) (Ui G (fun r ws' => r = 1)) := by
  refine mw_intro (by decide +kernel) (Nat.le_of_ble_eq_true rfl) ?_
  intro p e s m below meth c S hr hlk hnm hJ ls hl
  have hl : lv_has ls 9 [(0, .ref q0), (1, .ref (gB G 0))] := hl
  have hn : n ≤ 20 := hp.1.1
  have hX := hp.1.gx
  have loopC : ∀ (n9 : Nat) (k : Nat) (fo fh : Nat → Int32) (qo qh : Nat), k + n9 = 6 → foK σ n fo → fhK σ n fh → ∀ (H : Heap) (locs : List Loc), Jw G (fw G σ ((q0, q1, q2, q3), aR) (hh, pw, ar, st, ht, n, row) [(qo, .inl (gC G 4, 6, .inl fo)), (qh, .inl (gC G 4, 6, .inl fh))]) s H locs → ∀ ls : Array Slot, lv_has ls 9 [(0, .ref q0), (1, .ref (gB G 0)), (2, .int (nI (coldF σ 4))), (3, .int (sumN (mnS σ) 20)), (4, .ref qo), (5, .ref qh), (6, .int (nI (mostF σ (k - 1)))), (7, .int (nI k))] → W p l e (rm 4 2 12) s m ([.ref q0, .ref (gB G 0)] : List Value).toArray below meth c H locs 2 12 (MQ below (Ui G (fun r ws' => r = 1)) ([.ref q0, .ref (gB G 0)] : List Value).toArray s 2 12 (gA G)) (F0 m 428 ls []) := by
    intro n9
    induction n9 with
    | zero =>
      intro k fo fh qo qh hk0 hfo hfh H locs hJ ls hl
      obtain rfl : k = 6 := by omega
      refine lv_iload S.1 S.2.1 dX4_isSame_428 (lv_at hl 7 rfl) ?_
      refine lv_bipush (v := (nI 6)) S.1 S.2.1 dX4_isSame_430 (by rfl) ?_
      refine lv_icmp_ge (tgt := 488) S.1 S.2.1 dX4_isSame_432 (by decide) (fun cz_432 => ?_) (fun c9 => absurd (nI_le (a := 6) (b := 6) (Nat.le_refl 6) (by omega)) c9)
      refine lv_aload_n S.1 S.2.1 dX4_isSame_488 rfl (lv_at hl 1 rfl) ?_
      refine cz_i hJ (rzV (As := []) (rest := []) S hJ (c_hour l _ σ) (cw_X4_X3_hour S.2.2.2.2 ⟨Nat.le_of_ble_eq_true rfl, Nat.le_of_ble_eq_true rfl⟩) (rcX hJ.iv) rfl hl.1 (Nat.le_of_ble_eq_true rfl) dX4_isSame_489 ⟨by show _ ≤ 2; omega, by show _ ≤ 12; omega⟩) (fun r1 σ1 H locs hq1 hJ => ?_)
      obtain ⟨hr1, hs1⟩ := hq1
      rw [hs1] at hJ
      rw [hr1]
      refine lv_aload_n S.1 S.2.1 dX4_isSame_492 rfl (lv_at hl 0 rfl) ?_
      refine q_X4_hour S hJ dX4_isSame_493 ?_
      refine lv_icmp_ne (tgt := 581) S.1 S.2.1 dX4_isSame_496 (by decide) (fun c9 => absurd hp.2.1.1.symm c9) (fun cz_496 => ?_)
      refine lv_aload_n S.1 S.2.1 dX4_isSame_499 rfl (lv_at hl 1 rfl) ?_
      refine cz_i hJ (rzV (As := []) (rest := []) S hJ (c_hasPower l _ σ hp.1.2.2.1) (cw_X4_X3_hasPower S.2.2.2.2 ⟨Nat.le_of_ble_eq_true rfl, Nat.le_of_ble_eq_true rfl⟩) (rcX hJ.iv) rfl hl.1 (Nat.le_of_ble_eq_true rfl) dX4_isSame_500 ⟨by show _ ≤ 2; omega, by show _ ≤ 12; omega⟩) (fun r2 σ2 H locs hq2 hJ => ?_)
      obtain ⟨hr2, hs2⟩ := hq2
      rw [hs2] at hJ
      rw [hr2]
      refine lv_aload_n S.1 S.2.1 dX4_isSame_503 rfl (lv_at hl 0 rfl) ?_
      refine q_X4_hasPower S hJ dX4_isSame_504 ?_
      refine lv_icmp_ne (tgt := 581) S.1 S.2.1 dX4_isSame_507 (by decide) (fun c9 => absurd hp.2.1.2.1.symm c9) (fun cz_507 => ?_)
      refine lv_aload_n S.1 S.2.1 dX4_isSame_510 rfl (lv_at hl 1 rfl) ?_
      refine cz_i hJ (rzV (As := []) (rest := []) S hJ (c_alarms l _ σ) (cw_X4_X3_alarms S.2.2.2.2 ⟨Nat.le_of_ble_eq_true rfl, Nat.le_of_ble_eq_true rfl⟩) (rcX hJ.iv) rfl hl.1 (Nat.le_of_ble_eq_true rfl) dX4_isSame_511 ⟨by show _ ≤ 2; omega, by show _ ≤ 12; omega⟩) (fun r3 σ3 H locs hq3 hJ => ?_)
      obtain ⟨hr3, hs3⟩ := hq3
      rw [hs3] at hJ
      rw [hr3]
      refine lv_aload_n S.1 S.2.1 dX4_isSame_514 rfl (lv_at hl 0 rfl) ?_
      refine q_X4_alarms S hJ dX4_isSame_515 ?_
      refine lv_icmp_ne (tgt := 581) S.1 S.2.1 dX4_isSame_518 (by decide) (fun c9 => absurd hp.2.1.2.2.symm c9) (fun cz_518 => ?_)
      refine lv_aload_n S.1 S.2.1 dX4_isSame_521 rfl (lv_at hl 1 rfl) ?_
      refine cz_i hJ (rzV (As := []) (rest := []) S hJ (c_promises l _ σ) (cw_X4_X3_promises S.2.2.2.2 ⟨Nat.le_of_ble_eq_true rfl, Nat.le_of_ble_eq_true rfl⟩) (rcX hJ.iv) rfl hl.1 (Nat.le_of_ble_eq_true rfl) dX4_isSame_522 ⟨by show _ ≤ 2; omega, by show _ ≤ 12; omega⟩) (fun r4 σ4 H locs hq4 hJ => ?_)
      obtain ⟨hr4, hs4⟩ := hq4
      rw [hs4] at hJ
      rw [hr4]
      refine lv_aload_n S.1 S.2.1 dX4_isSame_525 rfl (lv_at hl 0 rfl) ?_
      refine q_X4_all S hJ dX4_isSame_526 ?_
      refine l_all S hJ dX4_isSame_529 ?_
      refine lv_icmp_ne (tgt := 581) S.1 S.2.1 dX4_isSame_530 (by decide) (fun c9 => absurd hp.1.2.1 c9) (fun cz_530 => ?_)
      refine lv_aload_n S.1 S.2.1 dX4_isSame_533 rfl (lv_at hl 1 rfl) ?_
      refine cz_i hJ (rzV (As := []) (rest := []) S hJ (c_coldest l _ σ) (cw_X4_X3_coldest S.2.2.2.2 ⟨Nat.le_of_ble_eq_true rfl, Nat.le_of_ble_eq_true rfl⟩) (rcX hJ.iv) rfl hl.1 (Nat.le_of_ble_eq_true rfl) dX4_isSame_534 ⟨by show _ ≤ 2; omega, by show _ ≤ 12; omega⟩) (fun r5 σ5 H locs hq5 hJ => ?_)
      obtain ⟨hr5, hs5⟩ := hq5
      rw [hs5] at hJ
      rw [hr5]
      refine lv_iload_n S.1 S.2.1 dX4_isSame_537 rfl (lv_at hl 2 rfl) ?_
      refine lv_icmp_ne (tgt := 581) S.1 S.2.1 dX4_isSame_538 (by decide) (fun c9 => absurd rfl c9) (fun cz_538 => ?_)
      refine lv_aload_n S.1 S.2.1 dX4_isSame_541 rfl (lv_at hl 1 rfl) ?_
      refine cz_i hJ (rzV (As := []) (rest := []) S hJ (c_mostHonourable l _ σ hp.1.ok) (cw_X4_X3_mostHonourable S.2.2.2.2 ⟨Nat.le_of_ble_eq_true rfl, Nat.le_of_ble_eq_true rfl⟩) (rcX hJ.iv) rfl hl.1 (Nat.le_of_ble_eq_true rfl) dX4_isSame_542 ⟨by show _ ≤ 2; omega, by show _ ≤ 12; omega⟩) (fun r6 σ6 H locs hq6 hJ => ?_)
      obtain ⟨hr6, hs6⟩ := hq6
      rw [hs6] at hJ
      rw [hr6]
      refine lv_iload S.1 S.2.1 dX4_isSame_545 (lv_at hl 6 rfl) ?_
      refine lv_icmp_ne (tgt := 581) S.1 S.2.1 dX4_isSame_547 (by decide) (fun c9 => absurd rfl c9) (fun cz_547 => ?_)
      refine lv_aload_n S.1 S.2.1 dX4_isSame_550 rfl (lv_at hl 1 rfl) ?_
      refine cz_d hJ (rzV (As := []) (rest := []) S hJ (c_meanHeat l _ σ hfl) (cw_X4_X3_meanHeat S.2.2.2.2 ⟨Nat.le_of_ble_eq_true rfl, Nat.le_of_ble_eq_true rfl⟩) (rcX hJ.iv) rfl hl.1 (Nat.le_of_ble_eq_true rfl) dX4_isSame_551 ⟨by show _ ≤ 2; omega, by show _ ≤ 12; omega⟩) (fun r7 σ7 H locs hq7 hJ => ?_)
      obtain ⟨hr7, hs7⟩ := hq7
      rw [hs7] at hJ
      rw [hr7]
      refine lv_aload_n S.1 S.2.1 dX4_isSame_554 rfl (lv_at hl 0 rfl) ?_
      refine dw_i hJ (rwV (As := []) (rest := [.double (meanF σ)]) S hJ (k_left (a := ((q0, q1, q2, q3), aR)) l G hn) (cw_X4_X4_left S.2.2.2.2 ⟨Nat.le_of_ble_eq_true rfl, Nat.le_of_ble_eq_true rfl⟩) (rcSim hJ) rfl hl.1 (Nat.le_of_ble_eq_true rfl) dX4_isSame_555 ⟨by show _ ≤ 2; omega, by show _ ≤ 12; omega⟩) (fun r8 ws8 H locs hq8 hJ => ?_)
      obtain ⟨hr8, hw8⟩ := hq8
      subst hw8
      rw [hr8, left9 hp]
      refine lv_if_ne (tgt := 565) S.1 S.2.1 dX4_isSame_558 (by decide) (fun cz_558 => ?_) (fun cz_558 => ?_)
      · refine lv_iload_n S.1 S.2.1 dX4_isSame_565 rfl (lv_at hl 3 rfl) ?_
        refine lv_i2d S.1 S.2.1 dX4_isSame_566 ?_
        refine lv_aload_n S.1 S.2.1 dX4_isSame_567 rfl (lv_at hl 0 rfl) ?_
        refine dw_i hJ (rwV (As := []) (rest := [.double (FP.i2d (sumN (mnS σ) 20)), .double (meanF σ)]) S hJ (k_left (a := ((q0, q1, q2, q3), aR)) l G hn) (cw_X4_X4_left S.2.2.2.2 ⟨Nat.le_of_ble_eq_true rfl, Nat.le_of_ble_eq_true rfl⟩) (rcSim hJ) rfl hl.1 (Nat.le_of_ble_eq_true rfl) dX4_isSame_568 ⟨by show _ ≤ 2; omega, by show _ ≤ 12; omega⟩) (fun r9 ws9 H locs hq9 hJ => ?_)
        obtain ⟨hr9, hw9⟩ := hq9
        subst hw9
        rw [hr9, left9 hp]
        refine lv_i2d S.1 S.2.1 dX4_isSame_571 ?_
        refine lv_ddiv S.1 S.2.1 dX4_isSame_572 (hfl _ _ cz_558) ?_
        refine lv_dcmp S.1 S.2.1 dX4_isSame_573 ?_
        rw [show (FP.ddiv (FP.i2d (sumN (mnS σ) 20)) (FP.i2d (sumN (mnC σ) 20))) = meanF σ from (if_neg cz_558).symm, hfc _ (mean_n hfl σ)]
        show W p l e (rm 4 2 12) s m _ below meth c H locs _ _ _ (F0 m _ ls [.int 0])
        refine lv_if_ne (tgt := 581) S.1 S.2.1 dX4_isSame_574 (by decide) (fun c9 => absurd (by decide) c9) (fun cz_574 => ?_)
        refine lv_iconst (v := 1) S.1 S.2.1 dX4_isSame_577 (by decide) ?_
        refine lv_goto (tgt := 582) S.1 S.2.1 dX4_isSame_578 (by decide) ?_
        exact yt_z S hJ hr hlk rfl rfl (by omega) (by omega) dX4_isSame_582
      · refine lv_dconst0 S.1 S.2.1 dX4_isSame_561 ?_
        refine lv_goto (tgt := 573) S.1 S.2.1 dX4_isSame_562 (by decide) ?_
        refine lv_dcmp S.1 S.2.1 dX4_isSame_573 ?_
        rw [show FP.dconst0 = meanF σ from (if_pos cz_558).symm, hfc _ (mean_n hfl σ)]
        show W p l e (rm 4 2 12) s m _ below meth c H locs _ _ _ (F0 m _ ls [.int 0])
        refine lv_if_ne (tgt := 581) S.1 S.2.1 dX4_isSame_574 (by decide) (fun c9 => absurd (by decide) c9) (fun cz_574 => ?_)
        refine lv_iconst (v := 1) S.1 S.2.1 dX4_isSame_577 (by decide) ?_
        refine lv_goto (tgt := 582) S.1 S.2.1 dX4_isSame_578 (by decide) ?_
        exact yt_z S hJ hr hlk rfl rfl (by omega) (by omega) dX4_isSame_582
    | succ n9 ih =>
      intro k fo fh qo qh hk0 hfo hfh H locs hJ ls hl
      have hk2 : k < 6 := by omega
      have hm6 : mostF σ (k - 1) < 6 := by have := mostF_le σ (k - 1); omega
      have eo : fo k = owF σ (nI k) := (hfo k hk2).trans (ow9 hp k).symm
      have eh : ∀ w, w < 6 → fh w = honF σ w := fun w hw => (hfh w hw).trans (hon9 hp w).symm
      refine lv_iload S.1 S.2.1 dX4_isSame_428 (lv_at hl 7 rfl) ?_
      refine lv_bipush (v := (nI 6)) S.1 S.2.1 dX4_isSame_430 (by rfl) ?_
      refine lv_icmp_ge (tgt := 488) S.1 S.2.1 dX4_isSame_432 (by decide) (fun c9 => absurd c9 (nI_ge (b := 6) hk2 (by omega))) (fun cz_432 => ?_)
      refine lv_aload_n S.1 S.2.1 dX4_isSame_435 rfl (lv_at hl 1 rfl) ?_
      refine lv_iload S.1 S.2.1 dX4_isSame_436 (lv_at hl 7 rfl) ?_
      refine cz_i hJ (rzV (As := [.int (nI k)]) (rest := []) S hJ (c_owedBy l _ σ hk2) (cw_X4_X3_owedBy S.2.2.2.2 ⟨Nat.le_of_ble_eq_true rfl, Nat.le_of_ble_eq_true rfl⟩) (rcX hJ.iv) rfl hl.1 (Nat.le_of_ble_eq_true rfl) dX4_isSame_438 ⟨by show _ ≤ 2; omega, by show _ ≤ 12; omega⟩) (fun r10 σ10 H locs hq10 hJ => ?_)
      obtain ⟨hr10, hs10⟩ := hq10
      rw [hs10] at hJ
      rw [hr10]
      refine lv_aload S.1 S.2.1 dX4_isSame_441 (lv_at hl 4 rfl) ?_
      refine lv_iload S.1 S.2.1 dX4_isSame_443 (lv_at hl 7 rfl) ?_
      refine i_y S hJ 0 rfl (j := k) hk2 (by omega) dX4_isSame_445 ?_
      refine lv_icmp_ne (tgt := 463) S.1 S.2.1 dX4_isSame_446 (by decide) (fun c9 => absurd eo.symm c9) (fun cz_446 => ?_)
      refine lv_aload_n S.1 S.2.1 dX4_isSame_449 rfl (lv_at hl 1 rfl) ?_
      refine lv_iload S.1 S.2.1 dX4_isSame_450 (lv_at hl 7 rfl) ?_
      refine cz_i hJ (rzV (As := [.int (nI k)]) (rest := []) S hJ (c_honourOf l _ σ hp.1.ok hk2) (cw_X4_X3_honourOf S.2.2.2.2 ⟨Nat.le_of_ble_eq_true rfl, Nat.le_of_ble_eq_true rfl⟩) (rcX hJ.iv) rfl hl.1 (Nat.le_of_ble_eq_true rfl) dX4_isSame_452 ⟨by show _ ≤ 2; omega, by show _ ≤ 12; omega⟩) (fun r11 σ11 H locs hq11 hJ => ?_)
      obtain ⟨hr11, hs11⟩ := hq11
      rw [hs11] at hJ
      rw [hr11]
      refine lv_aload S.1 S.2.1 dX4_isSame_455 (lv_at hl 5 rfl) ?_
      refine lv_iload S.1 S.2.1 dX4_isSame_457 (lv_at hl 7 rfl) ?_
      refine i_y S hJ 1 rfl (j := k) hk2 (by omega) dX4_isSame_459 ?_
      refine lv_icmp_eq (tgt := 465) S.1 S.2.1 dX4_isSame_460 (by decide) (fun cz_460 => ?_) (fun c9 => absurd ((eh k hk2).symm) c9)
      refine lv_aload S.1 S.2.1 dX4_isSame_465 (lv_at hl 5 rfl) ?_
      refine lv_iload S.1 S.2.1 dX4_isSame_467 (lv_at hl 7 rfl) ?_
      refine i_y S hJ 1 rfl (j := k) hk2 (by omega) dX4_isSame_469 ?_
      refine lv_aload S.1 S.2.1 dX4_isSame_470 (lv_at hl 5 rfl) ?_
      refine lv_iload S.1 S.2.1 dX4_isSame_472 (lv_at hl 6 rfl) ?_
      refine i_y S hJ 1 rfl (j := (mostF σ (k - 1))) hm6 (by omega) dX4_isSame_474 ?_
      refine lv_icmp_le (tgt := 482) S.1 S.2.1 dX4_isSame_475 (by decide) (fun cz_475 => ?_) (fun cz_475 => ?_)
      · refine lv_iinc (v := (nI (k + 1))) (lv' := [(7, .int (nI (k + 1))), (0, .ref q0), (1, .ref (gB G 0)), (2, .int (nI (coldF σ 4))), (3, .int (sumN (mnS σ) 20)), (4, .ref qo), (5, .ref qh), (6, .int (nI (mostF σ (k - 1))))]) S.1 S.2.1 dX4_isSame_482 hl (k := 7) rfl (nI_1 k) (by decide) rfl (fun ls hl => ?_)
        refine lv_goto (tgt := 428) S.1 S.2.1 dX4_isSame_485 (by decide) ?_
        exact ih (k + 1) fo fh qo qh (by omega) hfo hfh _ _ hJ ls (by rw [most_up, if_pos (by rw [← eh k hk2, ← eh _ hm6]; exact cz_475)]; exact lv_sub hl [1, 2, 3, 4, 5, 6, 7, 0] rfl)
      · refine lv_iload S.1 S.2.1 dX4_isSame_478 (lv_at hl 7 rfl) ?_
        refine lv_istore (lv' := [(6, .int (nI k)), (0, .ref q0), (1, .ref (gB G 0)), (2, .int (nI (coldF σ 4))), (3, .int (sumN (mnS σ) 20)), (4, .ref qo), (5, .ref qh), (7, .int (nI k))]) S.1 S.2.1 dX4_isSame_480 hl (by decide) rfl (fun ls hl => ?_)
        refine lv_iinc (v := (nI (k + 1))) (lv' := [(7, .int (nI (k + 1))), (6, .int (nI k)), (0, .ref q0), (1, .ref (gB G 0)), (2, .int (nI (coldF σ 4))), (3, .int (sumN (mnS σ) 20)), (4, .ref qo), (5, .ref qh)]) S.1 S.2.1 dX4_isSame_482 hl (k := 7) rfl (nI_1 k) (by decide) rfl (fun ls hl => ?_)
        refine lv_goto (tgt := 428) S.1 S.2.1 dX4_isSame_485 (by decide) ?_
        exact ih (k + 1) fo fh qo qh (by omega) hfo hfh _ _ hJ ls (by rw [most_up, if_neg (by rw [← eh k hk2, ← eh _ hm6]; exact cz_475)]; exact lv_sub hl [2, 3, 4, 5, 6, 7, 1, 0] rfl)
  have loopB : ∀ (n9 : Nat) (k : Nat) (fo fh : Nat → Int32) (qo qh : Nat), k + n9 = n → foK σ k fo → fhK σ k fh → ∀ (H : Heap) (locs : List Loc), Jw G (fw G σ ((q0, q1, q2, q3), aR) (hh, pw, ar, st, ht, n, row) [(qo, .inl (gC G 4, 6, .inl fo)), (qh, .inl (gC G 4, 6, .inl fh))]) s H locs → ∀ ls : Array Slot, lv_has ls 9 [(0, .ref q0), (1, .ref (gB G 0)), (2, .int (nI (coldF σ 4))), (3, .int (sumN (mnS σ) k)), (4, .ref qo), (5, .ref qh), (6, .int (nI k))] → W p l e (rm 4 2 12) s m ([.ref q0, .ref (gB G 0)] : List Value).toArray below meth c H locs 2 12 (MQ below (Ui G (fun r ws' => r = 1)) ([.ref q0, .ref (gB G 0)] : List Value).toArray s 2 12 (gA G)) (F0 m 144 ls []) := by
    intro n9
    induction n9 with
    | zero =>
      intro k fo fh qo qh hk0 hfo hfh H locs hJ ls hl
      have hkn : k = n := by omega
      refine lv_iload S.1 S.2.1 dX4_isSame_144 (lv_at hl 6 rfl) ?_
      refine lv_aload_n S.1 S.2.1 dX4_isSame_146 rfl (lv_at hl 0 rfl) ?_
      refine q_X4_all S hJ dX4_isSame_147 ?_
      refine l_all S hJ dX4_isSame_150 ?_
      refine lv_icmp_ge (tgt := 422) S.1 S.2.1 dX4_isSame_151 (by decide) (fun cz_151 => ?_) (fun c9 => absurd (nI_le (show n ≤ k by omega) (by omega)) c9)
      refine lv_iconst (v := (nI 0)) S.1 S.2.1 dX4_isSame_422 (by rfl) ?_
      refine lv_istore (lv' := [(6, .int (nI 0)), (0, .ref q0), (1, .ref (gB G 0)), (2, .int (nI (coldF σ 4))), (3, .int (sumN (mnS σ) k)), (4, .ref qo), (5, .ref qh)]) S.1 S.2.1 dX4_isSame_423 hl (by decide) rfl (fun ls hl => ?_)
      refine lv_iconst (v := (nI 0)) S.1 S.2.1 dX4_isSame_425 (by rfl) ?_
      refine lv_istore (lv' := [(7, .int (nI 0)), (6, .int (nI 0)), (0, .ref q0), (1, .ref (gB G 0)), (2, .int (nI (coldF σ 4))), (3, .int (sumN (mnS σ) k)), (4, .ref qo), (5, .ref qh)]) S.1 S.2.1 dX4_isSame_426 hl (by decide) rfl (fun ls hl => ?_)
      rw [hkn] at hfo hfh hl
      exact loopC 6 0 fo fh qo qh rfl hfo hfh _ _ hJ ls (by rw [mean9 hp]; exact lv_sub hl [2, 3, 4, 5, 6, 7, 1, 0] rfl)
    | succ n9 ih =>
      intro k fo fh qo qh hk0 hfo hfh H locs hJ ls hl
      have hk2 : k < n := by omega
      obtain ⟨⟨z0, z1, z2, z3, z4, z5, z6⟩, hz⟩ : ∃ z, row k = z := ⟨_, rfl⟩
      have hR : RowP (gP σ k) (z0, z1, z2, z3, z4, z5, z6) := by rw [← hz]; exact hp.2.2.2 k hk2
      obtain ⟨ma, lf, ag, e1, e2, e3, e4, e5, e6, e7, e8⟩ := hp.1.2.2.2.2.1 k hk2
      obtain ⟨r0, r1, r3, r4, r5⟩ := hR
      dsimp only at r0 r1 r3 r4 r5
      obtain rfl : z0 = nI ma := r0.trans e1
      have nxt : ∀ (x y u : Int32), x = (if (gP σ k).2.1 < 6 then 1 else 0) → y = (if (gP σ k).1 = 4 then 1 else 0) - (if (gP σ k).1 = 5 then 1 else 0) → u = sumN (mnS σ) (k + 1) → ∀ (H : Heap) (locs : List Loc), Jw G (fw G σ ((q0, q1, q2, q3), aR) (hh, pw, ar, st, ht, n, va_up row k (nI ma, z1, z2, z3, z4, z5, z6)) [(qo, .inl (gC G 4, 6, .inl (va_up fo ma (fo ma + x)))), (qh, .inl (gC G 4, 6, .inl (va_up fh ma (fh ma + y))))]) s H locs → ∀ ls : Array Slot, lv_has ls 9 [(0, .ref q0), (1, .ref (gB G 0)), (2, .int (nI (coldF σ 4))), (3, .int u), (4, .ref qo), (5, .ref qh), (6, .int (nI k))] → W p l e (rm 4 2 12) s m ([.ref q0, .ref (gB G 0)] : List Value).toArray below meth c H locs 2 12 (MQ below (Ui G (fun r ws' => r = 1)) ([.ref q0, .ref (gB G 0)] : List Value).toArray s 2 12 (gA G)) (F0 m 416 ls []) := by
        intro x y u hx hy hu H locs hJ ls hl
        rw [← hz, va_up_same] at hJ
        refine lv_iinc (v := (nI (k + 1))) (lv' := [(6, .int (nI (k + 1))), (0, .ref q0), (1, .ref (gB G 0)), (2, .int (nI (coldF σ 4))), (3, .int u), (4, .ref qo), (5, .ref qh)]) S.1 S.2.1 dX4_isSame_416 hl (k := 6) rfl (nI_1 k) (by decide) rfl (fun ls hl => ?_)
        refine lv_goto (tgt := 144) S.1 S.2.1 dX4_isSame_419 (by decide) ?_
        exact ih (k + 1) _ _ qo qh (by omega) (hfo.up e2 e1 hx) (hfh.up e2 e1 hy) _ _ hJ ls (by rw [← hu]; exact lv_sub hl [1, 2, 3, 4, 5, 6, 0] rfl)
      have hcs : ((gP σ k).2.1 < 5 ∧ ((gP σ k).1 = 1 ∨ (gP σ k).1 = 2 ∨ (gP σ k).1 = 3)) ∨ ((gP σ k).2.1 = 6 ∧ ((gP σ k).1 = 4 ∨ (gP σ k).1 = 5)) := by omega
      rcases hcs with ⟨hs5, hg | hg | hg⟩ | ⟨hs6, hg | hg⟩
      · obtain ⟨rz2, rz5, rz6⟩ : z2 = nI (gP σ k).2.1 ∧ z5 = 0 ∧ z6 = 0 := r5.elim (fun q => ⟨q.2.1, by rw [q.2.2.1, hg]; rfl, q.2.2.2⟩) (fun q => absurd q.1 (by omega))
        subst rz2; subst rz5; subst rz6
        refine lv_iload S.1 S.2.1 dX4_isSame_144 (lv_at hl 6 rfl) ?_
        refine lv_aload_n S.1 S.2.1 dX4_isSame_146 rfl (lv_at hl 0 rfl) ?_
        refine q_X4_all S hJ dX4_isSame_147 ?_
        refine l_all S hJ dX4_isSame_150 ?_
        refine lv_icmp_ge (tgt := 422) S.1 S.2.1 dX4_isSame_151 (by decide) (fun c9 => absurd c9 (nI_ge hk2 (by omega))) (fun cz_151 => ?_)
        refine lv_aload_n S.1 S.2.1 dX4_isSame_154 rfl (lv_at hl 0 rfl) ?_
        refine q_X4_all S hJ dX4_isSame_155 ?_
        refine lv_iload S.1 S.2.1 dX4_isSame_158 (lv_at hl 6 rfl) ?_
        have hJ : Jw G (fw G σ ((q0, q1, q2, q3), aR) (hh, pw, ar, st, ht, n, va_up row k ((nI ma), z1, (nI (gP σ k).2.1), z3, z4, 0, 0)) [(qo, .inl (gC G 4, 6, .inl fo)), (qh, .inl (gC G 4, 6, .inl fh))]) s H locs := by rw [← hz, va_up_same]; exact hJ
        refine i_all S hJ (i := k) hk2 hn dX4_isSame_160 ?_
        refine lv_astore (lv' := [(7, .ref (aR k)), (0, .ref q0), (1, .ref (gB G 0)), (2, .int (nI (coldF σ 4))), (3, .int (sumN (mnS σ) k)), (4, .ref qo), (5, .ref qh), (6, .int (nI k))]) S.1 S.2.1 dX4_isSame_161 hl (by decide) rfl (fun ls hl => ?_)
        refine lv_aload_n S.1 S.2.1 dX4_isSame_163 rfl (lv_at hl 2 rfl) ?_
        refine lv_iload S.1 S.2.1 dX4_isSame_164 (lv_at hl 7 rfl) ?_
        refine cz_i hJ (rzV (As := [.int (nI k)]) (rest := []) S hJ (c_makerOf l _ σ hk2 hn hX) (cw_X4_X3_makerOf S.2.2.2.2 ⟨Nat.le_of_ble_eq_true rfl, Nat.le_of_ble_eq_true rfl⟩) (rcX hJ.iv) rfl hl.1 (Nat.le_of_ble_eq_true rfl) dX4_isSame_166 ⟨by show _ ≤ 2; omega, by show _ ≤ 12; omega⟩) (fun r12 σ12 H locs hq12 hJ => ?_)
        obtain ⟨hr12, hs12⟩ := hq12
        rw [hs12] at hJ
        rw [hr12]
        refine lv_aload S.1 S.2.1 dX4_isSame_169 (lv_at hl 0 rfl) ?_
        refine lv_iconst (v := 0) S.1 S.2.1 dX4_isSame_171 (by decide) ?_
        refine i_row0 S hJ hk2 dX4_isSame_172 ?_
        refine lv_icmp_ne (tgt := 337) S.1 S.2.1 dX4_isSame_173 (by decide) (fun c9 => absurd e1 c9) (fun cz_173 => ?_)
        refine lv_aload_n S.1 S.2.1 dX4_isSame_176 rfl (lv_at hl 2 rfl) ?_
        refine lv_iload S.1 S.2.1 dX4_isSame_177 (lv_at hl 7 rfl) ?_
        refine cz_i hJ (rzV (As := [.int (nI k)]) (rest := []) S hJ (c_shelfOf l _ σ hp.1.ok hk2 hn hX) (cw_X4_X3_shelfOf S.2.2.2.2 ⟨Nat.le_of_ble_eq_true rfl, Nat.le_of_ble_eq_true rfl⟩) (rcX hJ.iv) rfl hl.1 (Nat.le_of_ble_eq_true rfl) dX4_isSame_179 ⟨by show _ ≤ 2; omega, by show _ ≤ 12; omega⟩) (fun r13 σ13 H locs hq13 hJ => ?_)
        obtain ⟨hr13, hs13⟩ := hq13
        rw [hs13] at hJ
        rw [hr13]
        refine lv_aload S.1 S.2.1 dX4_isSame_182 (lv_at hl 0 rfl) ?_
        refine lv_iconst (v := 2) S.1 S.2.1 dX4_isSame_184 (by decide) ?_
        refine i_row2 S hJ hk2 dX4_isSame_185 ?_
        refine lv_icmp_ne (tgt := 337) S.1 S.2.1 dX4_isSame_186 (by decide) (fun c9 => absurd (if_pos hs5) c9) (fun cz_186 => ?_)
        refine lv_aload_n S.1 S.2.1 dX4_isSame_189 rfl (lv_at hl 2 rfl) ?_
        refine lv_iload S.1 S.2.1 dX4_isSame_190 (lv_at hl 7 rfl) ?_
        refine cz_i hJ (rzV (As := [.int (nI k)]) (rest := []) S hJ (c_heatOf l _ σ hk2 hn hX) (cw_X4_X3_heatOf S.2.2.2.2 ⟨Nat.le_of_ble_eq_true rfl, Nat.le_of_ble_eq_true rfl⟩) (rcX hJ.iv) rfl hl.1 (Nat.le_of_ble_eq_true rfl) dX4_isSame_192 ⟨by show _ ≤ 2; omega, by show _ ≤ 12; omega⟩) (fun r14 σ14 H locs hq14 hJ => ?_)
        obtain ⟨hr14, hs14⟩ := hq14
        rw [hs14] at hJ
        rw [hr14]
        refine lv_aload S.1 S.2.1 dX4_isSame_195 (lv_at hl 0 rfl) ?_
        refine lv_iconst (v := 3) S.1 S.2.1 dX4_isSame_197 (by decide) ?_
        refine i_row3 S hJ hk2 dX4_isSame_198 ?_
        refine lv_icmp_ne (tgt := 337) S.1 S.2.1 dX4_isSame_199 (by decide) (fun c9 => absurd r3.symm c9) (fun cz_199 => ?_)
        refine lv_aload_n S.1 S.2.1 dX4_isSame_202 rfl (lv_at hl 2 rfl) ?_
        refine lv_iload S.1 S.2.1 dX4_isSame_203 (lv_at hl 7 rfl) ?_
        refine cz_i hJ (rzV (As := [.int (nI k)]) (rest := []) S hJ (c_ageOf l _ σ hk2 hn hX) (cw_X4_X3_ageOf S.2.2.2.2 ⟨Nat.le_of_ble_eq_true rfl, Nat.le_of_ble_eq_true rfl⟩) (rcX hJ.iv) rfl hl.1 (Nat.le_of_ble_eq_true rfl) dX4_isSame_205 ⟨by show _ ≤ 2; omega, by show _ ≤ 12; omega⟩) (fun r15 σ15 H locs hq15 hJ => ?_)
        obtain ⟨hr15, hs15⟩ := hq15
        rw [hs15] at hJ
        rw [hr15]
        refine lv_aload S.1 S.2.1 dX4_isSame_208 (lv_at hl 0 rfl) ?_
        refine lv_iconst (v := 4) S.1 S.2.1 dX4_isSame_210 (by decide) ?_
        refine i_row4 S hJ hk2 dX4_isSame_211 ?_
        refine lv_icmp_ne (tgt := 337) S.1 S.2.1 dX4_isSame_212 (by decide) (fun c9 => absurd r4.symm c9) (fun cz_212 => ?_)
        refine lv_aload_n S.1 S.2.1 dX4_isSame_215 rfl (lv_at hl 2 rfl) ?_
        refine lv_iload S.1 S.2.1 dX4_isSame_216 (lv_at hl 7 rfl) ?_
        refine cz_i hJ (rzV (As := [.int (nI k)]) (rest := []) S hJ (c_hoursLeft l _ σ hk2 hn hX) (cw_X4_X3_hoursLeft S.2.2.2.2 ⟨Nat.le_of_ble_eq_true rfl, Nat.le_of_ble_eq_true rfl⟩) (rcX hJ.iv) rfl hl.1 (Nat.le_of_ble_eq_true rfl) dX4_isSame_218 ⟨by show _ ≤ 2; omega, by show _ ≤ 12; omega⟩) (fun r16 σ16 H locs hq16 hJ => ?_)
        obtain ⟨hr16, hs16⟩ := hq16
        rw [hs16] at hJ
        rw [hr16]
        refine lv_aload S.1 S.2.1 dX4_isSame_221 (lv_at hl 0 rfl) ?_
        refine lv_iconst (v := 1) S.1 S.2.1 dX4_isSame_223 (by decide) ?_
        refine i_row1 S hJ hk2 dX4_isSame_224 ?_
        refine lv_aload S.1 S.2.1 dX4_isSame_225 (lv_at hl 0 rfl) ?_
        refine lv_iconst (v := 4) S.1 S.2.1 dX4_isSame_227 (by decide) ?_
        refine i_row4 S hJ hk2 dX4_isSame_228 ?_
        refine lv_isub S.1 S.2.1 dX4_isSame_229 ?_
        refine lv_icmp_ne (tgt := 337) S.1 S.2.1 dX4_isSame_230 (by decide) (fun c9 => absurd (by rw [r1, r4]) c9) (fun cz_230 => ?_)
        refine lv_aload_n S.1 S.2.1 dX4_isSame_233 rfl (lv_at hl 2 rfl) ?_
        refine lv_iload S.1 S.2.1 dX4_isSame_234 (lv_at hl 7 rfl) ?_
        refine cz_i hJ (rzV (As := [.int (nI k)]) (rest := []) S hJ (c_isFrozen l _ σ hp.1.ok hk2 hn hX) (cw_X4_X3_isFrozen S.2.2.2.2 ⟨Nat.le_of_ble_eq_true rfl, Nat.le_of_ble_eq_true rfl⟩) (rcX hJ.iv) rfl hl.1 (Nat.le_of_ble_eq_true rfl) dX4_isSame_236 ⟨by show _ ≤ 2; omega, by show _ ≤ 12; omega⟩) (fun r17 σ17 H locs hq17 hJ => ?_)
        obtain ⟨hr17, hs17⟩ := hq17
        rw [hs17] at hJ
        rw [hr17, show (if (gP σ k).1 = 2 then (1 : Int32) else 0) = 0 from if_neg (by omega)]
        refine lv_aload S.1 S.2.1 dX4_isSame_239 (lv_at hl 0 rfl) ?_
        refine lv_iconst (v := 2) S.1 S.2.1 dX4_isSame_241 (by decide) ?_
        refine i_row2 S hJ hk2 dX4_isSame_242 ?_
        refine lv_if_lt (tgt := 258) S.1 S.2.1 dX4_isSame_243 (by decide) (fun c9 => absurd c9 (nI_pos (by omega))) (fun cz_243 => ?_)
        refine lv_aload S.1 S.2.1 dX4_isSame_246 (lv_at hl 0 rfl) ?_
        refine lv_iconst (v := 5) S.1 S.2.1 dX4_isSame_248 (by decide) ?_
        refine i_row5 S hJ hk2 dX4_isSame_249 ?_
        refine lv_iconst (v := 1) S.1 S.2.1 dX4_isSame_250 (by decide) ?_
        refine lv_icmp_ne (tgt := 258) S.1 S.2.1 dX4_isSame_251 (by decide) (fun cz_251 => ?_) (fun c9 => absurd c9 (by decide))
        refine lv_iconst (v := 0) S.1 S.2.1 dX4_isSame_258 (by decide) ?_
        refine lv_icmp_ne (tgt := 337) S.1 S.2.1 dX4_isSame_259 (by decide) (fun c9 => absurd (by decide) c9) (fun cz_259 => ?_)
        refine lv_aload_n S.1 S.2.1 dX4_isSame_262 rfl (lv_at hl 2 rfl) ?_
        refine lv_iload S.1 S.2.1 dX4_isSame_263 (lv_at hl 7 rfl) ?_
        refine cz_i hJ (rzV (As := [.int (nI k)]) (rest := []) S hJ (c_isThawed l _ σ hp.1.ok hk2 hn hX) (cw_X4_X3_isThawed S.2.2.2.2 ⟨Nat.le_of_ble_eq_true rfl, Nat.le_of_ble_eq_true rfl⟩) (rcX hJ.iv) rfl hl.1 (Nat.le_of_ble_eq_true rfl) dX4_isSame_265 ⟨by show _ ≤ 2; omega, by show _ ≤ 12; omega⟩) (fun r18 σ18 H locs hq18 hJ => ?_)
        obtain ⟨hr18, hs18⟩ := hq18
        rw [hs18] at hJ
        rw [hr18, show (if (gP σ k).1 = 3 then (1 : Int32) else 0) = 0 from if_neg (by omega)]
        refine lv_aload S.1 S.2.1 dX4_isSame_268 (lv_at hl 0 rfl) ?_
        refine lv_iconst (v := 2) S.1 S.2.1 dX4_isSame_270 (by decide) ?_
        refine i_row2 S hJ hk2 dX4_isSame_271 ?_
        refine lv_if_lt (tgt := 287) S.1 S.2.1 dX4_isSame_272 (by decide) (fun c9 => absurd c9 (nI_pos (by omega))) (fun cz_272 => ?_)
        refine lv_aload S.1 S.2.1 dX4_isSame_275 (lv_at hl 0 rfl) ?_
        refine lv_iconst (v := 5) S.1 S.2.1 dX4_isSame_277 (by decide) ?_
        refine i_row5 S hJ hk2 dX4_isSame_278 ?_
        refine lv_iconst (v := 2) S.1 S.2.1 dX4_isSame_279 (by decide) ?_
        refine lv_icmp_ne (tgt := 287) S.1 S.2.1 dX4_isSame_280 (by decide) (fun cz_280 => ?_) (fun c9 => absurd c9 (by decide))
        refine lv_iconst (v := 0) S.1 S.2.1 dX4_isSame_287 (by decide) ?_
        refine lv_icmp_ne (tgt := 337) S.1 S.2.1 dX4_isSame_288 (by decide) (fun c9 => absurd (by decide) c9) (fun cz_288 => ?_)
        refine lv_aload_n S.1 S.2.1 dX4_isSame_291 rfl (lv_at hl 2 rfl) ?_
        refine lv_iload S.1 S.2.1 dX4_isSame_292 (lv_at hl 7 rfl) ?_
        refine cz_i hJ (rzV (As := [.int (nI k)]) (rest := []) S hJ (c_isKept l _ σ hp.1.ok hk2 hn hX) (cw_X4_X3_isKept S.2.2.2.2 ⟨Nat.le_of_ble_eq_true rfl, Nat.le_of_ble_eq_true rfl⟩) (rcX hJ.iv) rfl hl.1 (Nat.le_of_ble_eq_true rfl) dX4_isSame_294 ⟨by show _ ≤ 2; omega, by show _ ≤ 12; omega⟩) (fun r19 σ19 H locs hq19 hJ => ?_)
        obtain ⟨hr19, hs19⟩ := hq19
        rw [hs19] at hJ
        rw [hr19, show (if (gP σ k).1 = 4 then (1 : Int32) else 0) = 0 from if_neg (by omega)]
        refine lv_aload S.1 S.2.1 dX4_isSame_297 (lv_at hl 0 rfl) ?_
        refine lv_bipush (v := 6) S.1 S.2.1 dX4_isSame_299 (by decide) ?_
        refine i_row6 S hJ hk2 dX4_isSame_301 ?_
        refine lv_iconst (v := 1) S.1 S.2.1 dX4_isSame_302 (by decide) ?_
        refine lv_icmp_ne (tgt := 310) S.1 S.2.1 dX4_isSame_303 (by decide) (fun cz_303 => ?_) (fun c9 => absurd c9 (by decide))
        refine lv_iconst (v := 0) S.1 S.2.1 dX4_isSame_310 (by decide) ?_
        refine lv_icmp_ne (tgt := 337) S.1 S.2.1 dX4_isSame_311 (by decide) (fun c9 => absurd (by decide) c9) (fun cz_311 => ?_)
        refine lv_aload_n S.1 S.2.1 dX4_isSame_314 rfl (lv_at hl 2 rfl) ?_
        refine lv_iload S.1 S.2.1 dX4_isSame_315 (lv_at hl 7 rfl) ?_
        refine cz_i hJ (rzV (As := [.int (nI k)]) (rest := []) S hJ (c_isExpired l _ σ hp.1.ok hk2 hn hX) (cw_X4_X3_isExpired S.2.2.2.2 ⟨Nat.le_of_ble_eq_true rfl, Nat.le_of_ble_eq_true rfl⟩) (rcX hJ.iv) rfl hl.1 (Nat.le_of_ble_eq_true rfl) dX4_isSame_317 ⟨by show _ ≤ 2; omega, by show _ ≤ 12; omega⟩) (fun r20 σ20 H locs hq20 hJ => ?_)
        obtain ⟨hr20, hs20⟩ := hq20
        rw [hs20] at hJ
        rw [hr20, show (if (gP σ k).1 = 5 then (1 : Int32) else 0) = 0 from if_neg (by omega)]
        refine lv_aload S.1 S.2.1 dX4_isSame_320 (lv_at hl 0 rfl) ?_
        refine lv_bipush (v := 6) S.1 S.2.1 dX4_isSame_322 (by decide) ?_
        refine i_row6 S hJ hk2 dX4_isSame_324 ?_
        refine lv_iconst (v := 2) S.1 S.2.1 dX4_isSame_325 (by decide) ?_
        refine lv_icmp_ne (tgt := 333) S.1 S.2.1 dX4_isSame_326 (by decide) (fun cz_326 => ?_) (fun c9 => absurd c9 (by decide))
        refine lv_iconst (v := 0) S.1 S.2.1 dX4_isSame_333 (by decide) ?_
        refine lv_icmp_eq (tgt := 339) S.1 S.2.1 dX4_isSame_334 (by decide) (fun cz_334 => ?_) (fun c9 => absurd (by decide) c9)
        refine lv_aload S.1 S.2.1 dX4_isSame_339 (lv_at hl 5 rfl) ?_
        refine lv_aload S.1 S.2.1 dX4_isSame_341 (lv_at hl 0 rfl) ?_
        refine lv_iconst (v := 0) S.1 S.2.1 dX4_isSame_343 (by decide) ?_
        refine i_row0 S hJ hk2 dX4_isSame_344 ?_
        refine lv_dup2_11 S.1 S.2.1 dX4_isSame_345 rfl rfl ?_
        refine i_y S hJ 0 rfl (j := ma) e2 (by omega) dX4_isSame_346 ?_
        refine lv_aload S.1 S.2.1 dX4_isSame_347 (lv_at hl 0 rfl) ?_
        refine lv_iconst (v := 2) S.1 S.2.1 dX4_isSame_349 (by decide) ?_
        refine i_row2 S hJ hk2 dX4_isSame_350 ?_
        refine lv_if_lt (tgt := 358) S.1 S.2.1 dX4_isSame_351 (by decide) (fun c9 => absurd c9 (nI_pos (by omega))) (fun cz_351 => ?_)
        refine lv_iconst (v := 1) S.1 S.2.1 dX4_isSame_354 (by decide) ?_
        refine lv_goto (tgt := 359) S.1 S.2.1 dX4_isSame_355 (by decide) ?_
        refine lv_iadd S.1 S.2.1 dX4_isSame_359 ?_
        refine o_y S hJ 0 rfl (j := ma) e2 (by omega) dX4_isSame_360 (fun H locs hJ => ?_)
        have hJ : Jw G (fw G σ ((q0, q1, q2, q3), aR) (hh, pw, ar, st, ht, n, va_up row k ((nI ma), z1, (nI (gP σ k).2.1), z3, z4, 0, 0)) [(qo, .inl (gC G 4, 6, .inl (va_up fo ma ((fo ma) + 1)))), (qh, .inl (gC G 4, 6, .inl fh))]) s H locs := hJ
        refine lv_aload S.1 S.2.1 dX4_isSame_361 (lv_at hl 6 rfl) ?_
        refine lv_aload S.1 S.2.1 dX4_isSame_363 (lv_at hl 0 rfl) ?_
        refine lv_iconst (v := 0) S.1 S.2.1 dX4_isSame_365 (by decide) ?_
        refine i_row0 S hJ hk2 dX4_isSame_366 ?_
        refine lv_dup2_11 S.1 S.2.1 dX4_isSame_367 rfl rfl ?_
        refine i_y S hJ 1 rfl (j := ma) e2 (by omega) dX4_isSame_368 ?_
        refine lv_aload S.1 S.2.1 dX4_isSame_369 (lv_at hl 0 rfl) ?_
        refine lv_bipush (v := 6) S.1 S.2.1 dX4_isSame_371 (by decide) ?_
        refine i_row6 S hJ hk2 dX4_isSame_373 ?_
        refine lv_iconst (v := 1) S.1 S.2.1 dX4_isSame_374 (by decide) ?_
        refine lv_icmp_ne (tgt := 382) S.1 S.2.1 dX4_isSame_375 (by decide) (fun cz_375 => ?_) (fun c9 => absurd c9 (by decide))
        refine lv_aload S.1 S.2.1 dX4_isSame_382 (lv_at hl 0 rfl) ?_
        refine lv_bipush (v := 6) S.1 S.2.1 dX4_isSame_384 (by decide) ?_
        refine i_row6 S hJ hk2 dX4_isSame_386 ?_
        refine lv_iconst (v := 2) S.1 S.2.1 dX4_isSame_387 (by decide) ?_
        refine lv_icmp_ne (tgt := 395) S.1 S.2.1 dX4_isSame_388 (by decide) (fun cz_388 => ?_) (fun c9 => absurd c9 (by decide))
        refine lv_iconst (v := 0) S.1 S.2.1 dX4_isSame_395 (by decide) ?_
        refine lv_iadd S.1 S.2.1 dX4_isSame_396 ?_
        refine o_y S hJ 1 rfl (j := ma) e2 (by omega) dX4_isSame_397 (fun H locs hJ => ?_)
        have hJ : Jw G (fw G σ ((q0, q1, q2, q3), aR) (hh, pw, ar, st, ht, n, va_up row k ((nI ma), z1, (nI (gP σ k).2.1), z3, z4, 0, 0)) [(qo, .inl (gC G 4, 6, .inl (va_up fo ma ((fo ma) + 1)))), (qh, .inl (gC G 4, 6, .inl (va_up fh ma ((fh ma) + 0))))]) s H locs := hJ
        refine lv_iload_n S.1 S.2.1 dX4_isSame_398 rfl (lv_at hl 4 rfl) ?_
        refine lv_aload S.1 S.2.1 dX4_isSame_399 (lv_at hl 0 rfl) ?_
        refine lv_iconst (v := 2) S.1 S.2.1 dX4_isSame_401 (by decide) ?_
        refine i_row2 S hJ hk2 dX4_isSame_402 ?_
        refine lv_if_lt (tgt := 413) S.1 S.2.1 dX4_isSame_403 (by decide) (fun c9 => absurd c9 (nI_pos (by omega))) (fun cz_403 => ?_)
        refine lv_aload S.1 S.2.1 dX4_isSame_406 (lv_at hl 0 rfl) ?_
        refine lv_iconst (v := 3) S.1 S.2.1 dX4_isSame_408 (by decide) ?_
        refine i_row3 S hJ hk2 dX4_isSame_409 ?_
        refine lv_goto (tgt := 414) S.1 S.2.1 dX4_isSame_410 (by decide) ?_
        refine lv_iadd S.1 S.2.1 dX4_isSame_414 ?_
        refine lv_istore_n (lv' := [(3, .int ((sumN (mnS σ) k) + z3)), (7, .ref (aR k)), (0, .ref q0), (1, .ref (gB G 0)), (2, .int (nI (coldF σ 4))), (4, .ref qo), (5, .ref qh), (6, .int (nI k))]) S.1 S.2.1 dX4_isSame_415 rfl hl (by decide) rfl (fun ls hl => ?_)
        exact nxt 1 0 _ (if_pos (by omega)).symm (by rw [hg]; decide) (by rw [sumN_s]; exact congrArg (fun z => sumN (mnS σ) k + z) (r3.trans (if_pos (show (gP σ k).2.1 < 6 by omega)).symm)) _ _ hJ ls (lv_sub hl [2, 3, 4, 0, 5, 6, 7] rfl)
      · obtain ⟨rz2, rz5, rz6⟩ : z2 = nI (gP σ k).2.1 ∧ z5 = 1 ∧ z6 = 0 := r5.elim (fun q => ⟨q.2.1, by rw [q.2.2.1, hg]; rfl, q.2.2.2⟩) (fun q => absurd q.1 (by omega))
        subst rz2; subst rz5; subst rz6
        refine lv_iload S.1 S.2.1 dX4_isSame_144 (lv_at hl 6 rfl) ?_
        refine lv_aload_n S.1 S.2.1 dX4_isSame_146 rfl (lv_at hl 0 rfl) ?_
        refine q_X4_all S hJ dX4_isSame_147 ?_
        refine l_all S hJ dX4_isSame_150 ?_
        refine lv_icmp_ge (tgt := 422) S.1 S.2.1 dX4_isSame_151 (by decide) (fun c9 => absurd c9 (nI_ge hk2 (by omega))) (fun cz_151 => ?_)
        refine lv_aload_n S.1 S.2.1 dX4_isSame_154 rfl (lv_at hl 0 rfl) ?_
        refine q_X4_all S hJ dX4_isSame_155 ?_
        refine lv_iload S.1 S.2.1 dX4_isSame_158 (lv_at hl 6 rfl) ?_
        have hJ : Jw G (fw G σ ((q0, q1, q2, q3), aR) (hh, pw, ar, st, ht, n, va_up row k ((nI ma), z1, (nI (gP σ k).2.1), z3, z4, 1, 0)) [(qo, .inl (gC G 4, 6, .inl fo)), (qh, .inl (gC G 4, 6, .inl fh))]) s H locs := by rw [← hz, va_up_same]; exact hJ
        refine i_all S hJ (i := k) hk2 hn dX4_isSame_160 ?_
        refine lv_astore (lv' := [(7, .ref (aR k)), (0, .ref q0), (1, .ref (gB G 0)), (2, .int (nI (coldF σ 4))), (3, .int (sumN (mnS σ) k)), (4, .ref qo), (5, .ref qh), (6, .int (nI k))]) S.1 S.2.1 dX4_isSame_161 hl (by decide) rfl (fun ls hl => ?_)
        refine lv_aload_n S.1 S.2.1 dX4_isSame_163 rfl (lv_at hl 2 rfl) ?_
        refine lv_iload S.1 S.2.1 dX4_isSame_164 (lv_at hl 7 rfl) ?_
        refine cz_i hJ (rzV (As := [.int (nI k)]) (rest := []) S hJ (c_makerOf l _ σ hk2 hn hX) (cw_X4_X3_makerOf S.2.2.2.2 ⟨Nat.le_of_ble_eq_true rfl, Nat.le_of_ble_eq_true rfl⟩) (rcX hJ.iv) rfl hl.1 (Nat.le_of_ble_eq_true rfl) dX4_isSame_166 ⟨by show _ ≤ 2; omega, by show _ ≤ 12; omega⟩) (fun r21 σ21 H locs hq21 hJ => ?_)
        obtain ⟨hr21, hs21⟩ := hq21
        rw [hs21] at hJ
        rw [hr21]
        refine lv_aload S.1 S.2.1 dX4_isSame_169 (lv_at hl 0 rfl) ?_
        refine lv_iconst (v := 0) S.1 S.2.1 dX4_isSame_171 (by decide) ?_
        refine i_row0 S hJ hk2 dX4_isSame_172 ?_
        refine lv_icmp_ne (tgt := 337) S.1 S.2.1 dX4_isSame_173 (by decide) (fun c9 => absurd e1 c9) (fun cz_173 => ?_)
        refine lv_aload_n S.1 S.2.1 dX4_isSame_176 rfl (lv_at hl 2 rfl) ?_
        refine lv_iload S.1 S.2.1 dX4_isSame_177 (lv_at hl 7 rfl) ?_
        refine cz_i hJ (rzV (As := [.int (nI k)]) (rest := []) S hJ (c_shelfOf l _ σ hp.1.ok hk2 hn hX) (cw_X4_X3_shelfOf S.2.2.2.2 ⟨Nat.le_of_ble_eq_true rfl, Nat.le_of_ble_eq_true rfl⟩) (rcX hJ.iv) rfl hl.1 (Nat.le_of_ble_eq_true rfl) dX4_isSame_179 ⟨by show _ ≤ 2; omega, by show _ ≤ 12; omega⟩) (fun r22 σ22 H locs hq22 hJ => ?_)
        obtain ⟨hr22, hs22⟩ := hq22
        rw [hs22] at hJ
        rw [hr22]
        refine lv_aload S.1 S.2.1 dX4_isSame_182 (lv_at hl 0 rfl) ?_
        refine lv_iconst (v := 2) S.1 S.2.1 dX4_isSame_184 (by decide) ?_
        refine i_row2 S hJ hk2 dX4_isSame_185 ?_
        refine lv_icmp_ne (tgt := 337) S.1 S.2.1 dX4_isSame_186 (by decide) (fun c9 => absurd (if_pos hs5) c9) (fun cz_186 => ?_)
        refine lv_aload_n S.1 S.2.1 dX4_isSame_189 rfl (lv_at hl 2 rfl) ?_
        refine lv_iload S.1 S.2.1 dX4_isSame_190 (lv_at hl 7 rfl) ?_
        refine cz_i hJ (rzV (As := [.int (nI k)]) (rest := []) S hJ (c_heatOf l _ σ hk2 hn hX) (cw_X4_X3_heatOf S.2.2.2.2 ⟨Nat.le_of_ble_eq_true rfl, Nat.le_of_ble_eq_true rfl⟩) (rcX hJ.iv) rfl hl.1 (Nat.le_of_ble_eq_true rfl) dX4_isSame_192 ⟨by show _ ≤ 2; omega, by show _ ≤ 12; omega⟩) (fun r23 σ23 H locs hq23 hJ => ?_)
        obtain ⟨hr23, hs23⟩ := hq23
        rw [hs23] at hJ
        rw [hr23]
        refine lv_aload S.1 S.2.1 dX4_isSame_195 (lv_at hl 0 rfl) ?_
        refine lv_iconst (v := 3) S.1 S.2.1 dX4_isSame_197 (by decide) ?_
        refine i_row3 S hJ hk2 dX4_isSame_198 ?_
        refine lv_icmp_ne (tgt := 337) S.1 S.2.1 dX4_isSame_199 (by decide) (fun c9 => absurd r3.symm c9) (fun cz_199 => ?_)
        refine lv_aload_n S.1 S.2.1 dX4_isSame_202 rfl (lv_at hl 2 rfl) ?_
        refine lv_iload S.1 S.2.1 dX4_isSame_203 (lv_at hl 7 rfl) ?_
        refine cz_i hJ (rzV (As := [.int (nI k)]) (rest := []) S hJ (c_ageOf l _ σ hk2 hn hX) (cw_X4_X3_ageOf S.2.2.2.2 ⟨Nat.le_of_ble_eq_true rfl, Nat.le_of_ble_eq_true rfl⟩) (rcX hJ.iv) rfl hl.1 (Nat.le_of_ble_eq_true rfl) dX4_isSame_205 ⟨by show _ ≤ 2; omega, by show _ ≤ 12; omega⟩) (fun r24 σ24 H locs hq24 hJ => ?_)
        obtain ⟨hr24, hs24⟩ := hq24
        rw [hs24] at hJ
        rw [hr24]
        refine lv_aload S.1 S.2.1 dX4_isSame_208 (lv_at hl 0 rfl) ?_
        refine lv_iconst (v := 4) S.1 S.2.1 dX4_isSame_210 (by decide) ?_
        refine i_row4 S hJ hk2 dX4_isSame_211 ?_
        refine lv_icmp_ne (tgt := 337) S.1 S.2.1 dX4_isSame_212 (by decide) (fun c9 => absurd r4.symm c9) (fun cz_212 => ?_)
        refine lv_aload_n S.1 S.2.1 dX4_isSame_215 rfl (lv_at hl 2 rfl) ?_
        refine lv_iload S.1 S.2.1 dX4_isSame_216 (lv_at hl 7 rfl) ?_
        refine cz_i hJ (rzV (As := [.int (nI k)]) (rest := []) S hJ (c_hoursLeft l _ σ hk2 hn hX) (cw_X4_X3_hoursLeft S.2.2.2.2 ⟨Nat.le_of_ble_eq_true rfl, Nat.le_of_ble_eq_true rfl⟩) (rcX hJ.iv) rfl hl.1 (Nat.le_of_ble_eq_true rfl) dX4_isSame_218 ⟨by show _ ≤ 2; omega, by show _ ≤ 12; omega⟩) (fun r25 σ25 H locs hq25 hJ => ?_)
        obtain ⟨hr25, hs25⟩ := hq25
        rw [hs25] at hJ
        rw [hr25]
        refine lv_aload S.1 S.2.1 dX4_isSame_221 (lv_at hl 0 rfl) ?_
        refine lv_iconst (v := 1) S.1 S.2.1 dX4_isSame_223 (by decide) ?_
        refine i_row1 S hJ hk2 dX4_isSame_224 ?_
        refine lv_aload S.1 S.2.1 dX4_isSame_225 (lv_at hl 0 rfl) ?_
        refine lv_iconst (v := 4) S.1 S.2.1 dX4_isSame_227 (by decide) ?_
        refine i_row4 S hJ hk2 dX4_isSame_228 ?_
        refine lv_isub S.1 S.2.1 dX4_isSame_229 ?_
        refine lv_icmp_ne (tgt := 337) S.1 S.2.1 dX4_isSame_230 (by decide) (fun c9 => absurd (by rw [r1, r4]) c9) (fun cz_230 => ?_)
        refine lv_aload_n S.1 S.2.1 dX4_isSame_233 rfl (lv_at hl 2 rfl) ?_
        refine lv_iload S.1 S.2.1 dX4_isSame_234 (lv_at hl 7 rfl) ?_
        refine cz_i hJ (rzV (As := [.int (nI k)]) (rest := []) S hJ (c_isFrozen l _ σ hp.1.ok hk2 hn hX) (cw_X4_X3_isFrozen S.2.2.2.2 ⟨Nat.le_of_ble_eq_true rfl, Nat.le_of_ble_eq_true rfl⟩) (rcX hJ.iv) rfl hl.1 (Nat.le_of_ble_eq_true rfl) dX4_isSame_236 ⟨by show _ ≤ 2; omega, by show _ ≤ 12; omega⟩) (fun r26 σ26 H locs hq26 hJ => ?_)
        obtain ⟨hr26, hs26⟩ := hq26
        rw [hs26] at hJ
        rw [hr26, show (if (gP σ k).1 = 2 then (1 : Int32) else 0) = 1 from if_pos hg]
        refine lv_aload S.1 S.2.1 dX4_isSame_239 (lv_at hl 0 rfl) ?_
        refine lv_iconst (v := 2) S.1 S.2.1 dX4_isSame_241 (by decide) ?_
        refine i_row2 S hJ hk2 dX4_isSame_242 ?_
        refine lv_if_lt (tgt := 258) S.1 S.2.1 dX4_isSame_243 (by decide) (fun c9 => absurd c9 (nI_pos (by omega))) (fun cz_243 => ?_)
        refine lv_aload S.1 S.2.1 dX4_isSame_246 (lv_at hl 0 rfl) ?_
        refine lv_iconst (v := 5) S.1 S.2.1 dX4_isSame_248 (by decide) ?_
        refine i_row5 S hJ hk2 dX4_isSame_249 ?_
        refine lv_iconst (v := 1) S.1 S.2.1 dX4_isSame_250 (by decide) ?_
        refine lv_icmp_ne (tgt := 258) S.1 S.2.1 dX4_isSame_251 (by decide) (fun c9 => absurd (by decide) c9) (fun cz_251 => ?_)
        refine lv_iconst (v := 1) S.1 S.2.1 dX4_isSame_254 (by decide) ?_
        refine lv_goto (tgt := 259) S.1 S.2.1 dX4_isSame_255 (by decide) ?_
        refine lv_icmp_ne (tgt := 337) S.1 S.2.1 dX4_isSame_259 (by decide) (fun c9 => absurd (by decide) c9) (fun cz_259 => ?_)
        refine lv_aload_n S.1 S.2.1 dX4_isSame_262 rfl (lv_at hl 2 rfl) ?_
        refine lv_iload S.1 S.2.1 dX4_isSame_263 (lv_at hl 7 rfl) ?_
        refine cz_i hJ (rzV (As := [.int (nI k)]) (rest := []) S hJ (c_isThawed l _ σ hp.1.ok hk2 hn hX) (cw_X4_X3_isThawed S.2.2.2.2 ⟨Nat.le_of_ble_eq_true rfl, Nat.le_of_ble_eq_true rfl⟩) (rcX hJ.iv) rfl hl.1 (Nat.le_of_ble_eq_true rfl) dX4_isSame_265 ⟨by show _ ≤ 2; omega, by show _ ≤ 12; omega⟩) (fun r27 σ27 H locs hq27 hJ => ?_)
        obtain ⟨hr27, hs27⟩ := hq27
        rw [hs27] at hJ
        rw [hr27, show (if (gP σ k).1 = 3 then (1 : Int32) else 0) = 0 from if_neg (by omega)]
        refine lv_aload S.1 S.2.1 dX4_isSame_268 (lv_at hl 0 rfl) ?_
        refine lv_iconst (v := 2) S.1 S.2.1 dX4_isSame_270 (by decide) ?_
        refine i_row2 S hJ hk2 dX4_isSame_271 ?_
        refine lv_if_lt (tgt := 287) S.1 S.2.1 dX4_isSame_272 (by decide) (fun c9 => absurd c9 (nI_pos (by omega))) (fun cz_272 => ?_)
        refine lv_aload S.1 S.2.1 dX4_isSame_275 (lv_at hl 0 rfl) ?_
        refine lv_iconst (v := 5) S.1 S.2.1 dX4_isSame_277 (by decide) ?_
        refine i_row5 S hJ hk2 dX4_isSame_278 ?_
        refine lv_iconst (v := 2) S.1 S.2.1 dX4_isSame_279 (by decide) ?_
        refine lv_icmp_ne (tgt := 287) S.1 S.2.1 dX4_isSame_280 (by decide) (fun cz_280 => ?_) (fun c9 => absurd c9 (by decide))
        refine lv_iconst (v := 0) S.1 S.2.1 dX4_isSame_287 (by decide) ?_
        refine lv_icmp_ne (tgt := 337) S.1 S.2.1 dX4_isSame_288 (by decide) (fun c9 => absurd (by decide) c9) (fun cz_288 => ?_)
        refine lv_aload_n S.1 S.2.1 dX4_isSame_291 rfl (lv_at hl 2 rfl) ?_
        refine lv_iload S.1 S.2.1 dX4_isSame_292 (lv_at hl 7 rfl) ?_
        refine cz_i hJ (rzV (As := [.int (nI k)]) (rest := []) S hJ (c_isKept l _ σ hp.1.ok hk2 hn hX) (cw_X4_X3_isKept S.2.2.2.2 ⟨Nat.le_of_ble_eq_true rfl, Nat.le_of_ble_eq_true rfl⟩) (rcX hJ.iv) rfl hl.1 (Nat.le_of_ble_eq_true rfl) dX4_isSame_294 ⟨by show _ ≤ 2; omega, by show _ ≤ 12; omega⟩) (fun r28 σ28 H locs hq28 hJ => ?_)
        obtain ⟨hr28, hs28⟩ := hq28
        rw [hs28] at hJ
        rw [hr28, show (if (gP σ k).1 = 4 then (1 : Int32) else 0) = 0 from if_neg (by omega)]
        refine lv_aload S.1 S.2.1 dX4_isSame_297 (lv_at hl 0 rfl) ?_
        refine lv_bipush (v := 6) S.1 S.2.1 dX4_isSame_299 (by decide) ?_
        refine i_row6 S hJ hk2 dX4_isSame_301 ?_
        refine lv_iconst (v := 1) S.1 S.2.1 dX4_isSame_302 (by decide) ?_
        refine lv_icmp_ne (tgt := 310) S.1 S.2.1 dX4_isSame_303 (by decide) (fun cz_303 => ?_) (fun c9 => absurd c9 (by decide))
        refine lv_iconst (v := 0) S.1 S.2.1 dX4_isSame_310 (by decide) ?_
        refine lv_icmp_ne (tgt := 337) S.1 S.2.1 dX4_isSame_311 (by decide) (fun c9 => absurd (by decide) c9) (fun cz_311 => ?_)
        refine lv_aload_n S.1 S.2.1 dX4_isSame_314 rfl (lv_at hl 2 rfl) ?_
        refine lv_iload S.1 S.2.1 dX4_isSame_315 (lv_at hl 7 rfl) ?_
        refine cz_i hJ (rzV (As := [.int (nI k)]) (rest := []) S hJ (c_isExpired l _ σ hp.1.ok hk2 hn hX) (cw_X4_X3_isExpired S.2.2.2.2 ⟨Nat.le_of_ble_eq_true rfl, Nat.le_of_ble_eq_true rfl⟩) (rcX hJ.iv) rfl hl.1 (Nat.le_of_ble_eq_true rfl) dX4_isSame_317 ⟨by show _ ≤ 2; omega, by show _ ≤ 12; omega⟩) (fun r29 σ29 H locs hq29 hJ => ?_)
        obtain ⟨hr29, hs29⟩ := hq29
        rw [hs29] at hJ
        rw [hr29, show (if (gP σ k).1 = 5 then (1 : Int32) else 0) = 0 from if_neg (by omega)]
        refine lv_aload S.1 S.2.1 dX4_isSame_320 (lv_at hl 0 rfl) ?_
        refine lv_bipush (v := 6) S.1 S.2.1 dX4_isSame_322 (by decide) ?_
        refine i_row6 S hJ hk2 dX4_isSame_324 ?_
        refine lv_iconst (v := 2) S.1 S.2.1 dX4_isSame_325 (by decide) ?_
        refine lv_icmp_ne (tgt := 333) S.1 S.2.1 dX4_isSame_326 (by decide) (fun cz_326 => ?_) (fun c9 => absurd c9 (by decide))
        refine lv_iconst (v := 0) S.1 S.2.1 dX4_isSame_333 (by decide) ?_
        refine lv_icmp_eq (tgt := 339) S.1 S.2.1 dX4_isSame_334 (by decide) (fun cz_334 => ?_) (fun c9 => absurd (by decide) c9)
        refine lv_aload S.1 S.2.1 dX4_isSame_339 (lv_at hl 5 rfl) ?_
        refine lv_aload S.1 S.2.1 dX4_isSame_341 (lv_at hl 0 rfl) ?_
        refine lv_iconst (v := 0) S.1 S.2.1 dX4_isSame_343 (by decide) ?_
        refine i_row0 S hJ hk2 dX4_isSame_344 ?_
        refine lv_dup2_11 S.1 S.2.1 dX4_isSame_345 rfl rfl ?_
        refine i_y S hJ 0 rfl (j := ma) e2 (by omega) dX4_isSame_346 ?_
        refine lv_aload S.1 S.2.1 dX4_isSame_347 (lv_at hl 0 rfl) ?_
        refine lv_iconst (v := 2) S.1 S.2.1 dX4_isSame_349 (by decide) ?_
        refine i_row2 S hJ hk2 dX4_isSame_350 ?_
        refine lv_if_lt (tgt := 358) S.1 S.2.1 dX4_isSame_351 (by decide) (fun c9 => absurd c9 (nI_pos (by omega))) (fun cz_351 => ?_)
        refine lv_iconst (v := 1) S.1 S.2.1 dX4_isSame_354 (by decide) ?_
        refine lv_goto (tgt := 359) S.1 S.2.1 dX4_isSame_355 (by decide) ?_
        refine lv_iadd S.1 S.2.1 dX4_isSame_359 ?_
        refine o_y S hJ 0 rfl (j := ma) e2 (by omega) dX4_isSame_360 (fun H locs hJ => ?_)
        have hJ : Jw G (fw G σ ((q0, q1, q2, q3), aR) (hh, pw, ar, st, ht, n, va_up row k ((nI ma), z1, (nI (gP σ k).2.1), z3, z4, 1, 0)) [(qo, .inl (gC G 4, 6, .inl (va_up fo ma ((fo ma) + 1)))), (qh, .inl (gC G 4, 6, .inl fh))]) s H locs := hJ
        refine lv_aload S.1 S.2.1 dX4_isSame_361 (lv_at hl 6 rfl) ?_
        refine lv_aload S.1 S.2.1 dX4_isSame_363 (lv_at hl 0 rfl) ?_
        refine lv_iconst (v := 0) S.1 S.2.1 dX4_isSame_365 (by decide) ?_
        refine i_row0 S hJ hk2 dX4_isSame_366 ?_
        refine lv_dup2_11 S.1 S.2.1 dX4_isSame_367 rfl rfl ?_
        refine i_y S hJ 1 rfl (j := ma) e2 (by omega) dX4_isSame_368 ?_
        refine lv_aload S.1 S.2.1 dX4_isSame_369 (lv_at hl 0 rfl) ?_
        refine lv_bipush (v := 6) S.1 S.2.1 dX4_isSame_371 (by decide) ?_
        refine i_row6 S hJ hk2 dX4_isSame_373 ?_
        refine lv_iconst (v := 1) S.1 S.2.1 dX4_isSame_374 (by decide) ?_
        refine lv_icmp_ne (tgt := 382) S.1 S.2.1 dX4_isSame_375 (by decide) (fun cz_375 => ?_) (fun c9 => absurd c9 (by decide))
        refine lv_aload S.1 S.2.1 dX4_isSame_382 (lv_at hl 0 rfl) ?_
        refine lv_bipush (v := 6) S.1 S.2.1 dX4_isSame_384 (by decide) ?_
        refine i_row6 S hJ hk2 dX4_isSame_386 ?_
        refine lv_iconst (v := 2) S.1 S.2.1 dX4_isSame_387 (by decide) ?_
        refine lv_icmp_ne (tgt := 395) S.1 S.2.1 dX4_isSame_388 (by decide) (fun cz_388 => ?_) (fun c9 => absurd c9 (by decide))
        refine lv_iconst (v := 0) S.1 S.2.1 dX4_isSame_395 (by decide) ?_
        refine lv_iadd S.1 S.2.1 dX4_isSame_396 ?_
        refine o_y S hJ 1 rfl (j := ma) e2 (by omega) dX4_isSame_397 (fun H locs hJ => ?_)
        have hJ : Jw G (fw G σ ((q0, q1, q2, q3), aR) (hh, pw, ar, st, ht, n, va_up row k ((nI ma), z1, (nI (gP σ k).2.1), z3, z4, 1, 0)) [(qo, .inl (gC G 4, 6, .inl (va_up fo ma ((fo ma) + 1)))), (qh, .inl (gC G 4, 6, .inl (va_up fh ma ((fh ma) + 0))))]) s H locs := hJ
        refine lv_iload_n S.1 S.2.1 dX4_isSame_398 rfl (lv_at hl 4 rfl) ?_
        refine lv_aload S.1 S.2.1 dX4_isSame_399 (lv_at hl 0 rfl) ?_
        refine lv_iconst (v := 2) S.1 S.2.1 dX4_isSame_401 (by decide) ?_
        refine i_row2 S hJ hk2 dX4_isSame_402 ?_
        refine lv_if_lt (tgt := 413) S.1 S.2.1 dX4_isSame_403 (by decide) (fun c9 => absurd c9 (nI_pos (by omega))) (fun cz_403 => ?_)
        refine lv_aload S.1 S.2.1 dX4_isSame_406 (lv_at hl 0 rfl) ?_
        refine lv_iconst (v := 3) S.1 S.2.1 dX4_isSame_408 (by decide) ?_
        refine i_row3 S hJ hk2 dX4_isSame_409 ?_
        refine lv_goto (tgt := 414) S.1 S.2.1 dX4_isSame_410 (by decide) ?_
        refine lv_iadd S.1 S.2.1 dX4_isSame_414 ?_
        refine lv_istore_n (lv' := [(3, .int ((sumN (mnS σ) k) + z3)), (7, .ref (aR k)), (0, .ref q0), (1, .ref (gB G 0)), (2, .int (nI (coldF σ 4))), (4, .ref qo), (5, .ref qh), (6, .int (nI k))]) S.1 S.2.1 dX4_isSame_415 rfl hl (by decide) rfl (fun ls hl => ?_)
        exact nxt 1 0 _ (if_pos (by omega)).symm (by rw [hg]; decide) (by rw [sumN_s]; exact congrArg (fun z => sumN (mnS σ) k + z) (r3.trans (if_pos (show (gP σ k).2.1 < 6 by omega)).symm)) _ _ hJ ls (lv_sub hl [2, 3, 4, 0, 5, 6, 7] rfl)
      · obtain ⟨rz2, rz5, rz6⟩ : z2 = nI (gP σ k).2.1 ∧ z5 = 2 ∧ z6 = 0 := r5.elim (fun q => ⟨q.2.1, by rw [q.2.2.1, hg]; rfl, q.2.2.2⟩) (fun q => absurd q.1 (by omega))
        subst rz2; subst rz5; subst rz6
        refine lv_iload S.1 S.2.1 dX4_isSame_144 (lv_at hl 6 rfl) ?_
        refine lv_aload_n S.1 S.2.1 dX4_isSame_146 rfl (lv_at hl 0 rfl) ?_
        refine q_X4_all S hJ dX4_isSame_147 ?_
        refine l_all S hJ dX4_isSame_150 ?_
        refine lv_icmp_ge (tgt := 422) S.1 S.2.1 dX4_isSame_151 (by decide) (fun c9 => absurd c9 (nI_ge hk2 (by omega))) (fun cz_151 => ?_)
        refine lv_aload_n S.1 S.2.1 dX4_isSame_154 rfl (lv_at hl 0 rfl) ?_
        refine q_X4_all S hJ dX4_isSame_155 ?_
        refine lv_iload S.1 S.2.1 dX4_isSame_158 (lv_at hl 6 rfl) ?_
        have hJ : Jw G (fw G σ ((q0, q1, q2, q3), aR) (hh, pw, ar, st, ht, n, va_up row k ((nI ma), z1, (nI (gP σ k).2.1), z3, z4, 2, 0)) [(qo, .inl (gC G 4, 6, .inl fo)), (qh, .inl (gC G 4, 6, .inl fh))]) s H locs := by rw [← hz, va_up_same]; exact hJ
        refine i_all S hJ (i := k) hk2 hn dX4_isSame_160 ?_
        refine lv_astore (lv' := [(7, .ref (aR k)), (0, .ref q0), (1, .ref (gB G 0)), (2, .int (nI (coldF σ 4))), (3, .int (sumN (mnS σ) k)), (4, .ref qo), (5, .ref qh), (6, .int (nI k))]) S.1 S.2.1 dX4_isSame_161 hl (by decide) rfl (fun ls hl => ?_)
        refine lv_aload_n S.1 S.2.1 dX4_isSame_163 rfl (lv_at hl 2 rfl) ?_
        refine lv_iload S.1 S.2.1 dX4_isSame_164 (lv_at hl 7 rfl) ?_
        refine cz_i hJ (rzV (As := [.int (nI k)]) (rest := []) S hJ (c_makerOf l _ σ hk2 hn hX) (cw_X4_X3_makerOf S.2.2.2.2 ⟨Nat.le_of_ble_eq_true rfl, Nat.le_of_ble_eq_true rfl⟩) (rcX hJ.iv) rfl hl.1 (Nat.le_of_ble_eq_true rfl) dX4_isSame_166 ⟨by show _ ≤ 2; omega, by show _ ≤ 12; omega⟩) (fun r30 σ30 H locs hq30 hJ => ?_)
        obtain ⟨hr30, hs30⟩ := hq30
        rw [hs30] at hJ
        rw [hr30]
        refine lv_aload S.1 S.2.1 dX4_isSame_169 (lv_at hl 0 rfl) ?_
        refine lv_iconst (v := 0) S.1 S.2.1 dX4_isSame_171 (by decide) ?_
        refine i_row0 S hJ hk2 dX4_isSame_172 ?_
        refine lv_icmp_ne (tgt := 337) S.1 S.2.1 dX4_isSame_173 (by decide) (fun c9 => absurd e1 c9) (fun cz_173 => ?_)
        refine lv_aload_n S.1 S.2.1 dX4_isSame_176 rfl (lv_at hl 2 rfl) ?_
        refine lv_iload S.1 S.2.1 dX4_isSame_177 (lv_at hl 7 rfl) ?_
        refine cz_i hJ (rzV (As := [.int (nI k)]) (rest := []) S hJ (c_shelfOf l _ σ hp.1.ok hk2 hn hX) (cw_X4_X3_shelfOf S.2.2.2.2 ⟨Nat.le_of_ble_eq_true rfl, Nat.le_of_ble_eq_true rfl⟩) (rcX hJ.iv) rfl hl.1 (Nat.le_of_ble_eq_true rfl) dX4_isSame_179 ⟨by show _ ≤ 2; omega, by show _ ≤ 12; omega⟩) (fun r31 σ31 H locs hq31 hJ => ?_)
        obtain ⟨hr31, hs31⟩ := hq31
        rw [hs31] at hJ
        rw [hr31]
        refine lv_aload S.1 S.2.1 dX4_isSame_182 (lv_at hl 0 rfl) ?_
        refine lv_iconst (v := 2) S.1 S.2.1 dX4_isSame_184 (by decide) ?_
        refine i_row2 S hJ hk2 dX4_isSame_185 ?_
        refine lv_icmp_ne (tgt := 337) S.1 S.2.1 dX4_isSame_186 (by decide) (fun c9 => absurd (if_pos hs5) c9) (fun cz_186 => ?_)
        refine lv_aload_n S.1 S.2.1 dX4_isSame_189 rfl (lv_at hl 2 rfl) ?_
        refine lv_iload S.1 S.2.1 dX4_isSame_190 (lv_at hl 7 rfl) ?_
        refine cz_i hJ (rzV (As := [.int (nI k)]) (rest := []) S hJ (c_heatOf l _ σ hk2 hn hX) (cw_X4_X3_heatOf S.2.2.2.2 ⟨Nat.le_of_ble_eq_true rfl, Nat.le_of_ble_eq_true rfl⟩) (rcX hJ.iv) rfl hl.1 (Nat.le_of_ble_eq_true rfl) dX4_isSame_192 ⟨by show _ ≤ 2; omega, by show _ ≤ 12; omega⟩) (fun r32 σ32 H locs hq32 hJ => ?_)
        obtain ⟨hr32, hs32⟩ := hq32
        rw [hs32] at hJ
        rw [hr32]
        refine lv_aload S.1 S.2.1 dX4_isSame_195 (lv_at hl 0 rfl) ?_
        refine lv_iconst (v := 3) S.1 S.2.1 dX4_isSame_197 (by decide) ?_
        refine i_row3 S hJ hk2 dX4_isSame_198 ?_
        refine lv_icmp_ne (tgt := 337) S.1 S.2.1 dX4_isSame_199 (by decide) (fun c9 => absurd r3.symm c9) (fun cz_199 => ?_)
        refine lv_aload_n S.1 S.2.1 dX4_isSame_202 rfl (lv_at hl 2 rfl) ?_
        refine lv_iload S.1 S.2.1 dX4_isSame_203 (lv_at hl 7 rfl) ?_
        refine cz_i hJ (rzV (As := [.int (nI k)]) (rest := []) S hJ (c_ageOf l _ σ hk2 hn hX) (cw_X4_X3_ageOf S.2.2.2.2 ⟨Nat.le_of_ble_eq_true rfl, Nat.le_of_ble_eq_true rfl⟩) (rcX hJ.iv) rfl hl.1 (Nat.le_of_ble_eq_true rfl) dX4_isSame_205 ⟨by show _ ≤ 2; omega, by show _ ≤ 12; omega⟩) (fun r33 σ33 H locs hq33 hJ => ?_)
        obtain ⟨hr33, hs33⟩ := hq33
        rw [hs33] at hJ
        rw [hr33]
        refine lv_aload S.1 S.2.1 dX4_isSame_208 (lv_at hl 0 rfl) ?_
        refine lv_iconst (v := 4) S.1 S.2.1 dX4_isSame_210 (by decide) ?_
        refine i_row4 S hJ hk2 dX4_isSame_211 ?_
        refine lv_icmp_ne (tgt := 337) S.1 S.2.1 dX4_isSame_212 (by decide) (fun c9 => absurd r4.symm c9) (fun cz_212 => ?_)
        refine lv_aload_n S.1 S.2.1 dX4_isSame_215 rfl (lv_at hl 2 rfl) ?_
        refine lv_iload S.1 S.2.1 dX4_isSame_216 (lv_at hl 7 rfl) ?_
        refine cz_i hJ (rzV (As := [.int (nI k)]) (rest := []) S hJ (c_hoursLeft l _ σ hk2 hn hX) (cw_X4_X3_hoursLeft S.2.2.2.2 ⟨Nat.le_of_ble_eq_true rfl, Nat.le_of_ble_eq_true rfl⟩) (rcX hJ.iv) rfl hl.1 (Nat.le_of_ble_eq_true rfl) dX4_isSame_218 ⟨by show _ ≤ 2; omega, by show _ ≤ 12; omega⟩) (fun r34 σ34 H locs hq34 hJ => ?_)
        obtain ⟨hr34, hs34⟩ := hq34
        rw [hs34] at hJ
        rw [hr34]
        refine lv_aload S.1 S.2.1 dX4_isSame_221 (lv_at hl 0 rfl) ?_
        refine lv_iconst (v := 1) S.1 S.2.1 dX4_isSame_223 (by decide) ?_
        refine i_row1 S hJ hk2 dX4_isSame_224 ?_
        refine lv_aload S.1 S.2.1 dX4_isSame_225 (lv_at hl 0 rfl) ?_
        refine lv_iconst (v := 4) S.1 S.2.1 dX4_isSame_227 (by decide) ?_
        refine i_row4 S hJ hk2 dX4_isSame_228 ?_
        refine lv_isub S.1 S.2.1 dX4_isSame_229 ?_
        refine lv_icmp_ne (tgt := 337) S.1 S.2.1 dX4_isSame_230 (by decide) (fun c9 => absurd (by rw [r1, r4]) c9) (fun cz_230 => ?_)
        refine lv_aload_n S.1 S.2.1 dX4_isSame_233 rfl (lv_at hl 2 rfl) ?_
        refine lv_iload S.1 S.2.1 dX4_isSame_234 (lv_at hl 7 rfl) ?_
        refine cz_i hJ (rzV (As := [.int (nI k)]) (rest := []) S hJ (c_isFrozen l _ σ hp.1.ok hk2 hn hX) (cw_X4_X3_isFrozen S.2.2.2.2 ⟨Nat.le_of_ble_eq_true rfl, Nat.le_of_ble_eq_true rfl⟩) (rcX hJ.iv) rfl hl.1 (Nat.le_of_ble_eq_true rfl) dX4_isSame_236 ⟨by show _ ≤ 2; omega, by show _ ≤ 12; omega⟩) (fun r35 σ35 H locs hq35 hJ => ?_)
        obtain ⟨hr35, hs35⟩ := hq35
        rw [hs35] at hJ
        rw [hr35, show (if (gP σ k).1 = 2 then (1 : Int32) else 0) = 0 from if_neg (by omega)]
        refine lv_aload S.1 S.2.1 dX4_isSame_239 (lv_at hl 0 rfl) ?_
        refine lv_iconst (v := 2) S.1 S.2.1 dX4_isSame_241 (by decide) ?_
        refine i_row2 S hJ hk2 dX4_isSame_242 ?_
        refine lv_if_lt (tgt := 258) S.1 S.2.1 dX4_isSame_243 (by decide) (fun c9 => absurd c9 (nI_pos (by omega))) (fun cz_243 => ?_)
        refine lv_aload S.1 S.2.1 dX4_isSame_246 (lv_at hl 0 rfl) ?_
        refine lv_iconst (v := 5) S.1 S.2.1 dX4_isSame_248 (by decide) ?_
        refine i_row5 S hJ hk2 dX4_isSame_249 ?_
        refine lv_iconst (v := 1) S.1 S.2.1 dX4_isSame_250 (by decide) ?_
        refine lv_icmp_ne (tgt := 258) S.1 S.2.1 dX4_isSame_251 (by decide) (fun cz_251 => ?_) (fun c9 => absurd c9 (by decide))
        refine lv_iconst (v := 0) S.1 S.2.1 dX4_isSame_258 (by decide) ?_
        refine lv_icmp_ne (tgt := 337) S.1 S.2.1 dX4_isSame_259 (by decide) (fun c9 => absurd (by decide) c9) (fun cz_259 => ?_)
        refine lv_aload_n S.1 S.2.1 dX4_isSame_262 rfl (lv_at hl 2 rfl) ?_
        refine lv_iload S.1 S.2.1 dX4_isSame_263 (lv_at hl 7 rfl) ?_
        refine cz_i hJ (rzV (As := [.int (nI k)]) (rest := []) S hJ (c_isThawed l _ σ hp.1.ok hk2 hn hX) (cw_X4_X3_isThawed S.2.2.2.2 ⟨Nat.le_of_ble_eq_true rfl, Nat.le_of_ble_eq_true rfl⟩) (rcX hJ.iv) rfl hl.1 (Nat.le_of_ble_eq_true rfl) dX4_isSame_265 ⟨by show _ ≤ 2; omega, by show _ ≤ 12; omega⟩) (fun r36 σ36 H locs hq36 hJ => ?_)
        obtain ⟨hr36, hs36⟩ := hq36
        rw [hs36] at hJ
        rw [hr36, show (if (gP σ k).1 = 3 then (1 : Int32) else 0) = 1 from if_pos hg]
        refine lv_aload S.1 S.2.1 dX4_isSame_268 (lv_at hl 0 rfl) ?_
        refine lv_iconst (v := 2) S.1 S.2.1 dX4_isSame_270 (by decide) ?_
        refine i_row2 S hJ hk2 dX4_isSame_271 ?_
        refine lv_if_lt (tgt := 287) S.1 S.2.1 dX4_isSame_272 (by decide) (fun c9 => absurd c9 (nI_pos (by omega))) (fun cz_272 => ?_)
        refine lv_aload S.1 S.2.1 dX4_isSame_275 (lv_at hl 0 rfl) ?_
        refine lv_iconst (v := 5) S.1 S.2.1 dX4_isSame_277 (by decide) ?_
        refine i_row5 S hJ hk2 dX4_isSame_278 ?_
        refine lv_iconst (v := 2) S.1 S.2.1 dX4_isSame_279 (by decide) ?_
        refine lv_icmp_ne (tgt := 287) S.1 S.2.1 dX4_isSame_280 (by decide) (fun c9 => absurd (by decide) c9) (fun cz_280 => ?_)
        refine lv_iconst (v := 1) S.1 S.2.1 dX4_isSame_283 (by decide) ?_
        refine lv_goto (tgt := 288) S.1 S.2.1 dX4_isSame_284 (by decide) ?_
        refine lv_icmp_ne (tgt := 337) S.1 S.2.1 dX4_isSame_288 (by decide) (fun c9 => absurd (by decide) c9) (fun cz_288 => ?_)
        refine lv_aload_n S.1 S.2.1 dX4_isSame_291 rfl (lv_at hl 2 rfl) ?_
        refine lv_iload S.1 S.2.1 dX4_isSame_292 (lv_at hl 7 rfl) ?_
        refine cz_i hJ (rzV (As := [.int (nI k)]) (rest := []) S hJ (c_isKept l _ σ hp.1.ok hk2 hn hX) (cw_X4_X3_isKept S.2.2.2.2 ⟨Nat.le_of_ble_eq_true rfl, Nat.le_of_ble_eq_true rfl⟩) (rcX hJ.iv) rfl hl.1 (Nat.le_of_ble_eq_true rfl) dX4_isSame_294 ⟨by show _ ≤ 2; omega, by show _ ≤ 12; omega⟩) (fun r37 σ37 H locs hq37 hJ => ?_)
        obtain ⟨hr37, hs37⟩ := hq37
        rw [hs37] at hJ
        rw [hr37, show (if (gP σ k).1 = 4 then (1 : Int32) else 0) = 0 from if_neg (by omega)]
        refine lv_aload S.1 S.2.1 dX4_isSame_297 (lv_at hl 0 rfl) ?_
        refine lv_bipush (v := 6) S.1 S.2.1 dX4_isSame_299 (by decide) ?_
        refine i_row6 S hJ hk2 dX4_isSame_301 ?_
        refine lv_iconst (v := 1) S.1 S.2.1 dX4_isSame_302 (by decide) ?_
        refine lv_icmp_ne (tgt := 310) S.1 S.2.1 dX4_isSame_303 (by decide) (fun cz_303 => ?_) (fun c9 => absurd c9 (by decide))
        refine lv_iconst (v := 0) S.1 S.2.1 dX4_isSame_310 (by decide) ?_
        refine lv_icmp_ne (tgt := 337) S.1 S.2.1 dX4_isSame_311 (by decide) (fun c9 => absurd (by decide) c9) (fun cz_311 => ?_)
        refine lv_aload_n S.1 S.2.1 dX4_isSame_314 rfl (lv_at hl 2 rfl) ?_
        refine lv_iload S.1 S.2.1 dX4_isSame_315 (lv_at hl 7 rfl) ?_
        refine cz_i hJ (rzV (As := [.int (nI k)]) (rest := []) S hJ (c_isExpired l _ σ hp.1.ok hk2 hn hX) (cw_X4_X3_isExpired S.2.2.2.2 ⟨Nat.le_of_ble_eq_true rfl, Nat.le_of_ble_eq_true rfl⟩) (rcX hJ.iv) rfl hl.1 (Nat.le_of_ble_eq_true rfl) dX4_isSame_317 ⟨by show _ ≤ 2; omega, by show _ ≤ 12; omega⟩) (fun r38 σ38 H locs hq38 hJ => ?_)
        obtain ⟨hr38, hs38⟩ := hq38
        rw [hs38] at hJ
        rw [hr38, show (if (gP σ k).1 = 5 then (1 : Int32) else 0) = 0 from if_neg (by omega)]
        refine lv_aload S.1 S.2.1 dX4_isSame_320 (lv_at hl 0 rfl) ?_
        refine lv_bipush (v := 6) S.1 S.2.1 dX4_isSame_322 (by decide) ?_
        refine i_row6 S hJ hk2 dX4_isSame_324 ?_
        refine lv_iconst (v := 2) S.1 S.2.1 dX4_isSame_325 (by decide) ?_
        refine lv_icmp_ne (tgt := 333) S.1 S.2.1 dX4_isSame_326 (by decide) (fun cz_326 => ?_) (fun c9 => absurd c9 (by decide))
        refine lv_iconst (v := 0) S.1 S.2.1 dX4_isSame_333 (by decide) ?_
        refine lv_icmp_eq (tgt := 339) S.1 S.2.1 dX4_isSame_334 (by decide) (fun cz_334 => ?_) (fun c9 => absurd (by decide) c9)
        refine lv_aload S.1 S.2.1 dX4_isSame_339 (lv_at hl 5 rfl) ?_
        refine lv_aload S.1 S.2.1 dX4_isSame_341 (lv_at hl 0 rfl) ?_
        refine lv_iconst (v := 0) S.1 S.2.1 dX4_isSame_343 (by decide) ?_
        refine i_row0 S hJ hk2 dX4_isSame_344 ?_
        refine lv_dup2_11 S.1 S.2.1 dX4_isSame_345 rfl rfl ?_
        refine i_y S hJ 0 rfl (j := ma) e2 (by omega) dX4_isSame_346 ?_
        refine lv_aload S.1 S.2.1 dX4_isSame_347 (lv_at hl 0 rfl) ?_
        refine lv_iconst (v := 2) S.1 S.2.1 dX4_isSame_349 (by decide) ?_
        refine i_row2 S hJ hk2 dX4_isSame_350 ?_
        refine lv_if_lt (tgt := 358) S.1 S.2.1 dX4_isSame_351 (by decide) (fun c9 => absurd c9 (nI_pos (by omega))) (fun cz_351 => ?_)
        refine lv_iconst (v := 1) S.1 S.2.1 dX4_isSame_354 (by decide) ?_
        refine lv_goto (tgt := 359) S.1 S.2.1 dX4_isSame_355 (by decide) ?_
        refine lv_iadd S.1 S.2.1 dX4_isSame_359 ?_
        refine o_y S hJ 0 rfl (j := ma) e2 (by omega) dX4_isSame_360 (fun H locs hJ => ?_)
        have hJ : Jw G (fw G σ ((q0, q1, q2, q3), aR) (hh, pw, ar, st, ht, n, va_up row k ((nI ma), z1, (nI (gP σ k).2.1), z3, z4, 2, 0)) [(qo, .inl (gC G 4, 6, .inl (va_up fo ma ((fo ma) + 1)))), (qh, .inl (gC G 4, 6, .inl fh))]) s H locs := hJ
        refine lv_aload S.1 S.2.1 dX4_isSame_361 (lv_at hl 6 rfl) ?_
        refine lv_aload S.1 S.2.1 dX4_isSame_363 (lv_at hl 0 rfl) ?_
        refine lv_iconst (v := 0) S.1 S.2.1 dX4_isSame_365 (by decide) ?_
        refine i_row0 S hJ hk2 dX4_isSame_366 ?_
        refine lv_dup2_11 S.1 S.2.1 dX4_isSame_367 rfl rfl ?_
        refine i_y S hJ 1 rfl (j := ma) e2 (by omega) dX4_isSame_368 ?_
        refine lv_aload S.1 S.2.1 dX4_isSame_369 (lv_at hl 0 rfl) ?_
        refine lv_bipush (v := 6) S.1 S.2.1 dX4_isSame_371 (by decide) ?_
        refine i_row6 S hJ hk2 dX4_isSame_373 ?_
        refine lv_iconst (v := 1) S.1 S.2.1 dX4_isSame_374 (by decide) ?_
        refine lv_icmp_ne (tgt := 382) S.1 S.2.1 dX4_isSame_375 (by decide) (fun cz_375 => ?_) (fun c9 => absurd c9 (by decide))
        refine lv_aload S.1 S.2.1 dX4_isSame_382 (lv_at hl 0 rfl) ?_
        refine lv_bipush (v := 6) S.1 S.2.1 dX4_isSame_384 (by decide) ?_
        refine i_row6 S hJ hk2 dX4_isSame_386 ?_
        refine lv_iconst (v := 2) S.1 S.2.1 dX4_isSame_387 (by decide) ?_
        refine lv_icmp_ne (tgt := 395) S.1 S.2.1 dX4_isSame_388 (by decide) (fun cz_388 => ?_) (fun c9 => absurd c9 (by decide))
        refine lv_iconst (v := 0) S.1 S.2.1 dX4_isSame_395 (by decide) ?_
        refine lv_iadd S.1 S.2.1 dX4_isSame_396 ?_
        refine o_y S hJ 1 rfl (j := ma) e2 (by omega) dX4_isSame_397 (fun H locs hJ => ?_)
        have hJ : Jw G (fw G σ ((q0, q1, q2, q3), aR) (hh, pw, ar, st, ht, n, va_up row k ((nI ma), z1, (nI (gP σ k).2.1), z3, z4, 2, 0)) [(qo, .inl (gC G 4, 6, .inl (va_up fo ma ((fo ma) + 1)))), (qh, .inl (gC G 4, 6, .inl (va_up fh ma ((fh ma) + 0))))]) s H locs := hJ
        refine lv_iload_n S.1 S.2.1 dX4_isSame_398 rfl (lv_at hl 4 rfl) ?_
        refine lv_aload S.1 S.2.1 dX4_isSame_399 (lv_at hl 0 rfl) ?_
        refine lv_iconst (v := 2) S.1 S.2.1 dX4_isSame_401 (by decide) ?_
        refine i_row2 S hJ hk2 dX4_isSame_402 ?_
        refine lv_if_lt (tgt := 413) S.1 S.2.1 dX4_isSame_403 (by decide) (fun c9 => absurd c9 (nI_pos (by omega))) (fun cz_403 => ?_)
        refine lv_aload S.1 S.2.1 dX4_isSame_406 (lv_at hl 0 rfl) ?_
        refine lv_iconst (v := 3) S.1 S.2.1 dX4_isSame_408 (by decide) ?_
        refine i_row3 S hJ hk2 dX4_isSame_409 ?_
        refine lv_goto (tgt := 414) S.1 S.2.1 dX4_isSame_410 (by decide) ?_
        refine lv_iadd S.1 S.2.1 dX4_isSame_414 ?_
        refine lv_istore_n (lv' := [(3, .int ((sumN (mnS σ) k) + z3)), (7, .ref (aR k)), (0, .ref q0), (1, .ref (gB G 0)), (2, .int (nI (coldF σ 4))), (4, .ref qo), (5, .ref qh), (6, .int (nI k))]) S.1 S.2.1 dX4_isSame_415 rfl hl (by decide) rfl (fun ls hl => ?_)
        exact nxt 1 0 _ (if_pos (by omega)).symm (by rw [hg]; decide) (by rw [sumN_s]; exact congrArg (fun z => sumN (mnS σ) k + z) (r3.trans (if_pos (show (gP σ k).2.1 < 6 by omega)).symm)) _ _ hJ ls (lv_sub hl [2, 3, 4, 0, 5, 6, 7] rfl)
      · obtain ⟨rz2, rz6⟩ : z2 = -1 ∧ z6 = 1 := r5.elim (fun q => absurd q.1 (by omega)) (fun q => ⟨q.2.1, q.2.2.elim (fun q2 => q2.2) (fun q2 => absurd q2.1 (by omega))⟩)
        subst rz2; subst rz6
        refine lv_iload S.1 S.2.1 dX4_isSame_144 (lv_at hl 6 rfl) ?_
        refine lv_aload_n S.1 S.2.1 dX4_isSame_146 rfl (lv_at hl 0 rfl) ?_
        refine q_X4_all S hJ dX4_isSame_147 ?_
        refine l_all S hJ dX4_isSame_150 ?_
        refine lv_icmp_ge (tgt := 422) S.1 S.2.1 dX4_isSame_151 (by decide) (fun c9 => absurd c9 (nI_ge hk2 (by omega))) (fun cz_151 => ?_)
        refine lv_aload_n S.1 S.2.1 dX4_isSame_154 rfl (lv_at hl 0 rfl) ?_
        refine q_X4_all S hJ dX4_isSame_155 ?_
        refine lv_iload S.1 S.2.1 dX4_isSame_158 (lv_at hl 6 rfl) ?_
        have hJ : Jw G (fw G σ ((q0, q1, q2, q3), aR) (hh, pw, ar, st, ht, n, va_up row k ((nI ma), z1, (-1), z3, z4, z5, 1)) [(qo, .inl (gC G 4, 6, .inl fo)), (qh, .inl (gC G 4, 6, .inl fh))]) s H locs := by rw [← hz, va_up_same]; exact hJ
        refine i_all S hJ (i := k) hk2 hn dX4_isSame_160 ?_
        refine lv_astore (lv' := [(7, .ref (aR k)), (0, .ref q0), (1, .ref (gB G 0)), (2, .int (nI (coldF σ 4))), (3, .int (sumN (mnS σ) k)), (4, .ref qo), (5, .ref qh), (6, .int (nI k))]) S.1 S.2.1 dX4_isSame_161 hl (by decide) rfl (fun ls hl => ?_)
        refine lv_aload_n S.1 S.2.1 dX4_isSame_163 rfl (lv_at hl 2 rfl) ?_
        refine lv_iload S.1 S.2.1 dX4_isSame_164 (lv_at hl 7 rfl) ?_
        refine cz_i hJ (rzV (As := [.int (nI k)]) (rest := []) S hJ (c_makerOf l _ σ hk2 hn hX) (cw_X4_X3_makerOf S.2.2.2.2 ⟨Nat.le_of_ble_eq_true rfl, Nat.le_of_ble_eq_true rfl⟩) (rcX hJ.iv) rfl hl.1 (Nat.le_of_ble_eq_true rfl) dX4_isSame_166 ⟨by show _ ≤ 2; omega, by show _ ≤ 12; omega⟩) (fun r39 σ39 H locs hq39 hJ => ?_)
        obtain ⟨hr39, hs39⟩ := hq39
        rw [hs39] at hJ
        rw [hr39]
        refine lv_aload S.1 S.2.1 dX4_isSame_169 (lv_at hl 0 rfl) ?_
        refine lv_iconst (v := 0) S.1 S.2.1 dX4_isSame_171 (by decide) ?_
        refine i_row0 S hJ hk2 dX4_isSame_172 ?_
        refine lv_icmp_ne (tgt := 337) S.1 S.2.1 dX4_isSame_173 (by decide) (fun c9 => absurd e1 c9) (fun cz_173 => ?_)
        refine lv_aload_n S.1 S.2.1 dX4_isSame_176 rfl (lv_at hl 2 rfl) ?_
        refine lv_iload S.1 S.2.1 dX4_isSame_177 (lv_at hl 7 rfl) ?_
        refine cz_i hJ (rzV (As := [.int (nI k)]) (rest := []) S hJ (c_shelfOf l _ σ hp.1.ok hk2 hn hX) (cw_X4_X3_shelfOf S.2.2.2.2 ⟨Nat.le_of_ble_eq_true rfl, Nat.le_of_ble_eq_true rfl⟩) (rcX hJ.iv) rfl hl.1 (Nat.le_of_ble_eq_true rfl) dX4_isSame_179 ⟨by show _ ≤ 2; omega, by show _ ≤ 12; omega⟩) (fun r40 σ40 H locs hq40 hJ => ?_)
        obtain ⟨hr40, hs40⟩ := hq40
        rw [hs40] at hJ
        rw [hr40]
        refine lv_aload S.1 S.2.1 dX4_isSame_182 (lv_at hl 0 rfl) ?_
        refine lv_iconst (v := 2) S.1 S.2.1 dX4_isSame_184 (by decide) ?_
        refine i_row2 S hJ hk2 dX4_isSame_185 ?_
        refine lv_icmp_ne (tgt := 337) S.1 S.2.1 dX4_isSame_186 (by decide) (fun c9 => absurd (if_neg (by omega)) c9) (fun cz_186 => ?_)
        refine lv_aload_n S.1 S.2.1 dX4_isSame_189 rfl (lv_at hl 2 rfl) ?_
        refine lv_iload S.1 S.2.1 dX4_isSame_190 (lv_at hl 7 rfl) ?_
        refine cz_i hJ (rzV (As := [.int (nI k)]) (rest := []) S hJ (c_heatOf l _ σ hk2 hn hX) (cw_X4_X3_heatOf S.2.2.2.2 ⟨Nat.le_of_ble_eq_true rfl, Nat.le_of_ble_eq_true rfl⟩) (rcX hJ.iv) rfl hl.1 (Nat.le_of_ble_eq_true rfl) dX4_isSame_192 ⟨by show _ ≤ 2; omega, by show _ ≤ 12; omega⟩) (fun r41 σ41 H locs hq41 hJ => ?_)
        obtain ⟨hr41, hs41⟩ := hq41
        rw [hs41] at hJ
        rw [hr41]
        refine lv_aload S.1 S.2.1 dX4_isSame_195 (lv_at hl 0 rfl) ?_
        refine lv_iconst (v := 3) S.1 S.2.1 dX4_isSame_197 (by decide) ?_
        refine i_row3 S hJ hk2 dX4_isSame_198 ?_
        refine lv_icmp_ne (tgt := 337) S.1 S.2.1 dX4_isSame_199 (by decide) (fun c9 => absurd r3.symm c9) (fun cz_199 => ?_)
        refine lv_aload_n S.1 S.2.1 dX4_isSame_202 rfl (lv_at hl 2 rfl) ?_
        refine lv_iload S.1 S.2.1 dX4_isSame_203 (lv_at hl 7 rfl) ?_
        refine cz_i hJ (rzV (As := [.int (nI k)]) (rest := []) S hJ (c_ageOf l _ σ hk2 hn hX) (cw_X4_X3_ageOf S.2.2.2.2 ⟨Nat.le_of_ble_eq_true rfl, Nat.le_of_ble_eq_true rfl⟩) (rcX hJ.iv) rfl hl.1 (Nat.le_of_ble_eq_true rfl) dX4_isSame_205 ⟨by show _ ≤ 2; omega, by show _ ≤ 12; omega⟩) (fun r42 σ42 H locs hq42 hJ => ?_)
        obtain ⟨hr42, hs42⟩ := hq42
        rw [hs42] at hJ
        rw [hr42]
        refine lv_aload S.1 S.2.1 dX4_isSame_208 (lv_at hl 0 rfl) ?_
        refine lv_iconst (v := 4) S.1 S.2.1 dX4_isSame_210 (by decide) ?_
        refine i_row4 S hJ hk2 dX4_isSame_211 ?_
        refine lv_icmp_ne (tgt := 337) S.1 S.2.1 dX4_isSame_212 (by decide) (fun c9 => absurd r4.symm c9) (fun cz_212 => ?_)
        refine lv_aload_n S.1 S.2.1 dX4_isSame_215 rfl (lv_at hl 2 rfl) ?_
        refine lv_iload S.1 S.2.1 dX4_isSame_216 (lv_at hl 7 rfl) ?_
        refine cz_i hJ (rzV (As := [.int (nI k)]) (rest := []) S hJ (c_hoursLeft l _ σ hk2 hn hX) (cw_X4_X3_hoursLeft S.2.2.2.2 ⟨Nat.le_of_ble_eq_true rfl, Nat.le_of_ble_eq_true rfl⟩) (rcX hJ.iv) rfl hl.1 (Nat.le_of_ble_eq_true rfl) dX4_isSame_218 ⟨by show _ ≤ 2; omega, by show _ ≤ 12; omega⟩) (fun r43 σ43 H locs hq43 hJ => ?_)
        obtain ⟨hr43, hs43⟩ := hq43
        rw [hs43] at hJ
        rw [hr43]
        refine lv_aload S.1 S.2.1 dX4_isSame_221 (lv_at hl 0 rfl) ?_
        refine lv_iconst (v := 1) S.1 S.2.1 dX4_isSame_223 (by decide) ?_
        refine i_row1 S hJ hk2 dX4_isSame_224 ?_
        refine lv_aload S.1 S.2.1 dX4_isSame_225 (lv_at hl 0 rfl) ?_
        refine lv_iconst (v := 4) S.1 S.2.1 dX4_isSame_227 (by decide) ?_
        refine i_row4 S hJ hk2 dX4_isSame_228 ?_
        refine lv_isub S.1 S.2.1 dX4_isSame_229 ?_
        refine lv_icmp_ne (tgt := 337) S.1 S.2.1 dX4_isSame_230 (by decide) (fun c9 => absurd (by rw [r1, r4]) c9) (fun cz_230 => ?_)
        refine lv_aload_n S.1 S.2.1 dX4_isSame_233 rfl (lv_at hl 2 rfl) ?_
        refine lv_iload S.1 S.2.1 dX4_isSame_234 (lv_at hl 7 rfl) ?_
        refine cz_i hJ (rzV (As := [.int (nI k)]) (rest := []) S hJ (c_isFrozen l _ σ hp.1.ok hk2 hn hX) (cw_X4_X3_isFrozen S.2.2.2.2 ⟨Nat.le_of_ble_eq_true rfl, Nat.le_of_ble_eq_true rfl⟩) (rcX hJ.iv) rfl hl.1 (Nat.le_of_ble_eq_true rfl) dX4_isSame_236 ⟨by show _ ≤ 2; omega, by show _ ≤ 12; omega⟩) (fun r44 σ44 H locs hq44 hJ => ?_)
        obtain ⟨hr44, hs44⟩ := hq44
        rw [hs44] at hJ
        rw [hr44, show (if (gP σ k).1 = 2 then (1 : Int32) else 0) = 0 from if_neg (by omega)]
        refine lv_aload S.1 S.2.1 dX4_isSame_239 (lv_at hl 0 rfl) ?_
        refine lv_iconst (v := 2) S.1 S.2.1 dX4_isSame_241 (by decide) ?_
        refine i_row2 S hJ hk2 dX4_isSame_242 ?_
        refine lv_if_lt (tgt := 258) S.1 S.2.1 dX4_isSame_243 (by decide) (fun cz_243 => ?_) (fun c9 => absurd (by decide) c9)
        refine lv_iconst (v := 0) S.1 S.2.1 dX4_isSame_258 (by decide) ?_
        refine lv_icmp_ne (tgt := 337) S.1 S.2.1 dX4_isSame_259 (by decide) (fun c9 => absurd (by decide) c9) (fun cz_259 => ?_)
        refine lv_aload_n S.1 S.2.1 dX4_isSame_262 rfl (lv_at hl 2 rfl) ?_
        refine lv_iload S.1 S.2.1 dX4_isSame_263 (lv_at hl 7 rfl) ?_
        refine cz_i hJ (rzV (As := [.int (nI k)]) (rest := []) S hJ (c_isThawed l _ σ hp.1.ok hk2 hn hX) (cw_X4_X3_isThawed S.2.2.2.2 ⟨Nat.le_of_ble_eq_true rfl, Nat.le_of_ble_eq_true rfl⟩) (rcX hJ.iv) rfl hl.1 (Nat.le_of_ble_eq_true rfl) dX4_isSame_265 ⟨by show _ ≤ 2; omega, by show _ ≤ 12; omega⟩) (fun r45 σ45 H locs hq45 hJ => ?_)
        obtain ⟨hr45, hs45⟩ := hq45
        rw [hs45] at hJ
        rw [hr45, show (if (gP σ k).1 = 3 then (1 : Int32) else 0) = 0 from if_neg (by omega)]
        refine lv_aload S.1 S.2.1 dX4_isSame_268 (lv_at hl 0 rfl) ?_
        refine lv_iconst (v := 2) S.1 S.2.1 dX4_isSame_270 (by decide) ?_
        refine i_row2 S hJ hk2 dX4_isSame_271 ?_
        refine lv_if_lt (tgt := 287) S.1 S.2.1 dX4_isSame_272 (by decide) (fun cz_272 => ?_) (fun c9 => absurd (by decide) c9)
        refine lv_iconst (v := 0) S.1 S.2.1 dX4_isSame_287 (by decide) ?_
        refine lv_icmp_ne (tgt := 337) S.1 S.2.1 dX4_isSame_288 (by decide) (fun c9 => absurd (by decide) c9) (fun cz_288 => ?_)
        refine lv_aload_n S.1 S.2.1 dX4_isSame_291 rfl (lv_at hl 2 rfl) ?_
        refine lv_iload S.1 S.2.1 dX4_isSame_292 (lv_at hl 7 rfl) ?_
        refine cz_i hJ (rzV (As := [.int (nI k)]) (rest := []) S hJ (c_isKept l _ σ hp.1.ok hk2 hn hX) (cw_X4_X3_isKept S.2.2.2.2 ⟨Nat.le_of_ble_eq_true rfl, Nat.le_of_ble_eq_true rfl⟩) (rcX hJ.iv) rfl hl.1 (Nat.le_of_ble_eq_true rfl) dX4_isSame_294 ⟨by show _ ≤ 2; omega, by show _ ≤ 12; omega⟩) (fun r46 σ46 H locs hq46 hJ => ?_)
        obtain ⟨hr46, hs46⟩ := hq46
        rw [hs46] at hJ
        rw [hr46, show (if (gP σ k).1 = 4 then (1 : Int32) else 0) = 1 from if_pos hg]
        refine lv_aload S.1 S.2.1 dX4_isSame_297 (lv_at hl 0 rfl) ?_
        refine lv_bipush (v := 6) S.1 S.2.1 dX4_isSame_299 (by decide) ?_
        refine i_row6 S hJ hk2 dX4_isSame_301 ?_
        refine lv_iconst (v := 1) S.1 S.2.1 dX4_isSame_302 (by decide) ?_
        refine lv_icmp_ne (tgt := 310) S.1 S.2.1 dX4_isSame_303 (by decide) (fun c9 => absurd (by decide) c9) (fun cz_303 => ?_)
        refine lv_iconst (v := 1) S.1 S.2.1 dX4_isSame_306 (by decide) ?_
        refine lv_goto (tgt := 311) S.1 S.2.1 dX4_isSame_307 (by decide) ?_
        refine lv_icmp_ne (tgt := 337) S.1 S.2.1 dX4_isSame_311 (by decide) (fun c9 => absurd (by decide) c9) (fun cz_311 => ?_)
        refine lv_aload_n S.1 S.2.1 dX4_isSame_314 rfl (lv_at hl 2 rfl) ?_
        refine lv_iload S.1 S.2.1 dX4_isSame_315 (lv_at hl 7 rfl) ?_
        refine cz_i hJ (rzV (As := [.int (nI k)]) (rest := []) S hJ (c_isExpired l _ σ hp.1.ok hk2 hn hX) (cw_X4_X3_isExpired S.2.2.2.2 ⟨Nat.le_of_ble_eq_true rfl, Nat.le_of_ble_eq_true rfl⟩) (rcX hJ.iv) rfl hl.1 (Nat.le_of_ble_eq_true rfl) dX4_isSame_317 ⟨by show _ ≤ 2; omega, by show _ ≤ 12; omega⟩) (fun r47 σ47 H locs hq47 hJ => ?_)
        obtain ⟨hr47, hs47⟩ := hq47
        rw [hs47] at hJ
        rw [hr47, show (if (gP σ k).1 = 5 then (1 : Int32) else 0) = 0 from if_neg (by omega)]
        refine lv_aload S.1 S.2.1 dX4_isSame_320 (lv_at hl 0 rfl) ?_
        refine lv_bipush (v := 6) S.1 S.2.1 dX4_isSame_322 (by decide) ?_
        refine i_row6 S hJ hk2 dX4_isSame_324 ?_
        refine lv_iconst (v := 2) S.1 S.2.1 dX4_isSame_325 (by decide) ?_
        refine lv_icmp_ne (tgt := 333) S.1 S.2.1 dX4_isSame_326 (by decide) (fun cz_326 => ?_) (fun c9 => absurd c9 (by decide))
        refine lv_iconst (v := 0) S.1 S.2.1 dX4_isSame_333 (by decide) ?_
        refine lv_icmp_eq (tgt := 339) S.1 S.2.1 dX4_isSame_334 (by decide) (fun cz_334 => ?_) (fun c9 => absurd (by decide) c9)
        refine lv_aload S.1 S.2.1 dX4_isSame_339 (lv_at hl 5 rfl) ?_
        refine lv_aload S.1 S.2.1 dX4_isSame_341 (lv_at hl 0 rfl) ?_
        refine lv_iconst (v := 0) S.1 S.2.1 dX4_isSame_343 (by decide) ?_
        refine i_row0 S hJ hk2 dX4_isSame_344 ?_
        refine lv_dup2_11 S.1 S.2.1 dX4_isSame_345 rfl rfl ?_
        refine i_y S hJ 0 rfl (j := ma) e2 (by omega) dX4_isSame_346 ?_
        refine lv_aload S.1 S.2.1 dX4_isSame_347 (lv_at hl 0 rfl) ?_
        refine lv_iconst (v := 2) S.1 S.2.1 dX4_isSame_349 (by decide) ?_
        refine i_row2 S hJ hk2 dX4_isSame_350 ?_
        refine lv_if_lt (tgt := 358) S.1 S.2.1 dX4_isSame_351 (by decide) (fun cz_351 => ?_) (fun c9 => absurd (by decide) c9)
        refine lv_iconst (v := 0) S.1 S.2.1 dX4_isSame_358 (by decide) ?_
        refine lv_iadd S.1 S.2.1 dX4_isSame_359 ?_
        refine o_y S hJ 0 rfl (j := ma) e2 (by omega) dX4_isSame_360 (fun H locs hJ => ?_)
        have hJ : Jw G (fw G σ ((q0, q1, q2, q3), aR) (hh, pw, ar, st, ht, n, va_up row k ((nI ma), z1, (-1), z3, z4, z5, 1)) [(qo, .inl (gC G 4, 6, .inl (va_up fo ma ((fo ma) + 0)))), (qh, .inl (gC G 4, 6, .inl fh))]) s H locs := hJ
        refine lv_aload S.1 S.2.1 dX4_isSame_361 (lv_at hl 6 rfl) ?_
        refine lv_aload S.1 S.2.1 dX4_isSame_363 (lv_at hl 0 rfl) ?_
        refine lv_iconst (v := 0) S.1 S.2.1 dX4_isSame_365 (by decide) ?_
        refine i_row0 S hJ hk2 dX4_isSame_366 ?_
        refine lv_dup2_11 S.1 S.2.1 dX4_isSame_367 rfl rfl ?_
        refine i_y S hJ 1 rfl (j := ma) e2 (by omega) dX4_isSame_368 ?_
        refine lv_aload S.1 S.2.1 dX4_isSame_369 (lv_at hl 0 rfl) ?_
        refine lv_bipush (v := 6) S.1 S.2.1 dX4_isSame_371 (by decide) ?_
        refine i_row6 S hJ hk2 dX4_isSame_373 ?_
        refine lv_iconst (v := 1) S.1 S.2.1 dX4_isSame_374 (by decide) ?_
        refine lv_icmp_ne (tgt := 382) S.1 S.2.1 dX4_isSame_375 (by decide) (fun c9 => absurd (by decide) c9) (fun cz_375 => ?_)
        refine lv_iconst (v := 1) S.1 S.2.1 dX4_isSame_378 (by decide) ?_
        refine lv_goto (tgt := 396) S.1 S.2.1 dX4_isSame_379 (by decide) ?_
        refine lv_iadd S.1 S.2.1 dX4_isSame_396 ?_
        refine o_y S hJ 1 rfl (j := ma) e2 (by omega) dX4_isSame_397 (fun H locs hJ => ?_)
        have hJ : Jw G (fw G σ ((q0, q1, q2, q3), aR) (hh, pw, ar, st, ht, n, va_up row k ((nI ma), z1, (-1), z3, z4, z5, 1)) [(qo, .inl (gC G 4, 6, .inl (va_up fo ma ((fo ma) + 0)))), (qh, .inl (gC G 4, 6, .inl (va_up fh ma ((fh ma) + 1))))]) s H locs := hJ
        refine lv_iload_n S.1 S.2.1 dX4_isSame_398 rfl (lv_at hl 4 rfl) ?_
        refine lv_aload S.1 S.2.1 dX4_isSame_399 (lv_at hl 0 rfl) ?_
        refine lv_iconst (v := 2) S.1 S.2.1 dX4_isSame_401 (by decide) ?_
        refine i_row2 S hJ hk2 dX4_isSame_402 ?_
        refine lv_if_lt (tgt := 413) S.1 S.2.1 dX4_isSame_403 (by decide) (fun cz_403 => ?_) (fun c9 => absurd (by decide) c9)
        refine lv_iconst (v := 0) S.1 S.2.1 dX4_isSame_413 (by decide) ?_
        refine lv_iadd S.1 S.2.1 dX4_isSame_414 ?_
        refine lv_istore_n (lv' := [(3, .int ((sumN (mnS σ) k) + 0)), (7, .ref (aR k)), (0, .ref q0), (1, .ref (gB G 0)), (2, .int (nI (coldF σ 4))), (4, .ref qo), (5, .ref qh), (6, .int (nI k))]) S.1 S.2.1 dX4_isSame_415 rfl hl (by decide) rfl (fun ls hl => ?_)
        exact nxt 0 1 _ (if_neg (by omega)).symm (by rw [hg]; decide) (by rw [sumN_s]; exact congrArg (fun z => sumN (mnS σ) k + z) (if_neg (show ¬ (gP σ k).2.1 < 6 by omega)).symm) _ _ hJ ls (lv_sub hl [2, 3, 4, 0, 5, 6, 7] rfl)
      · obtain ⟨rz2, rz6⟩ : z2 = -1 ∧ z6 = 2 := r5.elim (fun q => absurd q.1 (by omega)) (fun q => ⟨q.2.1, q.2.2.elim (fun q2 => absurd q2.1 (by omega)) (fun q2 => q2.2)⟩)
        subst rz2; subst rz6
        refine lv_iload S.1 S.2.1 dX4_isSame_144 (lv_at hl 6 rfl) ?_
        refine lv_aload_n S.1 S.2.1 dX4_isSame_146 rfl (lv_at hl 0 rfl) ?_
        refine q_X4_all S hJ dX4_isSame_147 ?_
        refine l_all S hJ dX4_isSame_150 ?_
        refine lv_icmp_ge (tgt := 422) S.1 S.2.1 dX4_isSame_151 (by decide) (fun c9 => absurd c9 (nI_ge hk2 (by omega))) (fun cz_151 => ?_)
        refine lv_aload_n S.1 S.2.1 dX4_isSame_154 rfl (lv_at hl 0 rfl) ?_
        refine q_X4_all S hJ dX4_isSame_155 ?_
        refine lv_iload S.1 S.2.1 dX4_isSame_158 (lv_at hl 6 rfl) ?_
        have hJ : Jw G (fw G σ ((q0, q1, q2, q3), aR) (hh, pw, ar, st, ht, n, va_up row k ((nI ma), z1, (-1), z3, z4, z5, 2)) [(qo, .inl (gC G 4, 6, .inl fo)), (qh, .inl (gC G 4, 6, .inl fh))]) s H locs := by rw [← hz, va_up_same]; exact hJ
        refine i_all S hJ (i := k) hk2 hn dX4_isSame_160 ?_
        refine lv_astore (lv' := [(7, .ref (aR k)), (0, .ref q0), (1, .ref (gB G 0)), (2, .int (nI (coldF σ 4))), (3, .int (sumN (mnS σ) k)), (4, .ref qo), (5, .ref qh), (6, .int (nI k))]) S.1 S.2.1 dX4_isSame_161 hl (by decide) rfl (fun ls hl => ?_)
        refine lv_aload_n S.1 S.2.1 dX4_isSame_163 rfl (lv_at hl 2 rfl) ?_
        refine lv_iload S.1 S.2.1 dX4_isSame_164 (lv_at hl 7 rfl) ?_
        refine cz_i hJ (rzV (As := [.int (nI k)]) (rest := []) S hJ (c_makerOf l _ σ hk2 hn hX) (cw_X4_X3_makerOf S.2.2.2.2 ⟨Nat.le_of_ble_eq_true rfl, Nat.le_of_ble_eq_true rfl⟩) (rcX hJ.iv) rfl hl.1 (Nat.le_of_ble_eq_true rfl) dX4_isSame_166 ⟨by show _ ≤ 2; omega, by show _ ≤ 12; omega⟩) (fun r48 σ48 H locs hq48 hJ => ?_)
        obtain ⟨hr48, hs48⟩ := hq48
        rw [hs48] at hJ
        rw [hr48]
        refine lv_aload S.1 S.2.1 dX4_isSame_169 (lv_at hl 0 rfl) ?_
        refine lv_iconst (v := 0) S.1 S.2.1 dX4_isSame_171 (by decide) ?_
        refine i_row0 S hJ hk2 dX4_isSame_172 ?_
        refine lv_icmp_ne (tgt := 337) S.1 S.2.1 dX4_isSame_173 (by decide) (fun c9 => absurd e1 c9) (fun cz_173 => ?_)
        refine lv_aload_n S.1 S.2.1 dX4_isSame_176 rfl (lv_at hl 2 rfl) ?_
        refine lv_iload S.1 S.2.1 dX4_isSame_177 (lv_at hl 7 rfl) ?_
        refine cz_i hJ (rzV (As := [.int (nI k)]) (rest := []) S hJ (c_shelfOf l _ σ hp.1.ok hk2 hn hX) (cw_X4_X3_shelfOf S.2.2.2.2 ⟨Nat.le_of_ble_eq_true rfl, Nat.le_of_ble_eq_true rfl⟩) (rcX hJ.iv) rfl hl.1 (Nat.le_of_ble_eq_true rfl) dX4_isSame_179 ⟨by show _ ≤ 2; omega, by show _ ≤ 12; omega⟩) (fun r49 σ49 H locs hq49 hJ => ?_)
        obtain ⟨hr49, hs49⟩ := hq49
        rw [hs49] at hJ
        rw [hr49]
        refine lv_aload S.1 S.2.1 dX4_isSame_182 (lv_at hl 0 rfl) ?_
        refine lv_iconst (v := 2) S.1 S.2.1 dX4_isSame_184 (by decide) ?_
        refine i_row2 S hJ hk2 dX4_isSame_185 ?_
        refine lv_icmp_ne (tgt := 337) S.1 S.2.1 dX4_isSame_186 (by decide) (fun c9 => absurd (if_neg (by omega)) c9) (fun cz_186 => ?_)
        refine lv_aload_n S.1 S.2.1 dX4_isSame_189 rfl (lv_at hl 2 rfl) ?_
        refine lv_iload S.1 S.2.1 dX4_isSame_190 (lv_at hl 7 rfl) ?_
        refine cz_i hJ (rzV (As := [.int (nI k)]) (rest := []) S hJ (c_heatOf l _ σ hk2 hn hX) (cw_X4_X3_heatOf S.2.2.2.2 ⟨Nat.le_of_ble_eq_true rfl, Nat.le_of_ble_eq_true rfl⟩) (rcX hJ.iv) rfl hl.1 (Nat.le_of_ble_eq_true rfl) dX4_isSame_192 ⟨by show _ ≤ 2; omega, by show _ ≤ 12; omega⟩) (fun r50 σ50 H locs hq50 hJ => ?_)
        obtain ⟨hr50, hs50⟩ := hq50
        rw [hs50] at hJ
        rw [hr50]
        refine lv_aload S.1 S.2.1 dX4_isSame_195 (lv_at hl 0 rfl) ?_
        refine lv_iconst (v := 3) S.1 S.2.1 dX4_isSame_197 (by decide) ?_
        refine i_row3 S hJ hk2 dX4_isSame_198 ?_
        refine lv_icmp_ne (tgt := 337) S.1 S.2.1 dX4_isSame_199 (by decide) (fun c9 => absurd r3.symm c9) (fun cz_199 => ?_)
        refine lv_aload_n S.1 S.2.1 dX4_isSame_202 rfl (lv_at hl 2 rfl) ?_
        refine lv_iload S.1 S.2.1 dX4_isSame_203 (lv_at hl 7 rfl) ?_
        refine cz_i hJ (rzV (As := [.int (nI k)]) (rest := []) S hJ (c_ageOf l _ σ hk2 hn hX) (cw_X4_X3_ageOf S.2.2.2.2 ⟨Nat.le_of_ble_eq_true rfl, Nat.le_of_ble_eq_true rfl⟩) (rcX hJ.iv) rfl hl.1 (Nat.le_of_ble_eq_true rfl) dX4_isSame_205 ⟨by show _ ≤ 2; omega, by show _ ≤ 12; omega⟩) (fun r51 σ51 H locs hq51 hJ => ?_)
        obtain ⟨hr51, hs51⟩ := hq51
        rw [hs51] at hJ
        rw [hr51]
        refine lv_aload S.1 S.2.1 dX4_isSame_208 (lv_at hl 0 rfl) ?_
        refine lv_iconst (v := 4) S.1 S.2.1 dX4_isSame_210 (by decide) ?_
        refine i_row4 S hJ hk2 dX4_isSame_211 ?_
        refine lv_icmp_ne (tgt := 337) S.1 S.2.1 dX4_isSame_212 (by decide) (fun c9 => absurd r4.symm c9) (fun cz_212 => ?_)
        refine lv_aload_n S.1 S.2.1 dX4_isSame_215 rfl (lv_at hl 2 rfl) ?_
        refine lv_iload S.1 S.2.1 dX4_isSame_216 (lv_at hl 7 rfl) ?_
        refine cz_i hJ (rzV (As := [.int (nI k)]) (rest := []) S hJ (c_hoursLeft l _ σ hk2 hn hX) (cw_X4_X3_hoursLeft S.2.2.2.2 ⟨Nat.le_of_ble_eq_true rfl, Nat.le_of_ble_eq_true rfl⟩) (rcX hJ.iv) rfl hl.1 (Nat.le_of_ble_eq_true rfl) dX4_isSame_218 ⟨by show _ ≤ 2; omega, by show _ ≤ 12; omega⟩) (fun r52 σ52 H locs hq52 hJ => ?_)
        obtain ⟨hr52, hs52⟩ := hq52
        rw [hs52] at hJ
        rw [hr52]
        refine lv_aload S.1 S.2.1 dX4_isSame_221 (lv_at hl 0 rfl) ?_
        refine lv_iconst (v := 1) S.1 S.2.1 dX4_isSame_223 (by decide) ?_
        refine i_row1 S hJ hk2 dX4_isSame_224 ?_
        refine lv_aload S.1 S.2.1 dX4_isSame_225 (lv_at hl 0 rfl) ?_
        refine lv_iconst (v := 4) S.1 S.2.1 dX4_isSame_227 (by decide) ?_
        refine i_row4 S hJ hk2 dX4_isSame_228 ?_
        refine lv_isub S.1 S.2.1 dX4_isSame_229 ?_
        refine lv_icmp_ne (tgt := 337) S.1 S.2.1 dX4_isSame_230 (by decide) (fun c9 => absurd (by rw [r1, r4]) c9) (fun cz_230 => ?_)
        refine lv_aload_n S.1 S.2.1 dX4_isSame_233 rfl (lv_at hl 2 rfl) ?_
        refine lv_iload S.1 S.2.1 dX4_isSame_234 (lv_at hl 7 rfl) ?_
        refine cz_i hJ (rzV (As := [.int (nI k)]) (rest := []) S hJ (c_isFrozen l _ σ hp.1.ok hk2 hn hX) (cw_X4_X3_isFrozen S.2.2.2.2 ⟨Nat.le_of_ble_eq_true rfl, Nat.le_of_ble_eq_true rfl⟩) (rcX hJ.iv) rfl hl.1 (Nat.le_of_ble_eq_true rfl) dX4_isSame_236 ⟨by show _ ≤ 2; omega, by show _ ≤ 12; omega⟩) (fun r53 σ53 H locs hq53 hJ => ?_)
        obtain ⟨hr53, hs53⟩ := hq53
        rw [hs53] at hJ
        rw [hr53, show (if (gP σ k).1 = 2 then (1 : Int32) else 0) = 0 from if_neg (by omega)]
        refine lv_aload S.1 S.2.1 dX4_isSame_239 (lv_at hl 0 rfl) ?_
        refine lv_iconst (v := 2) S.1 S.2.1 dX4_isSame_241 (by decide) ?_
        refine i_row2 S hJ hk2 dX4_isSame_242 ?_
        refine lv_if_lt (tgt := 258) S.1 S.2.1 dX4_isSame_243 (by decide) (fun cz_243 => ?_) (fun c9 => absurd (by decide) c9)
        refine lv_iconst (v := 0) S.1 S.2.1 dX4_isSame_258 (by decide) ?_
        refine lv_icmp_ne (tgt := 337) S.1 S.2.1 dX4_isSame_259 (by decide) (fun c9 => absurd (by decide) c9) (fun cz_259 => ?_)
        refine lv_aload_n S.1 S.2.1 dX4_isSame_262 rfl (lv_at hl 2 rfl) ?_
        refine lv_iload S.1 S.2.1 dX4_isSame_263 (lv_at hl 7 rfl) ?_
        refine cz_i hJ (rzV (As := [.int (nI k)]) (rest := []) S hJ (c_isThawed l _ σ hp.1.ok hk2 hn hX) (cw_X4_X3_isThawed S.2.2.2.2 ⟨Nat.le_of_ble_eq_true rfl, Nat.le_of_ble_eq_true rfl⟩) (rcX hJ.iv) rfl hl.1 (Nat.le_of_ble_eq_true rfl) dX4_isSame_265 ⟨by show _ ≤ 2; omega, by show _ ≤ 12; omega⟩) (fun r54 σ54 H locs hq54 hJ => ?_)
        obtain ⟨hr54, hs54⟩ := hq54
        rw [hs54] at hJ
        rw [hr54, show (if (gP σ k).1 = 3 then (1 : Int32) else 0) = 0 from if_neg (by omega)]
        refine lv_aload S.1 S.2.1 dX4_isSame_268 (lv_at hl 0 rfl) ?_
        refine lv_iconst (v := 2) S.1 S.2.1 dX4_isSame_270 (by decide) ?_
        refine i_row2 S hJ hk2 dX4_isSame_271 ?_
        refine lv_if_lt (tgt := 287) S.1 S.2.1 dX4_isSame_272 (by decide) (fun cz_272 => ?_) (fun c9 => absurd (by decide) c9)
        refine lv_iconst (v := 0) S.1 S.2.1 dX4_isSame_287 (by decide) ?_
        refine lv_icmp_ne (tgt := 337) S.1 S.2.1 dX4_isSame_288 (by decide) (fun c9 => absurd (by decide) c9) (fun cz_288 => ?_)
        refine lv_aload_n S.1 S.2.1 dX4_isSame_291 rfl (lv_at hl 2 rfl) ?_
        refine lv_iload S.1 S.2.1 dX4_isSame_292 (lv_at hl 7 rfl) ?_
        refine cz_i hJ (rzV (As := [.int (nI k)]) (rest := []) S hJ (c_isKept l _ σ hp.1.ok hk2 hn hX) (cw_X4_X3_isKept S.2.2.2.2 ⟨Nat.le_of_ble_eq_true rfl, Nat.le_of_ble_eq_true rfl⟩) (rcX hJ.iv) rfl hl.1 (Nat.le_of_ble_eq_true rfl) dX4_isSame_294 ⟨by show _ ≤ 2; omega, by show _ ≤ 12; omega⟩) (fun r55 σ55 H locs hq55 hJ => ?_)
        obtain ⟨hr55, hs55⟩ := hq55
        rw [hs55] at hJ
        rw [hr55, show (if (gP σ k).1 = 4 then (1 : Int32) else 0) = 0 from if_neg (by omega)]
        refine lv_aload S.1 S.2.1 dX4_isSame_297 (lv_at hl 0 rfl) ?_
        refine lv_bipush (v := 6) S.1 S.2.1 dX4_isSame_299 (by decide) ?_
        refine i_row6 S hJ hk2 dX4_isSame_301 ?_
        refine lv_iconst (v := 1) S.1 S.2.1 dX4_isSame_302 (by decide) ?_
        refine lv_icmp_ne (tgt := 310) S.1 S.2.1 dX4_isSame_303 (by decide) (fun cz_303 => ?_) (fun c9 => absurd c9 (by decide))
        refine lv_iconst (v := 0) S.1 S.2.1 dX4_isSame_310 (by decide) ?_
        refine lv_icmp_ne (tgt := 337) S.1 S.2.1 dX4_isSame_311 (by decide) (fun c9 => absurd (by decide) c9) (fun cz_311 => ?_)
        refine lv_aload_n S.1 S.2.1 dX4_isSame_314 rfl (lv_at hl 2 rfl) ?_
        refine lv_iload S.1 S.2.1 dX4_isSame_315 (lv_at hl 7 rfl) ?_
        refine cz_i hJ (rzV (As := [.int (nI k)]) (rest := []) S hJ (c_isExpired l _ σ hp.1.ok hk2 hn hX) (cw_X4_X3_isExpired S.2.2.2.2 ⟨Nat.le_of_ble_eq_true rfl, Nat.le_of_ble_eq_true rfl⟩) (rcX hJ.iv) rfl hl.1 (Nat.le_of_ble_eq_true rfl) dX4_isSame_317 ⟨by show _ ≤ 2; omega, by show _ ≤ 12; omega⟩) (fun r56 σ56 H locs hq56 hJ => ?_)
        obtain ⟨hr56, hs56⟩ := hq56
        rw [hs56] at hJ
        rw [hr56, show (if (gP σ k).1 = 5 then (1 : Int32) else 0) = 1 from if_pos hg]
        refine lv_aload S.1 S.2.1 dX4_isSame_320 (lv_at hl 0 rfl) ?_
        refine lv_bipush (v := 6) S.1 S.2.1 dX4_isSame_322 (by decide) ?_
        refine i_row6 S hJ hk2 dX4_isSame_324 ?_
        refine lv_iconst (v := 2) S.1 S.2.1 dX4_isSame_325 (by decide) ?_
        refine lv_icmp_ne (tgt := 333) S.1 S.2.1 dX4_isSame_326 (by decide) (fun c9 => absurd (by decide) c9) (fun cz_326 => ?_)
        refine lv_iconst (v := 1) S.1 S.2.1 dX4_isSame_329 (by decide) ?_
        refine lv_goto (tgt := 334) S.1 S.2.1 dX4_isSame_330 (by decide) ?_
        refine lv_icmp_eq (tgt := 339) S.1 S.2.1 dX4_isSame_334 (by decide) (fun cz_334 => ?_) (fun c9 => absurd (by decide) c9)
        refine lv_aload S.1 S.2.1 dX4_isSame_339 (lv_at hl 5 rfl) ?_
        refine lv_aload S.1 S.2.1 dX4_isSame_341 (lv_at hl 0 rfl) ?_
        refine lv_iconst (v := 0) S.1 S.2.1 dX4_isSame_343 (by decide) ?_
        refine i_row0 S hJ hk2 dX4_isSame_344 ?_
        refine lv_dup2_11 S.1 S.2.1 dX4_isSame_345 rfl rfl ?_
        refine i_y S hJ 0 rfl (j := ma) e2 (by omega) dX4_isSame_346 ?_
        refine lv_aload S.1 S.2.1 dX4_isSame_347 (lv_at hl 0 rfl) ?_
        refine lv_iconst (v := 2) S.1 S.2.1 dX4_isSame_349 (by decide) ?_
        refine i_row2 S hJ hk2 dX4_isSame_350 ?_
        refine lv_if_lt (tgt := 358) S.1 S.2.1 dX4_isSame_351 (by decide) (fun cz_351 => ?_) (fun c9 => absurd (by decide) c9)
        refine lv_iconst (v := 0) S.1 S.2.1 dX4_isSame_358 (by decide) ?_
        refine lv_iadd S.1 S.2.1 dX4_isSame_359 ?_
        refine o_y S hJ 0 rfl (j := ma) e2 (by omega) dX4_isSame_360 (fun H locs hJ => ?_)
        have hJ : Jw G (fw G σ ((q0, q1, q2, q3), aR) (hh, pw, ar, st, ht, n, va_up row k ((nI ma), z1, (-1), z3, z4, z5, 2)) [(qo, .inl (gC G 4, 6, .inl (va_up fo ma ((fo ma) + 0)))), (qh, .inl (gC G 4, 6, .inl fh))]) s H locs := hJ
        refine lv_aload S.1 S.2.1 dX4_isSame_361 (lv_at hl 6 rfl) ?_
        refine lv_aload S.1 S.2.1 dX4_isSame_363 (lv_at hl 0 rfl) ?_
        refine lv_iconst (v := 0) S.1 S.2.1 dX4_isSame_365 (by decide) ?_
        refine i_row0 S hJ hk2 dX4_isSame_366 ?_
        refine lv_dup2_11 S.1 S.2.1 dX4_isSame_367 rfl rfl ?_
        refine i_y S hJ 1 rfl (j := ma) e2 (by omega) dX4_isSame_368 ?_
        refine lv_aload S.1 S.2.1 dX4_isSame_369 (lv_at hl 0 rfl) ?_
        refine lv_bipush (v := 6) S.1 S.2.1 dX4_isSame_371 (by decide) ?_
        refine i_row6 S hJ hk2 dX4_isSame_373 ?_
        refine lv_iconst (v := 1) S.1 S.2.1 dX4_isSame_374 (by decide) ?_
        refine lv_icmp_ne (tgt := 382) S.1 S.2.1 dX4_isSame_375 (by decide) (fun cz_375 => ?_) (fun c9 => absurd c9 (by decide))
        refine lv_aload S.1 S.2.1 dX4_isSame_382 (lv_at hl 0 rfl) ?_
        refine lv_bipush (v := 6) S.1 S.2.1 dX4_isSame_384 (by decide) ?_
        refine i_row6 S hJ hk2 dX4_isSame_386 ?_
        refine lv_iconst (v := 2) S.1 S.2.1 dX4_isSame_387 (by decide) ?_
        refine lv_icmp_ne (tgt := 395) S.1 S.2.1 dX4_isSame_388 (by decide) (fun c9 => absurd (by decide) c9) (fun cz_388 => ?_)
        refine lv_iconst (v := (-1)) S.1 S.2.1 dX4_isSame_391 (by decide) ?_
        refine lv_goto (tgt := 396) S.1 S.2.1 dX4_isSame_392 (by decide) ?_
        refine lv_iadd S.1 S.2.1 dX4_isSame_396 ?_
        refine o_y S hJ 1 rfl (j := ma) e2 (by omega) dX4_isSame_397 (fun H locs hJ => ?_)
        have hJ : Jw G (fw G σ ((q0, q1, q2, q3), aR) (hh, pw, ar, st, ht, n, va_up row k ((nI ma), z1, (-1), z3, z4, z5, 2)) [(qo, .inl (gC G 4, 6, .inl (va_up fo ma ((fo ma) + 0)))), (qh, .inl (gC G 4, 6, .inl (va_up fh ma ((fh ma) + (-1)))))]) s H locs := hJ
        refine lv_iload_n S.1 S.2.1 dX4_isSame_398 rfl (lv_at hl 4 rfl) ?_
        refine lv_aload S.1 S.2.1 dX4_isSame_399 (lv_at hl 0 rfl) ?_
        refine lv_iconst (v := 2) S.1 S.2.1 dX4_isSame_401 (by decide) ?_
        refine i_row2 S hJ hk2 dX4_isSame_402 ?_
        refine lv_if_lt (tgt := 413) S.1 S.2.1 dX4_isSame_403 (by decide) (fun cz_403 => ?_) (fun c9 => absurd (by decide) c9)
        refine lv_iconst (v := 0) S.1 S.2.1 dX4_isSame_413 (by decide) ?_
        refine lv_iadd S.1 S.2.1 dX4_isSame_414 ?_
        refine lv_istore_n (lv' := [(3, .int ((sumN (mnS σ) k) + 0)), (7, .ref (aR k)), (0, .ref q0), (1, .ref (gB G 0)), (2, .int (nI (coldF σ 4))), (4, .ref qo), (5, .ref qh), (6, .int (nI k))]) S.1 S.2.1 dX4_isSame_415 rfl hl (by decide) rfl (fun ls hl => ?_)
        exact nxt 0 (-1) _ (if_neg (by omega)).symm (by rw [hg]; decide) (by rw [sumN_s]; exact congrArg (fun z => sumN (mnS σ) k + z) (if_neg (show ¬ (gP σ k).2.1 < 6 by omega)).symm) _ _ hJ ls (lv_sub hl [2, 3, 4, 0, 5, 6, 7] rfl)
  have loopA : ∀ (n9 : Nat) (k : Nat), k + n9 = 5 → ∀ (H : Heap) (locs : List Loc), Jw G (fw G σ ((q0, q1, q2, q3), aR) (hh, pw, ar, st, ht, n, row) []) s H locs → ∀ ls : Array Slot, lv_has ls 9 [(0, .ref q0), (1, .ref (gB G 0)), (2, .int (nI (coldF σ (k - 1)))), (3, .int (nI k))] → W p l e (rm 4 2 12) s m ([.ref q0, .ref (gB G 0)] : List Value).toArray below meth c H locs 0 0 (MQ below (Ui G (fun r ws' => r = 1)) ([.ref q0, .ref (gB G 0)] : List Value).toArray s 2 12 (gA G)) (F0 m 4 ls []) := by
    intro n9
    induction n9 with
    | zero =>
      intro k hk0 H locs hJ ls hl
      obtain rfl : k = 5 := by omega
      refine lv_iload_n S.1 S.2.1 dX4_isSame_4 rfl (lv_at hl 3 rfl) ?_
      refine lv_iconst (v := (nI 5)) S.1 S.2.1 dX4_isSame_5 (by rfl) ?_
      refine lv_icmp_ge (tgt := 127) S.1 S.2.1 dX4_isSame_6 (by decide) (fun cz_6 => ?_) (fun c9 => absurd (nI_le (a := 5) (b := 5) (Nat.le_refl 5) (by omega)) c9)
      refine lv_iconst (v := 0) S.1 S.2.1 dX4_isSame_127 (by decide) ?_
      refine lv_istore_n (lv' := [(3, .int 0), (0, .ref q0), (1, .ref (gB G 0)), (2, .int (nI (coldF σ (5 - 1))))]) S.1 S.2.1 dX4_isSame_128 rfl hl (by decide) rfl (fun ls hl => ?_)
      refine lv_bipush (v := 6) S.1 S.2.1 dX4_isSame_129 (by decide) ?_
      refine w_newi S hJ (N := 6) (by decide) (by decide) (by decide) (Nat.le_of_ble_eq_true rfl) (Nat.le_of_ble_eq_true rfl) dX4_isSame_131 (fun q57 H hJ => ?_)
      rw [fw_push] at hJ
      have hJ : Jw G (fw G σ ((q0, q1, q2, q3), aR) (hh, pw, ar, st, ht, n, row) [(q57, .inl (gC G 4, 6, .inl (fun _ => 0)))]) s H locs := hJ
      refine lv_astore (lv' := [(4, .ref q57), (3, .int 0), (0, .ref q0), (1, .ref (gB G 0)), (2, .int (nI (coldF σ (5 - 1))))]) S.1 S.2.1 dX4_isSame_133 hl (by decide) rfl (fun ls hl => ?_)
      refine lv_bipush (v := 6) S.1 S.2.1 dX4_isSame_135 (by decide) ?_
      refine w_newi S hJ (N := 6) (by decide) (by decide) (by decide) (Nat.le_of_ble_eq_true rfl) (Nat.le_of_ble_eq_true rfl) dX4_isSame_137 (fun q58 H hJ => ?_)
      rw [fw_push] at hJ
      have hJ : Jw G (fw G σ ((q0, q1, q2, q3), aR) (hh, pw, ar, st, ht, n, row) [(q57, .inl (gC G 4, 6, .inl (fun _ => 0))), (q58, .inl (gC G 4, 6, .inl (fun _ => 0)))]) s H locs := hJ
      refine lv_astore (lv' := [(5, .ref q58), (4, .ref q57), (3, .int 0), (0, .ref q0), (1, .ref (gB G 0)), (2, .int (nI (coldF σ (5 - 1))))]) S.1 S.2.1 dX4_isSame_139 hl (by decide) rfl (fun ls hl => ?_)
      refine lv_iconst (v := (nI 0)) S.1 S.2.1 dX4_isSame_141 (by rfl) ?_
      refine lv_istore (lv' := [(6, .int (nI 0)), (5, .ref q58), (4, .ref q57), (3, .int 0), (0, .ref q0), (1, .ref (gB G 0)), (2, .int (nI (coldF σ (5 - 1))))]) S.1 S.2.1 dX4_isSame_142 hl (by decide) rfl (fun ls hl => ?_)
      exact loopB n 0 (fun _ => 0) (fun _ => 0) _ _ (by omega) (fun w hw => rfl) (fun w hw => (by show (0 : Int32) = 0 - 0; decide)) _ _ hJ ls (lv_sub hl [4, 5, 6, 3, 2, 1, 0] rfl)
    | succ n9 ih =>
      intro k hk0 H locs hJ ls hl
      have hk2 : k < 5 := by omega
      have hc5 : coldF σ (k - 1) < 5 := by have := coldF_le σ (k - 1); omega
      have eS := hp.2.2.1 k hk2
      have eC := hp.2.2.1 _ hc5
      have loopI : ∀ (n9 : Nat) (i : Nat), i + n9 = n → ∀ (H : Heap) (locs : List Loc), Jw G (fw G σ ((q0, q1, q2, q3), aR) (hh, pw, ar, st, ht, n, row) []) s H locs → ∀ ls : Array Slot, lv_has ls 9 [(0, .ref q0), (1, .ref (gB G 0)), (2, .int (nI (coldF σ (k - 1)))), (3, .int (nI k)), (4, .int (sumN (onR row k) i)), (5, .ref q3), (6, .int (nI n)), (7, .int (nI i))] → W p l e (rm 4 2 12) s m ([.ref q0, .ref (gB G 0)] : List Value).toArray below meth c H locs 0 0 (MQ below (Ui G (fun r ws' => r = 1)) ([.ref q0, .ref (gB G 0)] : List Value).toArray s 2 12 (gA G)) (F0 m 26 ls []) := by
        intro n9
        induction n9 with
        | zero =>
          intro i hi0 H locs hJ ls hl
          have hin : i = n := by omega
          refine lv_iload S.1 S.2.1 dX4_isSame_26 (lv_at hl 7 rfl) ?_
          refine lv_iload S.1 S.2.1 dX4_isSame_28 (lv_at hl 6 rfl) ?_
          refine lv_icmp_ge (tgt := 64) S.1 S.2.1 dX4_isSame_30 (by decide) (fun cz_30 => ?_) (fun c9 => absurd (nI_le (show n ≤ i by omega) (by omega)) c9)
          refine lv_aload_n S.1 S.2.1 dX4_isSame_64 rfl (lv_at hl 1 rfl) ?_
          refine lv_iload_n S.1 S.2.1 dX4_isSame_65 rfl (lv_at hl 3 rfl) ?_
          refine cz_i hJ (rzV (As := [.int (nI k)]) (rest := []) S hJ (c_settingOf l _ σ hk2) (cw_X4_X3_settingOf S.2.2.2.2 ⟨Nat.le_of_ble_eq_true rfl, Nat.le_of_ble_eq_true rfl⟩) (rcX hJ.iv) rfl hl.1 (Nat.le_of_ble_eq_true rfl) dX4_isSame_66 ⟨by show _ ≤ 2; omega, by show _ ≤ 12; omega⟩) (fun r59 σ59 H locs hq59 hJ => ?_)
          obtain ⟨hr59, hs59⟩ := hq59
          rw [hs59] at hJ
          rw [hr59]
          refine lv_aload_n S.1 S.2.1 dX4_isSame_69 rfl (lv_at hl 0 rfl) ?_
          refine q_X4_setting S hJ dX4_isSame_70 ?_
          refine lv_iload_n S.1 S.2.1 dX4_isSame_73 rfl (lv_at hl 3 rfl) ?_
          refine i_st S hJ (j := k) hk2 dX4_isSame_74 ?_
          refine lv_icmp_ne (tgt := 102) S.1 S.2.1 dX4_isSame_75 (by decide) (fun c9 => absurd eS.1.symm c9) (fun cz_75 => ?_)
          refine lv_aload_n S.1 S.2.1 dX4_isSame_78 rfl (lv_at hl 1 rfl) ?_
          refine lv_iload_n S.1 S.2.1 dX4_isSame_79 rfl (lv_at hl 3 rfl) ?_
          refine cz_i hJ (rzV (As := [.int (nI k)]) (rest := []) S hJ (c_heatOn l _ σ hk2) (cw_X4_X3_heatOn S.2.2.2.2 ⟨Nat.le_of_ble_eq_true rfl, Nat.le_of_ble_eq_true rfl⟩) (rcX hJ.iv) rfl hl.1 (Nat.le_of_ble_eq_true rfl) dX4_isSame_80 ⟨by show _ ≤ 2; omega, by show _ ≤ 12; omega⟩) (fun r60 σ60 H locs hq60 hJ => ?_)
          obtain ⟨hr60, hs60⟩ := hq60
          rw [hs60] at hJ
          rw [hr60]
          refine lv_aload_n S.1 S.2.1 dX4_isSame_83 rfl (lv_at hl 0 rfl) ?_
          refine q_X4_heat S hJ dX4_isSame_84 ?_
          refine lv_iload_n S.1 S.2.1 dX4_isSame_87 rfl (lv_at hl 3 rfl) ?_
          refine i_ht S hJ (j := k) hk2 dX4_isSame_88 ?_
          refine lv_icmp_ne (tgt := 102) S.1 S.2.1 dX4_isSame_89 (by decide) (fun c9 => absurd eS.2.symm c9) (fun cz_89 => ?_)
          refine lv_aload_n S.1 S.2.1 dX4_isSame_92 rfl (lv_at hl 1 rfl) ?_
          refine lv_iload_n S.1 S.2.1 dX4_isSame_93 rfl (lv_at hl 3 rfl) ?_
          refine cz_i hJ (rzV (As := [.int (nI k)]) (rest := []) S hJ (c_promisesOn l _ σ hk2) (cw_X4_X3_promisesOn S.2.2.2.2 ⟨Nat.le_of_ble_eq_true rfl, Nat.le_of_ble_eq_true rfl⟩) (rcX hJ.iv) rfl hl.1 (Nat.le_of_ble_eq_true rfl) dX4_isSame_94 ⟨by show _ ≤ 2; omega, by show _ ≤ 12; omega⟩) (fun r61 σ61 H locs hq61 hJ => ?_)
          obtain ⟨hr61, hs61⟩ := hq61
          rw [hs61] at hJ
          rw [hr61]
          refine lv_iload S.1 S.2.1 dX4_isSame_97 (lv_at hl 4 rfl) ?_
          refine lv_icmp_eq (tgt := 104) S.1 S.2.1 dX4_isSame_99 (by decide) (fun cz_99 => ?_) (fun c9 => absurd (by rw [hin]; exact on_eq hp hk2) c9)
          refine lv_aload_n S.1 S.2.1 dX4_isSame_104 rfl (lv_at hl 0 rfl) ?_
          refine q_X4_heat S hJ dX4_isSame_105 ?_
          refine lv_iload_n S.1 S.2.1 dX4_isSame_108 rfl (lv_at hl 3 rfl) ?_
          refine i_ht S hJ (j := k) hk2 dX4_isSame_109 ?_
          refine lv_aload_n S.1 S.2.1 dX4_isSame_110 rfl (lv_at hl 0 rfl) ?_
          refine q_X4_heat S hJ dX4_isSame_111 ?_
          refine lv_iload_n S.1 S.2.1 dX4_isSame_114 rfl (lv_at hl 2 rfl) ?_
          refine i_ht S hJ (j := (coldF σ (k - 1))) hc5 dX4_isSame_115 ?_
          refine lv_icmp_ge (tgt := 121) S.1 S.2.1 dX4_isSame_116 (by decide) (fun cz_116 => ?_) (fun cz_116 => ?_)
          · refine lv_iinc (v := (nI (k + 1))) (lv' := [(3, .int (nI (k + 1))), (0, .ref q0), (1, .ref (gB G 0)), (2, .int (nI (coldF σ (k - 1)))), (4, .int (sumN (onR row k) i)), (5, .ref q3), (6, .int (nI n)), (7, .int (nI i))]) S.1 S.2.1 dX4_isSame_121 hl (k := 3) rfl (nI_1 k) (by decide) rfl (fun ls hl => ?_)
            refine lv_goto (tgt := 4) S.1 S.2.1 dX4_isSame_124 (by decide) ?_
            exact ih (k + 1) (by omega) _ _ hJ ls (by rw [cold_up, if_pos (by have q1 : ht k = (gS σ k).2 := eS.2; have q2 : ht (coldF σ (k - 1)) = (gS σ (coldF σ (k - 1))).2 := eC.2; rw [← q1, ← q2]; exact cz_116)]; exact lv_sub hl [1, 2, 3, 0] rfl)
          · refine lv_iload_n S.1 S.2.1 dX4_isSame_119 rfl (lv_at hl 3 rfl) ?_
            refine lv_istore_n (lv' := [(2, .int (nI k)), (0, .ref q0), (1, .ref (gB G 0)), (3, .int (nI k)), (4, .int (sumN (onR row k) i)), (5, .ref q3), (6, .int (nI n)), (7, .int (nI i))]) S.1 S.2.1 dX4_isSame_120 rfl hl (by decide) rfl (fun ls hl => ?_)
            refine lv_iinc (v := (nI (k + 1))) (lv' := [(3, .int (nI (k + 1))), (2, .int (nI k)), (0, .ref q0), (1, .ref (gB G 0)), (4, .int (sumN (onR row k) i)), (5, .ref q3), (6, .int (nI n)), (7, .int (nI i))]) S.1 S.2.1 dX4_isSame_121 hl (k := 3) rfl (nI_1 k) (by decide) rfl (fun ls hl => ?_)
            refine lv_goto (tgt := 4) S.1 S.2.1 dX4_isSame_124 (by decide) ?_
            exact ih (k + 1) (by omega) _ _ hJ ls (by rw [cold_up, if_neg (by have q1 : ht k = (gS σ k).2 := eS.2; have q2 : ht (coldF σ (k - 1)) = (gS σ (coldF σ (k - 1))).2 := eC.2; rw [← q1, ← q2]; exact cz_116)]; exact lv_sub hl [2, 3, 1, 0] rfl)
        | succ n9 ih2 =>
          intro i hi0 H locs hJ ls hl
          have hi2 : i < n := by omega
          refine lv_iload S.1 S.2.1 dX4_isSame_26 (lv_at hl 7 rfl) ?_
          refine lv_iload S.1 S.2.1 dX4_isSame_28 (lv_at hl 6 rfl) ?_
          refine lv_icmp_ge (tgt := 64) S.1 S.2.1 dX4_isSame_30 (by decide) (fun c9 => absurd c9 (nI_ge hi2 (by omega))) (fun cz_30 => ?_)
          refine lv_aload S.1 S.2.1 dX4_isSame_33 (lv_at hl 5 rfl) ?_
          refine lv_iload S.1 S.2.1 dX4_isSame_35 (lv_at hl 7 rfl) ?_
          have hJ : Jw G (fw G σ ((q0, q1, q2, q3), aR) (hh, pw, ar, st, ht, n, va_up row i ((row i).1, (row i).2.1, (row i).2.2.1, (row i).2.2.2.1, (row i).2.2.2.2.1, (row i).2.2.2.2.2.1, (row i).2.2.2.2.2.2)) []) s H locs := by rw [row_eta]; exact hJ
          refine i_all S hJ (i := i) hi2 hn dX4_isSame_37 ?_
          refine lv_astore (lv' := [(8, .ref (aR i)), (0, .ref q0), (1, .ref (gB G 0)), (2, .int (nI (coldF σ (k - 1)))), (3, .int (nI k)), (4, .int (sumN (onR row k) i)), (5, .ref q3), (6, .int (nI n)), (7, .int (nI i))]) S.1 S.2.1 dX4_isSame_38 hl (by decide) rfl (fun ls hl => ?_)
          refine lv_iload S.1 S.2.1 dX4_isSame_40 (lv_at hl 5 rfl) ?_
          refine lv_aload S.1 S.2.1 dX4_isSame_42 (lv_at hl 0 rfl) ?_
          refine lv_iconst (v := 2) S.1 S.2.1 dX4_isSame_44 (by decide) ?_
          refine i_row2 S hJ hi2 dX4_isSame_45 ?_
          refine lv_iload_n S.1 S.2.1 dX4_isSame_46 rfl (lv_at hl 4 rfl) ?_
          refine lv_icmp_ne (tgt := 54) S.1 S.2.1 dX4_isSame_47 (by decide) (fun cz_47 => ?_) (fun cz_47 => ?_)
          · refine lv_iconst (v := 0) S.1 S.2.1 dX4_isSame_54 (by decide) ?_
            refine lv_iadd S.1 S.2.1 dX4_isSame_55 ?_
            refine lv_istore (lv' := [(4, .int ((sumN (onR row k) i) + 0)), (8, .ref (aR i)), (0, .ref q0), (1, .ref (gB G 0)), (2, .int (nI (coldF σ (k - 1)))), (3, .int (nI k)), (5, .ref q3), (6, .int (nI n)), (7, .int (nI i))]) S.1 S.2.1 dX4_isSame_56 hl (by decide) rfl (fun ls hl => ?_)
            refine lv_iinc (v := (nI (i + 1))) (lv' := [(7, .int (nI (i + 1))), (4, .int ((sumN (onR row k) i) + 0)), (8, .ref (aR i)), (0, .ref q0), (1, .ref (gB G 0)), (2, .int (nI (coldF σ (k - 1)))), (3, .int (nI k)), (5, .ref q3), (6, .int (nI n))]) S.1 S.2.1 dX4_isSame_58 hl (k := 8) rfl (nI_1 i) (by decide) rfl (fun ls hl => ?_)
            refine lv_goto (tgt := 26) S.1 S.2.1 dX4_isSame_61 (by decide) ?_
            have hJ : Jw G (fw G σ ((q0, q1, q2, q3), aR) (hh, pw, ar, st, ht, n, row) []) s H locs := by rw [row_eta] at hJ; exact hJ
            exact ih2 (i + 1) (by omega) _ _ hJ ls (by rw [show sumN (onR row k) (i + 1) = ((sumN (onR row k) i) + 0) from by rw [sumN_s]; exact congrArg (fun z => sumN (onR row k) i + z) (if_neg cz_47)]; exact lv_sub hl [3, 4, 5, 6, 1, 7, 8, 0] rfl)
          · refine lv_iconst (v := 1) S.1 S.2.1 dX4_isSame_50 (by decide) ?_
            refine lv_goto (tgt := 55) S.1 S.2.1 dX4_isSame_51 (by decide) ?_
            refine lv_iadd S.1 S.2.1 dX4_isSame_55 ?_
            refine lv_istore (lv' := [(4, .int ((sumN (onR row k) i) + 1)), (8, .ref (aR i)), (0, .ref q0), (1, .ref (gB G 0)), (2, .int (nI (coldF σ (k - 1)))), (3, .int (nI k)), (5, .ref q3), (6, .int (nI n)), (7, .int (nI i))]) S.1 S.2.1 dX4_isSame_56 hl (by decide) rfl (fun ls hl => ?_)
            refine lv_iinc (v := (nI (i + 1))) (lv' := [(7, .int (nI (i + 1))), (4, .int ((sumN (onR row k) i) + 1)), (8, .ref (aR i)), (0, .ref q0), (1, .ref (gB G 0)), (2, .int (nI (coldF σ (k - 1)))), (3, .int (nI k)), (5, .ref q3), (6, .int (nI n))]) S.1 S.2.1 dX4_isSame_58 hl (k := 8) rfl (nI_1 i) (by decide) rfl (fun ls hl => ?_)
            refine lv_goto (tgt := 26) S.1 S.2.1 dX4_isSame_61 (by decide) ?_
            have hJ : Jw G (fw G σ ((q0, q1, q2, q3), aR) (hh, pw, ar, st, ht, n, row) []) s H locs := by rw [row_eta] at hJ; exact hJ
            exact ih2 (i + 1) (by omega) _ _ hJ ls (by rw [show sumN (onR row k) (i + 1) = ((sumN (onR row k) i) + 1) from by rw [sumN_s]; exact congrArg (fun z => sumN (onR row k) i + z) (if_pos cz_47)]; exact lv_sub hl [3, 4, 5, 6, 1, 7, 8, 0] rfl)
      refine lv_iload_n S.1 S.2.1 dX4_isSame_4 rfl (lv_at hl 3 rfl) ?_
      refine lv_iconst (v := (nI 5)) S.1 S.2.1 dX4_isSame_5 (by rfl) ?_
      refine lv_icmp_ge (tgt := 127) S.1 S.2.1 dX4_isSame_6 (by decide) (fun c9 => absurd c9 (nI_ge (b := 5) hk2 (by omega))) (fun cz_6 => ?_)
      refine lv_iconst (v := 0) S.1 S.2.1 dX4_isSame_9 (by decide) ?_
      refine lv_istore (lv' := [(4, .int 0), (0, .ref q0), (1, .ref (gB G 0)), (2, .int (nI (coldF σ (k - 1)))), (3, .int (nI k))]) S.1 S.2.1 dX4_isSame_10 hl (by decide) rfl (fun ls hl => ?_)
      refine lv_aload_n S.1 S.2.1 dX4_isSame_12 rfl (lv_at hl 1 rfl) ?_
      refine q_X4_all S hJ dX4_isSame_13 ?_
      refine lv_astore (lv' := [(5, .ref q3), (4, .int 0), (0, .ref q0), (1, .ref (gB G 0)), (2, .int (nI (coldF σ (k - 1)))), (3, .int (nI k))]) S.1 S.2.1 dX4_isSame_16 hl (by decide) rfl (fun ls hl => ?_)
      refine lv_aload S.1 S.2.1 dX4_isSame_18 (lv_at hl 0 rfl) ?_
      refine l_all S hJ dX4_isSame_20 ?_
      refine lv_istore (lv' := [(6, .int (nI n)), (5, .ref q3), (4, .int 0), (0, .ref q0), (1, .ref (gB G 0)), (2, .int (nI (coldF σ (k - 1)))), (3, .int (nI k))]) S.1 S.2.1 dX4_isSame_21 hl (by decide) rfl (fun ls hl => ?_)
      refine lv_iconst (v := (nI 0)) S.1 S.2.1 dX4_isSame_23 (by rfl) ?_
      refine lv_istore (lv' := [(7, .int (nI 0)), (6, .int (nI n)), (5, .ref q3), (4, .int 0), (0, .ref q0), (1, .ref (gB G 0)), (2, .int (nI (coldF σ (k - 1)))), (3, .int (nI k))]) S.1 S.2.1 dX4_isSame_24 hl (by decide) rfl (fun ls hl => ?_)
      exact loopI n 0 (by omega) _ _ hJ ls (lv_sub hl [4, 5, 6, 7, 3, 2, 1, 0] rfl)
  refine lv_iconst (v := (nI 0)) S.1 S.2.1 dX4_isSame_0 (by rfl) ?_
  refine lv_istore_n (lv' := [(2, .int (nI 0)), (0, .ref q0), (1, .ref (gB G 0))]) S.1 S.2.1 dX4_isSame_1 rfl hl (by decide) rfl (fun ls hl => ?_)
  refine lv_iconst (v := (nI 0)) S.1 S.2.1 dX4_isSame_2 (by rfl) ?_
  refine lv_istore_n (lv' := [(3, .int (nI 0)), (2, .int (nI 0)), (0, .ref q0), (1, .ref (gB G 0))]) S.1 S.2.1 dX4_isSame_3 rfl hl (by decide) rfl (fun ls hl => ?_)
  exact loopA 5 0 rfl _ _ hJ ls (lv_sub hl [2, 3, 1, 0] rfl)
