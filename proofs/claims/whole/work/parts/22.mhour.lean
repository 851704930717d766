def yH (α : St) (k : Nat) : St := ((xS α 5, xP α k, gX α), α.2)
theorem Pic.warm {α : St} {n k : Nat} {mk lf nw : Nat → Int32} (h : Pic (xH α k 0 0) n mk lf nw) (hk : k < 5) : Pic (xH α (k + 1) 0 0) n mk lf (va_up nw (3 + 2 * k + 1) (hourS (nw 1) (nw (3 + 2 * k + 0), nw (3 + 2 * k + 1))).2) := by
  have h2 := h.2.2.2.1 k hk
  have e1 : gS (xH α k 0 0) k = gS α k := xS_ge α (Nat.le_refl k)
  have e2 : hourS (nw 1) (nw (3 + 2 * k + 0), nw (3 + 2 * k + 1)) = hourS (gX α).2.2.2 (gS α k) := by
    rw [h.2.1.2.1, h2.1, h2.2.1, e1]
    rfl
  rw [e2, ← xH_S]
  refine h.S hk (hourS_in h.2.2.1 ?_) ?_
  · rw [← e1]; exact h2.2.2
  · rw [e1]; rfl
theorem yH_gP (α : St) (k : Nat) : gP (yH α k) k = gP α k := xP_ge α (Nat.le_refl k)
theorem yH_s (α : St) (k : Nat) : setP (yH α k) k (hourP (xS α 5 (gP α k).2.1).2 (gP α k)) = yH α (k + 1) := by
  have e1 : va_up (xP α k) k (hourP (xS α 5 (gP α k).2.1).2 (gP α k)) = xP α (k + 1) := by
    funext i
    by_cases h : i = k
    · subst h; rw [va_up_self]; simp [xP]
    · rw [va_up_ne _ _ h]; unfold xP
      by_cases h2 : i < k
      · rw [if_pos h2, if_pos (by omega)]
      · rw [if_neg h2, if_neg (by omega)]
  show ((xS α 5, va_up (xP α k) k _, gX α), α.2) = _
  rw [e1]
  rfl
theorem Pic.start2 {α : St} {n : Nat} {mk lf nw : Nat → Int32} (h : Pic (xH α 5 0 0) n mk lf nw) : Pic (yH α 0) n mk lf nw :=
  h.cong (fun _ _ => rfl) (fun _ _ => rfl) (by
    show _ = ((gX α).2.1 + sumN (xR α) 0, (gX α).2.2.1 + 0, (gX α).2.2.2)
    rw [sumN_0, Int32.add_zero, Int32.add_zero]
    rfl)
theorem Pic.skip {α : St} {n k : Nat} {mk lf nw : Nat → Int32} (h : Pic (yH α k) n mk lf nw) (hs : ¬ (gP α k).2.1 < 6) : Pic (yH α (k + 1)) n mk lf nw ∧ xR α k = 0 := by
  have e : setP (yH α k) k (hourP (xS α 5 (gP α k).2.1).2 (gP α k)) = yH α k := by
    rw [show hourP (xS α 5 (gP α k).2.1).2 (gP α k) = gP (yH α k) k from (if_neg hs).trans (yH_gP α k).symm, setP_same]
  rw [yH_s] at e
  rw [e]
  exact ⟨h, if_neg (fun q => hs q.1)⟩
theorem Pic.at {α : St} {n k : Nat} {mk lf nw : Nat → Int32} (h : Pic (yH α k) n mk lf nw) (hk : k < n) : PicP (gP α k) (mk k) (lf k) (getZ nw k) := by
  have := h.2.2.2.2.1 k hk
  rw [yH_gP] at this
  exact this
theorem Pic.lieZ {x : Pr} {m1 l1 : Int32} {z : Z5} (h : PicP x m1 l1 z) (hs : x.2.1 < 5) : z = (nI x.2.1, x.2.2.2.2.2, x.2.2.2.2.1, nI (x.1 - 1), 0) := by
  obtain ⟨-, -, h3, h4, -, h6⟩ := h
  rcases h6 with ⟨-, -, q1, q2, q3⟩ | ⟨q, -⟩
  · obtain ⟨z0, z1, z2, z3, z4⟩ := z
    dsimp only at *
    rw [q1, h3, h4, q2, q3]
  · omega
theorem Pic.lieG {x : Pr} {m1 l1 : Int32} {z : Z5} (h : PicP x m1 l1 z) (hs : x.2.1 < 5) : x.1 = 1 ∨ x.1 = 2 ∨ x.1 = 3 := by
  obtain ⟨-, -, -, -, -, h6⟩ := h
  rcases h6 with ⟨-, q0, -⟩ | ⟨q, -⟩
  · exact q0
  · omega
theorem Pic.offZ {x : Pr} {m1 l1 : Int32} {z : Z5} (h : PicP x m1 l1 z) (hs : ¬ x.2.1 < 5) : z.1 = -1 ∧ ¬ x.2.1 < 6 := by
  obtain ⟨-, -, -, -, -, h6⟩ := h
  rcases h6 with ⟨q, -⟩ | ⟨q, q1, -⟩
  · exact absurd q hs
  · exact ⟨q1, by omega⟩
theorem nI_m1 {k : Nat} (h : k < 2 ^ 31) : ¬ nI k = -1 := fun q => by
  have := congrArg Int32.toInt q
  rw [nI_toInt h] at this
  have e : (-1 : Int32).toInt = -1 := by decide
  omega
theorem Pic.prom {α : St} {n k : Nat} {mk lf nw : Nat → Int32} (h : Pic (yH α k) n mk lf nw) (hk : k < n) (hs : (gP α k).2.1 < 5) :
    rgR (nw (3 + 2 * (gP α k).2.1 + 1)) (gP α k).2.2.2.2.2 (nI ((gP α k).1 - 1)) = xR α k ∧ Pic (yH α (k + 1)) n mk lf (putZ nw k (if rgD (nw (3 + 2 * (gP α k).2.1 + 1)) (gP α k).2.2.2.2.2 (nI ((gP α k).1 - 1)) = 1 then (nI (gP α k).2.1, rgB (nw (3 + 2 * (gP α k).2.1 + 1)) (gP α k).2.2.2.2.2, (gP α k).2.2.2.2.1, rgD (nw (3 + 2 * (gP α k).2.1 + 1)) (gP α k).2.2.2.2.2 (nI ((gP α k).1 - 1)), 0) else if lf k ≤ (gP α k).2.2.2.2.1 + 1 then (-1, rgB (nw (3 + 2 * (gP α k).2.1 + 1)) (gP α k).2.2.2.2.2, (gP α k).2.2.2.2.1 + 1, rgD (nw (3 + 2 * (gP α k).2.1 + 1)) (gP α k).2.2.2.2.2 (nI ((gP α k).1 - 1)), 2) else (nI (gP α k).2.1, rgB (nw (3 + 2 * (gP α k).2.1 + 1)) (gP α k).2.2.2.2.2, (gP α k).2.2.2.2.1 + 1, rgD (nw (3 + 2 * (gP α k).2.1 + 1)) (gP α k).2.2.2.2.2 (nI ((gP α k).1 - 1)), 0))) := by
  have hz := h.at hk
  have hS := h.2.2.2.1 (gP α k).2.1 hs
  have eT : nw (3 + 2 * (gP α k).2.1 + 1) = (xS α 5 (gP α k).2.1).2 := hS.2.1
  have hb : -30 ≤ (xS α 5 (gP α k).2.1).2 ∧ (xS α 5 (gP α k).2.1).2 ≤ 20 := hS.2.2.2.2
  obtain ⟨q1, q2⟩ := PicP.hour hz.1 hz.2.1 hz.2.2.2.2.1 hb hs (Pic.lieG hz hs)
  rw [eT]
  refine ⟨q1, ?_⟩
  rw [← yH_s]
  exact h.P hk q2
theorem Pic.off {α : St} {n : Nat} {mk lf nw : Nat → Int32} (h : Pic α n mk lf nw) {q : Nat} (h1 : n ≤ q) (h2 : q < 20) : ¬ (gP α q).2.1 < 6 := by have := (h.2.2.2.2.2 q h1 h2).2; omega
theorem Pic.endH {α : St} {n : Nat} {mk lf nw : Nat → Int32} (h : Pic (yH α n) n mk lf nw) : sumN (xR α) 20 = sumN (xR α) n ∧ Pic (hourX α) n mk lf (va_up (va_up nw 2 (nw 2 + sumN (xR α) n)) 0 (va_up nw 2 (nw 2 + sumN (xR α) n) 0 + 1)) := by
  have hn := h.1
  have off : ∀ q, n ≤ q → q < 20 → ¬ (gP α q).2.1 < 6 := fun q h1 h2 => by
    have e := h.off h1 h2
    rw [show gP (yH α n) q = gP α q from xP_ge α h1] at e
    exact e
  have hsum : ∀ m1, n ≤ m1 → m1 ≤ 20 → sumN (xR α) m1 = sumN (xR α) n := by
    intro m1 h1
    induction h1 with
    | refl => intro _; rfl
    | @step m2 h3 ih =>
      intro h4
      rw [sumN_s, ih (by omega), show xR α m2 = 0 from if_neg (fun z => off m2 h3 (by omega) z.1), Int32.add_zero]
  have e20 := hsum 20 hn (Nat.le_refl 20)
  refine ⟨e20, ?_⟩
  have hX := h.X (y := ((gX α).1, (gX α).2.1 + sumN (xR α) n, (gX α).2.2.1 + 1, (gX α).2.2.2)) (nw2 := va_up (va_up nw 2 (nw 2 + sumN (xR α) n)) 0 (va_up nw 2 (nw 2 + sumN (xR α) n) 0 + 1)) h.2.2.1 (by
    rw [va_up_self, va_up_ne _ _ (show (1 : Nat) ≠ 0 by decide), va_up_ne _ _ (show (1 : Nat) ≠ 2 by decide), va_up_ne _ _ (show (2 : Nat) ≠ 0 by decide), va_up_self, va_up_ne _ _ (show (0 : Nat) ≠ 2 by decide), h.2.1.1, h.2.1.2.1, h.2.1.2.2]
    exact ⟨rfl, rfl, rfl⟩) (fun j hj => by rw [va_up_ne _ _ (by omega), va_up_ne _ _ (by omega)])
  refine hX.cong (fun _ _ => rfl) (fun q hq => ?_) ?_
  · show xP α 20 q = xP α n q
    rcases Nat.lt_or_ge q n with h1 | h1
    · simp [xP, h1, hq]
    · rw [xP_ge α h1]
      exact (if_pos hq).trans (if_neg (off q h1 hq))
  · show ((gX α).2.1 + sumN (xR α) 20, (gX α).2.2.1 + 1, (gX α).2.2.2) = ((gX α).2.1 + sumN (xR α) n, (gX α).2.2.1 + 1, (gX α).2.2.2)
    rw [e20]
theorem i32_1 (a b c : Int32) : a - b + c = a + c - b := by
  rw [Int32.sub_eq_add_neg, Int32.sub_eq_add_neg, Int32.add_assoc, Int32.add_comm (-b) c, ← Int32.add_assoc]
set_option maxRecDepth 100000 in
set_option maxHeartbeats 4000000 in
theorem c_hourOn (l : Launch) (G : Gt) (σ : St) {α : St} {n : Nat} {th : Int32} {mk lf nw kp : Nat → Int32} (hm : gM σ = (th, nI n, mk, lf, nw, kp)) (hpic : Pic α n mk lf nw) : Ct l G yX4_hourOn cX4_hourOn 3 (some .int) 4 0 0 [.ref (gB G 3)] σ (Qi G (fun r σ' => ∃ nw', σ' = setM σ (th, nI n, mk, lf, nw', kp) ∧ Pic (hourX α) n mk lf nw' ∧ r = sumN (xR α) 20)) := by
  refine mt_intro (by decide +kernel) (Nat.le_of_ble_eq_true rfl) ?_
  intro p e s m below meth c S hr hlk hnm hI ls hl
  have hl : lv_has ls 3 [(0, .ref (gB G 3))] := hl
  have loop2 : ∀ (n1 : Nat) (k : Nat) (nwk : Nat → Int32), k + n1 = n → Pic (yH α k) n mk lf nwk → ∀ (H : Heap) (locs : List Loc), Iv G (setM σ (th, nI n, mk, lf, nwk, kp)) s H locs → ∀ ls : Array Slot, lv_has ls 3 [(0, .ref (gB G 3)), (1, .int (sumN (xR α) k)), (2, .int (nI k))] → W p l e (rm 4 0 0) s m ([.ref (gB G 3)] : List Value).toArray below meth c H locs 0 0 (MQ below (Qi G (fun r σ' => ∃ nw', σ' = setM σ (th, nI n, mk, lf, nw', kp) ∧ Pic (hourX α) n mk lf nw' ∧ r = sumN (xR α) 20)) ([.ref (gB G 3)] : List Value).toArray s 0 0 (gA G)) (F0 m 22 ls []) := by
    intro n1
    induction n1 with
    | zero =>
      intro k nwk hk0 hpk H locs hI ls hl
      have hn20 := hpic.1
      obtain rfl : k = n := by omega
      obtain ⟨hp1, hp2⟩ := hpk.endH
      refine lv_iload_n S.1 S.2.1 dX4_hourOn_22 rfl (lv_at hl 2 rfl) ?_
      refine lv_aload_n S.1 S.2.1 dX4_hourOn_23 rfl (lv_at hl 0 rfl) ?_
      refine g_X4_M_promises S hI (show gM (setM σ (th, nI k, mk, lf, nwk, kp)) = (th, nI k, mk, lf, nwk, kp) from rfl) dX4_hourOn_24 ?_
      refine lv_icmp_ge (tgt := 68) S.1 S.2.1 dX4_hourOn_27 (by decide) (fun cz_27 => ?_) (fun c9 => absurd (nI_le (Nat.le_refl k) (by omega)) c9)
      refine lv_aload_n S.1 S.2.1 dX4_hourOn_68 rfl (lv_at hl 0 rfl) ?_
      refine g_X4_M_now S hI dX4_hourOn_69 ?_
      refine lv_iconst (v := (nI 2)) S.1 S.2.1 dX4_hourOn_72 (by rfl) ?_
      refine lv_dup2_11 S.1 S.2.1 dX4_hourOn_73 rfl rfl ?_
      refine a_nw S hI (show gM (setM σ (th, nI k, mk, lf, nwk, kp)) = (th, nI k, mk, lf, nwk, kp) from rfl) (j := 2) (by omega) dX4_hourOn_74 ?_
      refine lv_iload_n S.1 S.2.1 dX4_hourOn_75 rfl (lv_at hl 1 rfl) ?_
      refine lv_iadd S.1 S.2.1 dX4_hourOn_76 ?_
      refine s_nw S hI (show gM (setM σ (th, nI k, mk, lf, nwk, kp)) = (th, nI k, mk, lf, nwk, kp) from rfl) (j := 2) (by omega) dX4_hourOn_77 (fun σ1 H locs ey1 hz1 hI => ?_)
      refine lv_aload_n S.1 S.2.1 dX4_hourOn_78 rfl (lv_at hl 0 rfl) ?_
      refine g_X4_M_now S hI dX4_hourOn_79 ?_
      refine lv_iconst (v := (nI 0)) S.1 S.2.1 dX4_hourOn_82 (by rfl) ?_
      refine lv_dup2_11 S.1 S.2.1 dX4_hourOn_83 rfl rfl ?_
      refine a_nw S hI hz1 (j := 0) (by omega) dX4_hourOn_84 ?_
      refine lv_iconst (v := 1) S.1 S.2.1 dX4_hourOn_85 (by decide) ?_
      refine lv_iadd S.1 S.2.1 dX4_hourOn_86 ?_
      refine s_nw S hI hz1 (j := 0) (by omega) dX4_hourOn_87 (fun σ2 H locs ey2 hz2 hI => ?_)
      refine lv_iload_n S.1 S.2.1 dX4_hourOn_88 rfl (lv_at hl 1 rfl) ?_
      exact xt_i S hI hr hlk (⟨_, (finM (by rw [ey2, ey1]; try rfl) hz2), hp2, hp1.symm⟩) (by decide) (by decide) dX4_hourOn_89
    | succ n1 ih =>
      intro k nwk hk0 hpk H locs hI ls hl
      have hk2 : k < n := by omega
      have hn20 := hpic.1
      have hzk := hpk.at hk2
      by_cases hs : (gP α k).2.1 < 5
      · have hz5 : getZ nwk k = ((nI (gP α k).2.1), (gP α k).2.2.2.2.2, (gP α k).2.2.2.2.1, (nI ((gP α k).1 - 1)), 0) := Pic.lieZ hzk hs
        have hmz : gM (setM σ (th, nI n, mk, lf, nwk, kp)) = (th, nI n, mk, lf, putZ nwk k ((nI (gP α k).2.1), (gP α k).2.2.2.2.2, (gP α k).2.2.2.2.1, (nI ((gP α k).1 - 1)), 0), kp) := by rw [← hz5, putZ_getZ]; rfl
        have hlz : ¬ nwk (13 + 5 * k + 0) = -1 := by rw [show nwk (13 + 5 * k + 0) = nI (gP α k).2.1 from congrArg Prod.fst hz5]; exact nI_m1 (by omega)
        obtain ⟨hpr1, hpr2⟩ := hpk.prom hk2 hs
        refine lv_iload_n S.1 S.2.1 dX4_hourOn_22 rfl (lv_at hl 2 rfl) ?_
        refine lv_aload_n S.1 S.2.1 dX4_hourOn_23 rfl (lv_at hl 0 rfl) ?_
        refine g_X4_M_promises S hI (show gM (setM σ (th, nI n, mk, lf, nwk, kp)) = (th, nI n, mk, lf, nwk, kp) from rfl) dX4_hourOn_24 ?_
        refine lv_icmp_ge (tgt := 68) S.1 S.2.1 dX4_hourOn_27 (by decide) (fun c9 => absurd c9 (nI_ge hk2 (by omega))) (fun cz_27 => ?_)
        refine lv_aload_n S.1 S.2.1 dX4_hourOn_30 rfl (lv_at hl 0 rfl) ?_
        refine lv_iload_n S.1 S.2.1 dX4_hourOn_31 rfl (lv_at hl 2 rfl) ?_
        refine cl_i hI (rnV (As := [.int (nI k)]) (rest := []) S hI (c_lies l G _ (pq := k) (show gM (setM σ (th, nI n, mk, lf, nwk, kp)) = (th, nI n, mk, lf, nwk, kp) from rfl) (by omega)) (cw_X4_X4_lies S.2.2.2.2 ⟨Nat.le_of_ble_eq_true rfl, Nat.le_of_ble_eq_true rfl⟩) (rcM hI) rfl hl.1 (Nat.le_of_ble_eq_true rfl) dX4_hourOn_32 ⟨Nat.le_of_ble_eq_true rfl, Nat.le_of_ble_eq_true rfl⟩) (fun r1 σ1 H locs hq1 hI => ?_)
        obtain ⟨hr1, hs1⟩ := hq1
        rw [hs1] at hI
        rw [hr1, if_neg hlz]
        refine lv_if_ne (tgt := 41) S.1 S.2.1 dX4_hourOn_35 (by decide) (fun _ => ?_) (fun c9 => absurd c9 (by decide))
        refine lv_iload_n S.1 S.2.1 dX4_hourOn_41 rfl (lv_at hl 1 rfl) ?_
        refine lv_aload_n S.1 S.2.1 dX4_hourOn_42 rfl (lv_at hl 0 rfl) ?_
        refine lv_iload_n S.1 S.2.1 dX4_hourOn_43 rfl (lv_at hl 2 rfl) ?_
        refine cl_i hI (rnV (As := [.int (nI k)]) (rest := [.int (sumN (xR α) k)]) S hI (c_rings l G _ (pq := k) (by omega) (k := (gP α k).2.1) hs hmz) (cw_X4_X4_rings S.2.2.2.2 ⟨Nat.le_of_ble_eq_true rfl, Nat.le_of_ble_eq_true rfl⟩) (rcM hI) rfl hl.1 (Nat.le_of_ble_eq_true rfl) dX4_hourOn_44 ⟨Nat.le_of_ble_eq_true rfl, Nat.le_of_ble_eq_true rfl⟩) (fun r2 σ2 H locs hq2 hI => ?_)
        obtain ⟨hr2, ez2⟩ := hq2
        rw [hpr1] at hr2
        have hM2 : gM σ2 = (th, nI n, mk, lf, (putZ nwk k ((nI (gP α k).2.1), rgB (nwk (3 + 2 * (gP α k).2.1 + 1)) (gP α k).2.2.2.2.2, (gP α k).2.2.2.2.1, rgD (nwk (3 + 2 * (gP α k).2.1 + 1)) (gP α k).2.2.2.2.2 (nI ((gP α k).1 - 1)), 0)), kp) := by rw [ez2]; rfl
        refine lv_if_eq (tgt := 54) S.1 S.2.1 dX4_hourOn_47 (by decide) (fun cz_47 => ?_) (fun cz_47 => ?_)
        · refine lv_iconst (v := 0) S.1 S.2.1 dX4_hourOn_54 (by decide) ?_
          refine lv_iadd S.1 S.2.1 dX4_hourOn_55 ?_
          refine lv_istore_n (lv' := [(1, .int ((sumN (xR α) k) + 0)), (0, .ref (gB G 3)), (2, .int (nI k))]) S.1 S.2.1 dX4_hourOn_56 rfl hl (by decide) rfl (fun ls hl => ?_)
          refine lv_aload_n S.1 S.2.1 dX4_hourOn_57 rfl (lv_at hl 1 rfl) ?_
          refine lv_iload_n S.1 S.2.1 dX4_hourOn_58 rfl (lv_at hl 2 rfl) ?_
          refine cl_v hI (rnV (As := [.int (nI k)]) (rest := []) S hI (c_getOlder l G _ (pq := k) (by omega) hM2) (cw_X4_X4_getOlder S.2.2.2.2 ⟨Nat.le_of_ble_eq_true rfl, Nat.le_of_ble_eq_true rfl⟩) (rcM hI) rfl hl.1 (Nat.le_of_ble_eq_true rfl) dX4_hourOn_59 ⟨Nat.le_of_ble_eq_true rfl, Nat.le_of_ble_eq_true rfl⟩) (fun σ3 H locs hq3 hI => ?_)
          have ez3 := hq3
          refine lv_iinc (v := (nI (k + 1))) (lv' := [(2, .int (nI (k + 1))), (1, .int ((sumN (xR α) k) + 0)), (0, .ref (gB G 3))]) S.1 S.2.1 dX4_hourOn_62 hl (k := 2) rfl (nI_1 k) (by decide) rfl (fun ls hl => ?_)
          refine lv_goto (tgt := 22) S.1 S.2.1 dX4_hourOn_65 (by decide) ?_
          exact ih (k + 1) _ (by omega) hpr2 _ _ (by rw [ez3, ez2] at hI; exact hI) ls (by rw [show sumN (xR α) (k + 1) = ((sumN (xR α) k) + 0) from by rw [sumN_s, ← hr2, show r2 = 0 from cz_47]]; exact lv_sub hl [2, 1, 0] rfl)
        · refine lv_iconst (v := 1) S.1 S.2.1 dX4_hourOn_50 (by decide) ?_
          refine lv_goto (tgt := 55) S.1 S.2.1 dX4_hourOn_51 (by decide) ?_
          refine lv_iadd S.1 S.2.1 dX4_hourOn_55 ?_
          refine lv_istore_n (lv' := [(1, .int ((sumN (xR α) k) + 1)), (0, .ref (gB G 3)), (2, .int (nI k))]) S.1 S.2.1 dX4_hourOn_56 rfl hl (by decide) rfl (fun ls hl => ?_)
          refine lv_aload_n S.1 S.2.1 dX4_hourOn_57 rfl (lv_at hl 1 rfl) ?_
          refine lv_iload_n S.1 S.2.1 dX4_hourOn_58 rfl (lv_at hl 2 rfl) ?_
          refine cl_v hI (rnV (As := [.int (nI k)]) (rest := []) S hI (c_getOlder l G _ (pq := k) (by omega) hM2) (cw_X4_X4_getOlder S.2.2.2.2 ⟨Nat.le_of_ble_eq_true rfl, Nat.le_of_ble_eq_true rfl⟩) (rcM hI) rfl hl.1 (Nat.le_of_ble_eq_true rfl) dX4_hourOn_59 ⟨Nat.le_of_ble_eq_true rfl, Nat.le_of_ble_eq_true rfl⟩) (fun σ4 H locs hq4 hI => ?_)
          have ez4 := hq4
          refine lv_iinc (v := (nI (k + 1))) (lv' := [(2, .int (nI (k + 1))), (1, .int ((sumN (xR α) k) + 1)), (0, .ref (gB G 3))]) S.1 S.2.1 dX4_hourOn_62 hl (k := 2) rfl (nI_1 k) (by decide) rfl (fun ls hl => ?_)
          refine lv_goto (tgt := 22) S.1 S.2.1 dX4_hourOn_65 (by decide) ?_
          exact ih (k + 1) _ (by omega) hpr2 _ _ (by rw [ez4, ez2] at hI; exact hI) ls (by rw [show sumN (xR α) (k + 1) = ((sumN (xR α) k) + 1) from by rw [sumN_s, ← hr2, show r2 = 1 from (by rw [hr2] at cz_47 ⊢; exact (xR_01 _ _).resolve_left cz_47)]]; exact lv_sub hl [2, 1, 0] rfl)
      · have hlz : nwk (13 + 5 * k + 0) = -1 := (Pic.offZ hzk hs).1
        obtain ⟨hpr2, hpr1⟩ := hpk.skip (Pic.offZ hzk hs).2
        refine lv_iload_n S.1 S.2.1 dX4_hourOn_22 rfl (lv_at hl 2 rfl) ?_
        refine lv_aload_n S.1 S.2.1 dX4_hourOn_23 rfl (lv_at hl 0 rfl) ?_
        refine g_X4_M_promises S hI (show gM (setM σ (th, nI n, mk, lf, nwk, kp)) = (th, nI n, mk, lf, nwk, kp) from rfl) dX4_hourOn_24 ?_
        refine lv_icmp_ge (tgt := 68) S.1 S.2.1 dX4_hourOn_27 (by decide) (fun c9 => absurd c9 (nI_ge hk2 (by omega))) (fun cz_27 => ?_)
        refine lv_aload_n S.1 S.2.1 dX4_hourOn_30 rfl (lv_at hl 0 rfl) ?_
        refine lv_iload_n S.1 S.2.1 dX4_hourOn_31 rfl (lv_at hl 2 rfl) ?_
        refine cl_i hI (rnV (As := [.int (nI k)]) (rest := []) S hI (c_lies l G _ (pq := k) (show gM (setM σ (th, nI n, mk, lf, nwk, kp)) = (th, nI n, mk, lf, nwk, kp) from rfl) (by omega)) (cw_X4_X4_lies S.2.2.2.2 ⟨Nat.le_of_ble_eq_true rfl, Nat.le_of_ble_eq_true rfl⟩) (rcM hI) rfl hl.1 (Nat.le_of_ble_eq_true rfl) dX4_hourOn_32 ⟨Nat.le_of_ble_eq_true rfl, Nat.le_of_ble_eq_true rfl⟩) (fun r1 σ1 H locs hq1 hI => ?_)
        obtain ⟨hr1, hs1⟩ := hq1
        rw [hs1] at hI
        rw [hr1, if_pos hlz]
        refine lv_if_ne (tgt := 41) S.1 S.2.1 dX4_hourOn_35 (by decide) (fun c9 => absurd c9 (by decide)) (fun _ => ?_)
        refine lv_goto (tgt := 62) S.1 S.2.1 dX4_hourOn_38 (by decide) ?_
        refine lv_iinc (v := (nI (k + 1))) (lv' := [(2, .int (nI (k + 1))), (0, .ref (gB G 3)), (1, .int (sumN (xR α) k))]) S.1 S.2.1 dX4_hourOn_62 hl (k := 2) rfl (nI_1 k) (by decide) rfl (fun ls hl => ?_)
        refine lv_goto (tgt := 22) S.1 S.2.1 dX4_hourOn_65 (by decide) ?_
        exact ih (k + 1) _ (by omega) hpr2 _ _ hI ls (by rw [show sumN (xR α) (k + 1) = sumN (xR α) k from by rw [sumN_s, hpr1, Int32.add_zero]]; exact lv_sub hl [1, 2, 0] rfl)
  have loop1 : ∀ (n1 : Nat) (k : Nat) (nwk : Nat → Int32), k + n1 = 5 → Pic (xH α k 0 0) n mk lf nwk → ∀ (H : Heap) (locs : List Loc), Iv G (setM σ (th, nI n, mk, lf, nwk, kp)) s H locs → ∀ ls : Array Slot, lv_has ls 3 [(0, .ref (gB G 3)), (1, .int (nI k))] → W p l e (rm 4 0 0) s m ([.ref (gB G 3)] : List Value).toArray below meth c H locs 0 0 (MQ below (Qi G (fun r σ' => ∃ nw', σ' = setM σ (th, nI n, mk, lf, nw', kp) ∧ Pic (hourX α) n mk lf nw' ∧ r = sumN (xR α) 20)) ([.ref (gB G 3)] : List Value).toArray s 0 0 (gA G)) (F0 m 2 ls []) := by
    intro n1
    induction n1 with
    | zero =>
      intro k nwk hk0 hpk H locs hI ls hl
      obtain rfl : k = 5 := by omega
      refine lv_iload_n S.1 S.2.1 dX4_hourOn_2 rfl (lv_at hl 1 rfl) ?_
      refine lv_iconst (v := 5) S.1 S.2.1 dX4_hourOn_3 (by decide) ?_
      refine lv_icmp_ge (tgt := 18) S.1 S.2.1 dX4_hourOn_4 (by decide) (fun cz_4 => ?_) (fun c9 => absurd (nI_le (a := 5) (b := 5) (Nat.le_refl 5) (by omega)) c9)
      refine lv_iconst (v := (sumN (xR α) 0)) S.1 S.2.1 dX4_hourOn_18 (by rfl) ?_
      refine lv_istore_n (lv' := [(1, .int (sumN (xR α) 0)), (0, .ref (gB G 3))]) S.1 S.2.1 dX4_hourOn_19 rfl hl (by decide) rfl (fun ls hl => ?_)
      refine lv_iconst (v := (nI 0)) S.1 S.2.1 dX4_hourOn_20 (by rfl) ?_
      refine lv_istore_n (lv' := [(2, .int (nI 0)), (1, .int (sumN (xR α) 0)), (0, .ref (gB G 3))]) S.1 S.2.1 dX4_hourOn_21 rfl hl (by decide) rfl (fun ls hl => ?_)
      exact loop2 n 0 nwk (by omega) hpk.start2 _ _ hI ls (lv_sub hl [2, 1, 0] rfl)
    | succ n1 ih =>
      intro k nwk hk0 hpk H locs hI ls hl
      have hk2 : k < 5 := by omega
      refine lv_iload_n S.1 S.2.1 dX4_hourOn_2 rfl (lv_at hl 1 rfl) ?_
      refine lv_iconst (v := 5) S.1 S.2.1 dX4_hourOn_3 (by decide) ?_
      refine lv_icmp_ge (tgt := 18) S.1 S.2.1 dX4_hourOn_4 (by decide) (fun c9 => absurd c9 (nI_ge (b := 5) hk2 (by omega))) (fun cz_4 => ?_)
      refine lv_aload_n S.1 S.2.1 dX4_hourOn_7 rfl (lv_at hl 0 rfl) ?_
      refine lv_iload_n S.1 S.2.1 dX4_hourOn_8 rfl (lv_at hl 1 rfl) ?_
      refine cl_v hI (rnV (As := [.int (nI k)]) (rest := []) S hI (c_warm l G _ (show gM (setM σ (th, nI n, mk, lf, nwk, kp)) = (th, nI n, mk, lf, nwk, kp) from rfl) (by rw [hpk.2.1.2.1]; exact hpk.2.2.1) (k := k) hk2) (cw_X4_X4_warm S.2.2.2.2 ⟨Nat.le_of_ble_eq_true rfl, Nat.le_of_ble_eq_true rfl⟩) (rcM hI) rfl hl.1 (Nat.le_of_ble_eq_true rfl) dX4_hourOn_9 ⟨Nat.le_of_ble_eq_true rfl, Nat.le_of_ble_eq_true rfl⟩) (fun σ1 H locs hq1 hI => ?_)
      have ez1 := hq1
      refine lv_iinc (v := (nI (k + 1))) (lv' := [(1, .int (nI (k + 1))), (0, .ref (gB G 3))]) S.1 S.2.1 dX4_hourOn_12 hl (k := 1) rfl (nI_1 k) (by decide) rfl (fun ls hl => ?_)
      refine lv_goto (tgt := 2) S.1 S.2.1 dX4_hourOn_15 (by decide) ?_
      exact ih (k + 1) _ (by omega) (hpk.warm hk2) _ _ (by rw [ez1] at hI; exact hI) ls (lv_sub hl [1, 0] rfl)
  have hI : Iv G (setM σ (th, nI n, mk, lf, nw, kp)) s s.heap [] := by rw [← hm]; exact hI
  refine lv_iconst (v := (nI 0)) S.1 S.2.1 dX4_hourOn_0 (by rfl) ?_
  refine lv_istore_n (lv' := [(1, .int (nI 0)), (0, .ref (gB G 3))]) S.1 S.2.1 dX4_hourOn_1 rfl hl (by decide) rfl (fun ls hl => ?_)
  exact loop1 5 0 nw rfl (by rw [xH_0]; exact hpic) _ _ hI ls (lv_sub hl [1, 0] rfl)
set_option maxRecDepth 100000 in
set_option maxHeartbeats 4000000 in
theorem c_hoursOn (l : Launch) (G : Gt) (σ : St) {α : St} {n : Nat} {th : Int32} {mk lf nw kp : Nat → Int32} (hm : gM σ = (th, nI n, mk, lf, nw, kp)) (hpic : Pic α n mk lf nw) {h : Nat} (hh100 : h ≤ 100) : Ct l G yX4_hoursOn cX4_hoursOn 4 (some .int) 5 0 0 [.ref (gB G 3), .int (nI h)] σ (Qi G (fun r σ' => ∃ nw', σ' = setM σ (th, nI n, mk, lf, nw', kp) ∧ Pic (hourXs h α) n mk lf nw' ∧ r = (gX (hourXs h α)).2.1 - (gX α).2.1)) := by
  refine mt_intro (by decide +kernel) (Nat.le_of_ble_eq_true rfl) ?_
  intro p e s m below meth c S hr hlk hnm hI ls hl
  have hl : lv_has ls 4 [(0, .ref (gB G 3)), (1, .int (nI h))] := hl
  have loop : ∀ (n1 : Nat) (k : Nat) (nwk : Nat → Int32), k + n1 = h → Pic (hourXs k α) n mk lf nwk → ∀ (H : Heap) (locs : List Loc), Iv G (setM σ (th, nI n, mk, lf, nwk, kp)) s H locs → ∀ ls : Array Slot, lv_has ls 4 [(0, .ref (gB G 3)), (1, .int (nI h)), (2, .int ((gX (hourXs k α)).2.1 - (gX α).2.1)), (3, .int (nI k))] → W p l e (rm 5 0 0) s m ([.ref (gB G 3), .int (nI h)] : List Value).toArray below meth c H locs 0 0 (MQ below (Qi G (fun r σ' => ∃ nw', σ' = setM σ (th, nI n, mk, lf, nw', kp) ∧ Pic (hourXs h α) n mk lf nw' ∧ r = (gX (hourXs h α)).2.1 - (gX α).2.1)) ([.ref (gB G 3), .int (nI h)] : List Value).toArray s 0 0 (gA G)) (F0 m 4 ls []) := by
    intro n1
    induction n1 with
    | zero =>
      intro k nwk hk0 hpk H locs hI ls hl
      obtain rfl : k = h := by omega
      refine lv_iload_n S.1 S.2.1 dX4_hoursOn_4 rfl (lv_at hl 3 rfl) ?_
      refine lv_iload_n S.1 S.2.1 dX4_hoursOn_5 rfl (lv_at hl 1 rfl) ?_
      refine lv_icmp_ge (tgt := 22) S.1 S.2.1 dX4_hoursOn_6 (by decide) (fun cz_6 => ?_) (fun c9 => absurd (nI_le (Nat.le_refl k) (by omega)) c9)
      refine lv_iload_n S.1 S.2.1 dX4_hoursOn_22 rfl (lv_at hl 2 rfl) ?_
      exact xt_i S hI hr hlk (⟨nwk, rfl, hpk, rfl⟩) (by decide) (by decide) dX4_hoursOn_23
    | succ n1 ih =>
      intro k nwk hk0 hpk H locs hI ls hl
      refine lv_iload_n S.1 S.2.1 dX4_hoursOn_4 rfl (lv_at hl 3 rfl) ?_
      refine lv_iload_n S.1 S.2.1 dX4_hoursOn_5 rfl (lv_at hl 1 rfl) ?_
      refine lv_icmp_ge (tgt := 22) S.1 S.2.1 dX4_hoursOn_6 (by decide) (fun c9 => absurd c9 (nI_ge (by omega) (by omega))) (fun cz_6 => ?_)
      refine lv_iload_n S.1 S.2.1 dX4_hoursOn_9 rfl (lv_at hl 2 rfl) ?_
      refine lv_aload_n S.1 S.2.1 dX4_hoursOn_10 rfl (lv_at hl 0 rfl) ?_
      refine cl_i hI (rnV (As := []) (rest := [.int ((gX (hourXs k α)).2.1 - (gX α).2.1)]) S hI (c_hourOn l G _ (show gM (setM σ (th, nI n, mk, lf, nwk, kp)) = (th, nI n, mk, lf, nwk, kp) from rfl) hpk) (cw_X4_X4_hourOn S.2.2.2.2 ⟨Nat.le_of_ble_eq_true rfl, Nat.le_of_ble_eq_true rfl⟩) (rcM hI) rfl hl.1 (Nat.le_of_ble_eq_true rfl) dX4_hoursOn_11 ⟨Nat.le_of_ble_eq_true rfl, Nat.le_of_ble_eq_true rfl⟩) (fun r1 σ1 H locs hq1 hI => ?_)
      obtain ⟨nwz, ez1, hpz, hr1⟩ := hq1
      have hI : Iv G (setM σ (th, nI n, mk, lf, nwz, kp)) s H locs := by rw [ez1] at hI; exact hI
      rw [hr1]
      refine lv_iadd S.1 S.2.1 dX4_hoursOn_14 ?_
      refine lv_istore_n (lv' := [(2, .int (((gX (hourXs k α)).2.1 - (gX α).2.1) + (sumN (xR (hourXs k α)) 20))), (0, .ref (gB G 3)), (1, .int (nI h)), (3, .int (nI k))]) S.1 S.2.1 dX4_hoursOn_15 rfl hl (by decide) rfl (fun ls hl => ?_)
      refine lv_iinc (v := (nI (k + 1))) (lv' := [(3, .int (nI (k + 1))), (2, .int (((gX (hourXs k α)).2.1 - (gX α).2.1) + (sumN (xR (hourXs k α)) 20))), (0, .ref (gB G 3)), (1, .int (nI h))]) S.1 S.2.1 dX4_hoursOn_16 hl (k := 3) rfl (nI_1 k) (by decide) rfl (fun ls hl => ?_)
      refine lv_goto (tgt := 4) S.1 S.2.1 dX4_hoursOn_19 (by decide) ?_
      exact ih (k + 1) nwz (by omega) hpz _ _ hI ls (by rw [show (gX (hourXs (k + 1) α)).2.1 - (gX α).2.1 = (((gX (hourXs k α)).2.1 - (gX α).2.1) + (sumN (xR (hourXs k α)) 20)) from (i32_1 _ _ _).symm]; exact lv_sub hl [2, 3, 1, 0] rfl)
  have hI : Iv G (setM σ (th, nI n, mk, lf, nw, kp)) s s.heap [] := by rw [← hm]; exact hI
  have e00 : (gX (hourXs 0 α)).2.1 - (gX α).2.1 = 0 := Int32.sub_self _
  refine lv_iconst (v := 0) S.1 S.2.1 dX4_hoursOn_0 (by decide) ?_
  refine lv_istore_n (lv' := [(2, .int 0), (0, .ref (gB G 3)), (1, .int (nI h))]) S.1 S.2.1 dX4_hoursOn_1 rfl hl (by decide) rfl (fun ls hl => ?_)
  refine lv_iconst (v := (nI 0)) S.1 S.2.1 dX4_hoursOn_2 (by rfl) ?_
  refine lv_istore_n (lv' := [(3, .int (nI 0)), (2, .int 0), (0, .ref (gB G 3)), (1, .int (nI h))]) S.1 S.2.1 dX4_hoursOn_3 rfl hl (by decide) rfl (fun ls hl => ?_)
  exact loop h 0 nw (by omega) hpic _ _ hI ls (by rw [e00]; exact lv_sub hl [2, 3, 1, 0] rfl)
