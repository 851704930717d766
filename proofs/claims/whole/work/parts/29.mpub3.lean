theorem Pic.openS {α : St} {n : Nat} {mk lf nw : Nat → Int32} (h : Pic α n mk lf nw) {k : Nat} (hk : k < 5) : Pic (setS α k ((gS α k).1, openH (gS α k).2)) n mk lf (va_up nw (3 + 2 * k + 1) (openH (nw (3 + 2 * k + 1)))) := by
  have hS := h.2.2.2.1 k hk
  rw [hS.2.1]
  exact h.S hk (y := ((gS α k).1, openH (gS α k).2)) ⟨hS.2.2.1, hS.2.2.2.1, openH_in hS.2.2.2.2⟩ rfl
theorem Pic.offA {α : St} {n : Nat} {mk lf nw : Nat → Int32} (h : Pic α n mk lf nw) {i : Nat} (hi : i < n) (hs : ¬ (gP α i).2.1 < 5) : nw (13 + 5 * i + 0) = -1 := (Pic.offZ (h.2.2.2.2.1 i hi) hs).1
theorem Pic.lieA {α : St} {n : Nat} {mk lf nw : Nat → Int32} (h : Pic α n mk lf nw) {i : Nat} (hi : i < n) (hs : (gP α i).2.1 < 5) : getZ nw i = (nI (gP α i).2.1, (gP α i).2.2.2.2.2, (gP α i).2.2.2.2.1, nI ((gP α i).1 - 1), 0) := Pic.lieZ (h.2.2.2.2.1 i hi) hs
theorem Pic.lay2 {α : St} {n : Nat} {mk lf nw : Nat → Int32} (h : Pic α n mk lf nw) {i k : Nat} (hi : i < n) (hk : k < 5) (hs : (gP α i).2.1 < 5) : Pic (setP α i ((gP α i).1, k, (gP α i).2.2)) n mk lf (putZ nw i (nI k, (gP α i).2.2.2.2.2, (gP α i).2.2.2.2.1, nI ((gP α i).1 - 1), 0)) := by
  have hz := h.2.2.2.2.1 i hi
  have hg9 := Pic.lieG hz hs
  exact h.P hi ⟨hz.1, hz.2.1, rfl, rfl, hz.2.2.2.2.1, Or.inl ⟨hk, hg9, rfl, rfl, rfl⟩⟩
theorem Pic.kept {α : St} {n : Nat} {mk lf nw : Nat → Int32} (h : Pic α n mk lf nw) {i : Nat} (hi : i < n) (d9 : Int32) : Pic (setP α i (4, 6, (gP α i).2.2)) n mk lf (putZ nw i (-1, (gP α i).2.2.2.2.2, (gP α i).2.2.2.2.1, d9, 1)) := by
  have hz := h.2.2.2.2.1 i hi
  exact h.P hi ⟨hz.1, hz.2.1, rfl, rfl, hz.2.2.2.2.1, Or.inr ⟨rfl, rfl, Or.inl ⟨rfl, rfl⟩⟩⟩
def moved (α : St) (i k : Nat) : St := setS (setS (setP α i ((gP α i).1, k, (gP α i).2.2)) (gP α i).2.1 ((gS α (gP α i).2.1).1, openH (gS α (gP α i).2.1).2)) k ((gS α k).1, openH (gS α k).2)
def keptS (α : St) (i : Nat) : St := setS (setP α i (4, 6, (gP α i).2.2)) (gP α i).2.1 ((gS α (gP α i).2.1).1, openH (gS α (gP α i).2.1).2)
theorem Pic.moved {α : St} {n : Nat} {mk lf nw : Nat → Int32} (h : Pic α n mk lf nw) {i k : Nat} (hi : i < n) (hk : k < 5) (hs : (gP α i).2.1 < 5) (hne : ¬ (gP α i).2.1 = k) {nwa nwb : Nat → Int32} (ha : nwa = putZ nw i (nI k, (gP α i).2.2.2.2.2, (gP α i).2.2.2.2.1, nI ((gP α i).1 - 1), 0)) (hb : nwb = va_up nwa (3 + 2 * (gP α i).2.1 + 1) (openH (nwa (3 + 2 * (gP α i).2.1 + 1)))) : Pic (moved α i k) n mk lf (va_up nwb (3 + 2 * k + 1) (openH (nwb (3 + 2 * k + 1)))) := by
  subst ha
  subst hb
  have h1 := ((h.lay2 hi hk hs).openS hs).openS hk
  rw [gS_setS_ne _ _ (Ne.symm hne)] at h1
  exact h1
def leftQ (α : St) (h : Nat) : Nat → Int32 := fun q => if (gP (hourXs h α) q).2.1 < 6 then 1 else 0
theorem Pic.leftS {α : St} {n : Nat} {mk lf nw : Nat → Int32} (hp : Pic α n mk lf nw) (h : Nat) : sumN (leftF α h) 20 = sumN (leftQ α h) n := by
  rw [sumN_congr (f := leftF α h) (g := leftQ α h) (fun i hi => left_eq hp.ok hi h)]
  exact sumN_tail hp.1 (fun i h1 h2 => if_neg (by rw [stay_hours h2 (hp.off h1 h2)]; exact hp.off h1 h2))
set_option maxRecDepth 100000 in
set_option maxHeartbeats 4000000 in
theorem m_move (l : Launch) (G : Gt) (σ : St) {α : St} {n : Nat} {th : Int32} {mk lf nw kp : Nat → Int32} (hm : gM σ = (th, nI n, mk, lf, nw, kp)) (hpic : Pic α n mk lf nw) {i k : Nat} (hi : i < n) (hk : k < 5) (hs : (gP α i).2.1 < 5) (hne : ¬ (gP α i).2.1 = k) (hg3 : ¬ (gP α i).1 = 3) : Ct l G yX4_move cX4_move 4 (some .int) 4 0 0 [.ref (gB G 3), .int (nI i), .int (nI k)] σ (Qi G (fun r σ' => r = nI (gP α i).2.1 ∧ Mq σ (moved α i k) 0 n σ')) := by
  refine mt_intro (by decide +kernel) (Nat.le_of_ble_eq_true rfl) ?_
  intro p e s m below meth c S hr hlk hnm hI ls hl
  have hl : lv_has ls 4 [(0, .ref (gB G 3)), (1, .int (nI i)), (2, .int (nI k))] := hl
  have hn20 := hpic.1
  have hz5 := hpic.lieA hi hs
  have hmz : gM σ = (th, nI n, mk, lf, putZ nw i ((nI (gP α i).2.1), (gP α i).2.2.2.2.2, (gP α i).2.2.2.2.1, (nI ((gP α i).1 - 1)), 0), kp) := by rw [← hz5, putZ_getZ]; exact hm
  refine lv_aload_n S.1 S.2.1 dX4_move_0 rfl (lv_at hl 0 rfl) ?_
  refine lv_iconst (v := 0) S.1 S.2.1 dX4_move_1 (by decide) ?_
  refine p_X4_M_thrown S hI hmz dX4_move_2 (fun σ1 H locs ey1 hz1 hI => ?_)
  refine lv_aload_n S.1 S.2.1 dX4_move_5 rfl (lv_at hl 0 rfl) ?_
  refine lv_iload_n S.1 S.2.1 dX4_move_6 rfl (lv_at hl 1 rfl) ?_
  refine cl_i hI (rnV (As := [.int (nI i)]) (rest := []) S hI (c_isPromise l G _ hz1 (nI i)) (cw_X4_X4_isPromise S.2.2.2.2 ⟨Nat.le_of_ble_eq_true rfl, Nat.le_of_ble_eq_true rfl⟩) (rcM hI) rfl hl.1 (Nat.le_of_ble_eq_true rfl) dX4_move_7 ⟨Nat.le_of_ble_eq_true rfl, Nat.le_of_ble_eq_true rfl⟩) (fun r2 σ2 H locs hq2 hI => ?_)
  obtain ⟨hr2, hs2⟩ := hq2
  rw [hs2] at hI
  rw [hr2, inI_p hi hn20]
  refine lv_if_eq (tgt := 20) S.1 S.2.1 dX4_move_10 (by decide) (fun c9 => absurd c9 (by decide)) (fun _ => ?_)
  refine lv_iload_n S.1 S.2.1 dX4_move_13 rfl (lv_at hl 2 rfl) ?_
  refine cl_i hI (rnS (As := [.int (nI k)]) (rest := []) S hI (c_isShelf l G _ (nI k)) (cw_X4_X4_isShelf S.2.2.2.2 ⟨Nat.le_of_ble_eq_true rfl, Nat.le_of_ble_eq_true rfl⟩) rfl hl.1 (Nat.le_of_ble_eq_true rfl) dX4_move_14 ⟨Nat.le_of_ble_eq_true rfl, Nat.le_of_ble_eq_true rfl⟩) (fun r3 σ3 H locs hq3 hI => ?_)
  obtain ⟨hr3, hs3⟩ := hq3
  rw [hs3] at hI
  rw [hr3, inI_s hk]
  refine lv_if_ne (tgt := 26) S.1 S.2.1 dX4_move_17 (by decide) (fun _ => ?_) (fun c9 => absurd c9 (by decide))
  refine lv_aload_n S.1 S.2.1 dX4_move_26 rfl (lv_at hl 0 rfl) ?_
  refine g_X4_M_now S hI dX4_move_27 ?_
  refine lv_iload_n S.1 S.2.1 dX4_move_30 rfl (lv_at hl 1 rfl) ?_
  refine lv_iconst (v := 0) S.1 S.2.1 dX4_move_31 (by decide) ?_
  refine cl_i hI (rnS (As := [.int (nI i), .int 0]) (rest := [.ref (gB G 6)]) S hI (c_of l G _ i 0) (cw_X4_X4_of S.2.2.2.2 ⟨Nat.le_of_ble_eq_true rfl, Nat.le_of_ble_eq_true rfl⟩) rfl hl.1 (Nat.le_of_ble_eq_true rfl) dX4_move_32 ⟨Nat.le_of_ble_eq_true rfl, Nat.le_of_ble_eq_true rfl⟩) (fun r4 σ4 H locs hq4 hI => ?_)
  obtain ⟨hr4, hs4⟩ := hq4
  rw [hs4] at hI
  rw [hr4]
  refine a_nw S hI hz1 (j := (13 + 5 * i + 0)) (by omega) dX4_move_35 ?_
  rw [putZ_0]
  refine lv_istore_n (lv' := [(3, .int (nI (gP α i).2.1)), (0, .ref (gB G 3)), (1, .int (nI i)), (2, .int (nI k))]) S.1 S.2.1 dX4_move_36 rfl hl (by decide) rfl (fun ls hl => ?_)
  refine lv_iload_n S.1 S.2.1 dX4_move_37 rfl (lv_at hl 0 rfl) ?_
  refine lv_iconst (v := (-1)) S.1 S.2.1 dX4_move_38 (by decide) ?_
  refine lv_icmp_eq (tgt := 61) S.1 S.2.1 dX4_move_39 (by decide) (fun c9 => absurd c9 (nI_m1 (by omega))) (fun cz_39 => ?_)
  refine lv_iload_n S.1 S.2.1 dX4_move_42 rfl (lv_at hl 0 rfl) ?_
  refine lv_iload_n S.1 S.2.1 dX4_move_43 rfl (lv_at hl 3 rfl) ?_
  refine lv_icmp_eq (tgt := 61) S.1 S.2.1 dX4_move_44 (by decide) (fun c9 => absurd c9 (fun z9 => hne ((nI_eq (by omega) (by omega)).mp z9))) (fun cz_44 => ?_)
  refine lv_aload_n S.1 S.2.1 dX4_move_47 rfl (lv_at hl 1 rfl) ?_
  refine g_X4_M_now S hI dX4_move_48 ?_
  refine lv_iload_n S.1 S.2.1 dX4_move_51 rfl (lv_at hl 2 rfl) ?_
  refine lv_iconst (v := 3) S.1 S.2.1 dX4_move_52 (by decide) ?_
  refine cl_i hI (rnS (As := [.int (nI i), .int 3]) (rest := [.ref (gB G 6)]) S hI (c_of l G _ i 3) (cw_X4_X4_of S.2.2.2.2 ⟨Nat.le_of_ble_eq_true rfl, Nat.le_of_ble_eq_true rfl⟩) rfl hl.1 (Nat.le_of_ble_eq_true rfl) dX4_move_53 ⟨Nat.le_of_ble_eq_true rfl, Nat.le_of_ble_eq_true rfl⟩) (fun r5 σ5 H locs hq5 hI => ?_)
  obtain ⟨hr5, hs5⟩ := hq5
  rw [hs5] at hI
  rw [hr5]
  refine a_nw S hI hz1 (j := (13 + 5 * i + 3)) (by omega) dX4_move_56 ?_
  rw [putZ_3]
  refine lv_iconst (v := 2) S.1 S.2.1 dX4_move_57 (by decide) ?_
  refine lv_icmp_ne (tgt := 67) S.1 S.2.1 dX4_move_58 (by decide) (fun cz_58 => ?_) (fun c9 => absurd c9 (fun z9 => hg3 (by have hg9 := Pic.lieG (hpic.2.2.2.2.1 i hi) hs; have := (nI_eq (a := (gP α i).1 - 1) (b := 2) (by omega) (by omega)).mp z9; omega)))
  refine lv_aload_n S.1 S.2.1 dX4_move_67 rfl (lv_at hl 1 rfl) ?_
  refine g_X4_M_now S hI dX4_move_68 ?_
  refine lv_iload_n S.1 S.2.1 dX4_move_71 rfl (lv_at hl 2 rfl) ?_
  refine lv_iconst (v := 0) S.1 S.2.1 dX4_move_72 (by decide) ?_
  refine cl_i hI (rnS (As := [.int (nI i), .int 0]) (rest := [.ref (gB G 6)]) S hI (c_of l G _ i 0) (cw_X4_X4_of S.2.2.2.2 ⟨Nat.le_of_ble_eq_true rfl, Nat.le_of_ble_eq_true rfl⟩) rfl hl.1 (Nat.le_of_ble_eq_true rfl) dX4_move_73 ⟨Nat.le_of_ble_eq_true rfl, Nat.le_of_ble_eq_true rfl⟩) (fun r6 σ6 H locs hq6 hI => ?_)
  obtain ⟨hr6, hs6⟩ := hq6
  rw [hs6] at hI
  rw [hr6]
  refine lv_iload_n S.1 S.2.1 dX4_move_76 rfl (lv_at hl 3 rfl) ?_
  refine s_nw S hI hz1 (j := (13 + 5 * i + 0)) (by omega) dX4_move_77 (fun σ7 H locs ey7 hz7 hI => ?_)
  rw [upZ_0] at hz7
  refine lv_aload_n S.1 S.2.1 dX4_move_78 rfl (lv_at hl 1 rfl) ?_
  refine lv_iload_n S.1 S.2.1 dX4_move_79 rfl (lv_at hl 0 rfl) ?_
  refine cl_v hI (rnV (As := [.int (nI (gP α i).2.1)]) (rest := []) S hI (c_open l G _ hz7 (k := ((gP α i).2.1)) (by omega)) (cw_X4_X4_open S.2.2.2.2 ⟨Nat.le_of_ble_eq_true rfl, Nat.le_of_ble_eq_true rfl⟩) (rcM hI) rfl hl.1 (Nat.le_of_ble_eq_true rfl) dX4_move_80 ⟨Nat.le_of_ble_eq_true rfl, Nat.le_of_ble_eq_true rfl⟩) (fun σ8 H locs hq8 hI => ?_)
  have ez8 := hq8
  have hM8 : gM σ8 = (0, (nI n), mk, lf, (va_up (putZ nw i ((nI k), (gP α i).2.2.2.2.2, (gP α i).2.2.2.2.1, (nI ((gP α i).1 - 1)), 0)) (3 + 2 * ((gP α i).2.1) + 1) (openH ((putZ nw i ((nI k), (gP α i).2.2.2.2.2, (gP α i).2.2.2.2.1, (nI ((gP α i).1 - 1)), 0)) (3 + 2 * ((gP α i).2.1) + 1)))), kp) := by rw [ez8]; rfl
  refine lv_aload_n S.1 S.2.1 dX4_move_83 rfl (lv_at hl 1 rfl) ?_
  refine lv_iload_n S.1 S.2.1 dX4_move_84 rfl (lv_at hl 3 rfl) ?_
  refine cl_v hI (rnV (As := [.int (nI k)]) (rest := []) S hI (c_open l G _ hM8 (k := k) (by omega)) (cw_X4_X4_open S.2.2.2.2 ⟨Nat.le_of_ble_eq_true rfl, Nat.le_of_ble_eq_true rfl⟩) (rcM hI) rfl hl.1 (Nat.le_of_ble_eq_true rfl) dX4_move_85 ⟨Nat.le_of_ble_eq_true rfl, Nat.le_of_ble_eq_true rfl⟩) (fun σ9 H locs hq9 hI => ?_)
  have ez9 := hq9
  have hM9 : gM σ9 = (0, (nI n), mk, lf, (va_up (va_up (putZ nw i ((nI k), (gP α i).2.2.2.2.2, (gP α i).2.2.2.2.1, (nI ((gP α i).1 - 1)), 0)) (3 + 2 * ((gP α i).2.1) + 1) (openH ((putZ nw i ((nI k), (gP α i).2.2.2.2.2, (gP α i).2.2.2.2.1, (nI ((gP α i).1 - 1)), 0)) (3 + 2 * ((gP α i).2.1) + 1)))) (3 + 2 * k + 1) (openH ((va_up (putZ nw i ((nI k), (gP α i).2.2.2.2.2, (gP α i).2.2.2.2.1, (nI ((gP α i).1 - 1)), 0)) (3 + 2 * ((gP α i).2.1) + 1) (openH ((putZ nw i ((nI k), (gP α i).2.2.2.2.2, (gP α i).2.2.2.2.1, (nI ((gP α i).1 - 1)), 0)) (3 + 2 * ((gP α i).2.1) + 1)))) (3 + 2 * k + 1)))), kp) := by rw [ez9]; rfl
  refine lv_iload_n S.1 S.2.1 dX4_move_88 rfl (lv_at hl 0 rfl) ?_
  exact xt_i S hI hr hlk (⟨rfl, mk, lf, _, kp, (finM (by rw [ez9, ez8, ey7, ey1]; try rfl) hM9), hpic.moved hi hk hs hne rfl rfl⟩) (by decide) (by decide) dX4_move_89
set_option maxRecDepth 100000 in
set_option maxHeartbeats 4000000 in
theorem m_move_b1p (l : Launch) (G : Gt) (σ : St) {α : St} {n : Nat} {th : Int32} {mk lf nw kp : Nat → Int32} (hm : gM σ = (th, nI n, mk, lf, nw, kp)) (hpic : Pic α n mk lf nw) (v v2 : Int32) (hb : v < 0 ∨ nI n ≤ v) : Ct l G yX4_move cX4_move 4 (some .int) 4 0 0 [.ref (gB G 3), .int v, .int v2] σ (Qi G (fun r σ' => Mq σ α 1 n σ')) := by
  refine mt_intro (by decide +kernel) (Nat.le_of_ble_eq_true rfl) ?_
  intro p e s m below meth c S hr hlk hnm hI ls hl
  have hl : lv_has ls 4 [(0, .ref (gB G 3)), (1, .int v), (2, .int v2)] := hl
  have hn20 := hpic.1
  refine lv_aload_n S.1 S.2.1 dX4_move_0 rfl (lv_at hl 0 rfl) ?_
  refine lv_iconst (v := 0) S.1 S.2.1 dX4_move_1 (by decide) ?_
  refine p_X4_M_thrown S hI hm dX4_move_2 (fun σ1 H locs ey1 hz1 hI => ?_)
  refine lv_aload_n S.1 S.2.1 dX4_move_5 rfl (lv_at hl 0 rfl) ?_
  refine lv_iload_n S.1 S.2.1 dX4_move_6 rfl (lv_at hl 1 rfl) ?_
  refine cl_i hI (rnV (As := [.int v]) (rest := []) S hI (c_isPromise l G _ hz1 v) (cw_X4_X4_isPromise S.2.2.2.2 ⟨Nat.le_of_ble_eq_true rfl, Nat.le_of_ble_eq_true rfl⟩) (rcM hI) rfl hl.1 (Nat.le_of_ble_eq_true rfl) dX4_move_7 ⟨Nat.le_of_ble_eq_true rfl, Nat.le_of_ble_eq_true rfl⟩) (fun r2 σ2 H locs hq2 hI => ?_)
  obtain ⟨hr2, hs2⟩ := hq2
  rw [hs2] at hI
  rw [hr2, inI_np hn20 hb]
  refine lv_if_eq (tgt := 20) S.1 S.2.1 dX4_move_10 (by decide) (fun _ => ?_) (fun c9 => absurd c9 (by decide))
  refine lv_aload_n S.1 S.2.1 dX4_move_20 rfl (lv_at hl 0 rfl) ?_
  refine lv_iconst (v := 1) S.1 S.2.1 dX4_move_21 (by decide) ?_
  refine cl_i hI (rnV (As := [.int 1]) (rest := []) S hI (c_no l G _ hz1 1) (cw_X4_X4_no S.2.2.2.2 ⟨Nat.le_of_ble_eq_true rfl, Nat.le_of_ble_eq_true rfl⟩) (rcM hI) rfl hl.1 (Nat.le_of_ble_eq_true rfl) dX4_move_22 ⟨Nat.le_of_ble_eq_true rfl, Nat.le_of_ble_eq_true rfl⟩) (fun r3 σ3 H locs hq3 hI => ?_)
  obtain ⟨hr3, ez3⟩ := hq3
  rw [hr3]
  exact xt_i S hI hr hlk (⟨mk, lf, nw, kp, (by rw [ez3, ey1]; try rfl), hpic⟩) (by decide) (by decide) dX4_move_25
set_option maxRecDepth 100000 in
set_option maxHeartbeats 4000000 in
theorem m_move_b1s (l : Launch) (G : Gt) (σ : St) {α : St} {n : Nat} {th : Int32} {mk lf nw kp : Nat → Int32} (hm : gM σ = (th, nI n, mk, lf, nw, kp)) (hpic : Pic α n mk lf nw) {i : Nat} (hi : i < n) (v : Int32) (hb : v < 0 ∨ nI 5 ≤ v) : Ct l G yX4_move cX4_move 4 (some .int) 4 0 0 [.ref (gB G 3), .int (nI i), .int v] σ (Qi G (fun r σ' => Mq σ α 1 n σ')) := by
  refine mt_intro (by decide +kernel) (Nat.le_of_ble_eq_true rfl) ?_
  intro p e s m below meth c S hr hlk hnm hI ls hl
  have hl : lv_has ls 4 [(0, .ref (gB G 3)), (1, .int (nI i)), (2, .int v)] := hl
  have hn20 := hpic.1
  refine lv_aload_n S.1 S.2.1 dX4_move_0 rfl (lv_at hl 0 rfl) ?_
  refine lv_iconst (v := 0) S.1 S.2.1 dX4_move_1 (by decide) ?_
  refine p_X4_M_thrown S hI hm dX4_move_2 (fun σ1 H locs ey1 hz1 hI => ?_)
  refine lv_aload_n S.1 S.2.1 dX4_move_5 rfl (lv_at hl 0 rfl) ?_
  refine lv_iload_n S.1 S.2.1 dX4_move_6 rfl (lv_at hl 1 rfl) ?_
  refine cl_i hI (rnV (As := [.int (nI i)]) (rest := []) S hI (c_isPromise l G _ hz1 (nI i)) (cw_X4_X4_isPromise S.2.2.2.2 ⟨Nat.le_of_ble_eq_true rfl, Nat.le_of_ble_eq_true rfl⟩) (rcM hI) rfl hl.1 (Nat.le_of_ble_eq_true rfl) dX4_move_7 ⟨Nat.le_of_ble_eq_true rfl, Nat.le_of_ble_eq_true rfl⟩) (fun r2 σ2 H locs hq2 hI => ?_)
  obtain ⟨hr2, hs2⟩ := hq2
  rw [hs2] at hI
  rw [hr2, inI_p hi hn20]
  refine lv_if_eq (tgt := 20) S.1 S.2.1 dX4_move_10 (by decide) (fun c9 => absurd c9 (by decide)) (fun _ => ?_)
  refine lv_iload_n S.1 S.2.1 dX4_move_13 rfl (lv_at hl 2 rfl) ?_
  refine cl_i hI (rnS (As := [.int v]) (rest := []) S hI (c_isShelf l G _ v) (cw_X4_X4_isShelf S.2.2.2.2 ⟨Nat.le_of_ble_eq_true rfl, Nat.le_of_ble_eq_true rfl⟩) rfl hl.1 (Nat.le_of_ble_eq_true rfl) dX4_move_14 ⟨Nat.le_of_ble_eq_true rfl, Nat.le_of_ble_eq_true rfl⟩) (fun r3 σ3 H locs hq3 hI => ?_)
  obtain ⟨hr3, hs3⟩ := hq3
  rw [hs3] at hI
  rw [hr3, inI_bs hb]
  refine lv_if_ne (tgt := 26) S.1 S.2.1 dX4_move_17 (by decide) (fun c9 => absurd c9 (by decide)) (fun _ => ?_)
  refine lv_aload_n S.1 S.2.1 dX4_move_20 rfl (lv_at hl 0 rfl) ?_
  refine lv_iconst (v := 1) S.1 S.2.1 dX4_move_21 (by decide) ?_
  refine cl_i hI (rnV (As := [.int 1]) (rest := []) S hI (c_no l G _ hz1 1) (cw_X4_X4_no S.2.2.2.2 ⟨Nat.le_of_ble_eq_true rfl, Nat.le_of_ble_eq_true rfl⟩) (rcM hI) rfl hl.1 (Nat.le_of_ble_eq_true rfl) dX4_move_22 ⟨Nat.le_of_ble_eq_true rfl, Nat.le_of_ble_eq_true rfl⟩) (fun r4 σ4 H locs hq4 hI => ?_)
  obtain ⟨hr4, ez4⟩ := hq4
  rw [hr4]
  exact xt_i S hI hr hlk (⟨mk, lf, nw, kp, (by rw [ez4, ey1]; try rfl), hpic⟩) (by decide) (by decide) dX4_move_25
set_option maxRecDepth 100000 in
set_option maxHeartbeats 4000000 in
theorem m_move_b2n (l : Launch) (G : Gt) (σ : St) {α : St} {n : Nat} {th : Int32} {mk lf nw kp : Nat → Int32} (hm : gM σ = (th, nI n, mk, lf, nw, kp)) (hpic : Pic α n mk lf nw) {i k : Nat} (hi : i < n) (hk : k < 5) (hs : ¬ (gP α i).2.1 < 5) : Ct l G yX4_move cX4_move 4 (some .int) 4 0 0 [.ref (gB G 3), .int (nI i), .int (nI k)] σ (Qi G (fun r σ' => Mq σ α 2 n σ')) := by
  refine mt_intro (by decide +kernel) (Nat.le_of_ble_eq_true rfl) ?_
  intro p e s m below meth c S hr hlk hnm hI ls hl
  have hl : lv_has ls 4 [(0, .ref (gB G 3)), (1, .int (nI i)), (2, .int (nI k))] := hl
  have hn20 := hpic.1
  refine lv_aload_n S.1 S.2.1 dX4_move_0 rfl (lv_at hl 0 rfl) ?_
  refine lv_iconst (v := 0) S.1 S.2.1 dX4_move_1 (by decide) ?_
  refine p_X4_M_thrown S hI hm dX4_move_2 (fun σ1 H locs ey1 hz1 hI => ?_)
  refine lv_aload_n S.1 S.2.1 dX4_move_5 rfl (lv_at hl 0 rfl) ?_
  refine lv_iload_n S.1 S.2.1 dX4_move_6 rfl (lv_at hl 1 rfl) ?_
  refine cl_i hI (rnV (As := [.int (nI i)]) (rest := []) S hI (c_isPromise l G _ hz1 (nI i)) (cw_X4_X4_isPromise S.2.2.2.2 ⟨Nat.le_of_ble_eq_true rfl, Nat.le_of_ble_eq_true rfl⟩) (rcM hI) rfl hl.1 (Nat.le_of_ble_eq_true rfl) dX4_move_7 ⟨Nat.le_of_ble_eq_true rfl, Nat.le_of_ble_eq_true rfl⟩) (fun r2 σ2 H locs hq2 hI => ?_)
  obtain ⟨hr2, hs2⟩ := hq2
  rw [hs2] at hI
  rw [hr2, inI_p hi hn20]
  refine lv_if_eq (tgt := 20) S.1 S.2.1 dX4_move_10 (by decide) (fun c9 => absurd c9 (by decide)) (fun _ => ?_)
  refine lv_iload_n S.1 S.2.1 dX4_move_13 rfl (lv_at hl 2 rfl) ?_
  refine cl_i hI (rnS (As := [.int (nI k)]) (rest := []) S hI (c_isShelf l G _ (nI k)) (cw_X4_X4_isShelf S.2.2.2.2 ⟨Nat.le_of_ble_eq_true rfl, Nat.le_of_ble_eq_true rfl⟩) rfl hl.1 (Nat.le_of_ble_eq_true rfl) dX4_move_14 ⟨Nat.le_of_ble_eq_true rfl, Nat.le_of_ble_eq_true rfl⟩) (fun r3 σ3 H locs hq3 hI => ?_)
  obtain ⟨hr3, hs3⟩ := hq3
  rw [hs3] at hI
  rw [hr3, inI_s hk]
  refine lv_if_ne (tgt := 26) S.1 S.2.1 dX4_move_17 (by decide) (fun _ => ?_) (fun c9 => absurd c9 (by decide))
  refine lv_aload_n S.1 S.2.1 dX4_move_26 rfl (lv_at hl 0 rfl) ?_
  refine g_X4_M_now S hI dX4_move_27 ?_
  refine lv_iload_n S.1 S.2.1 dX4_move_30 rfl (lv_at hl 1 rfl) ?_
  refine lv_iconst (v := 0) S.1 S.2.1 dX4_move_31 (by decide) ?_
  refine cl_i hI (rnS (As := [.int (nI i), .int 0]) (rest := [.ref (gB G 6)]) S hI (c_of l G _ i 0) (cw_X4_X4_of S.2.2.2.2 ⟨Nat.le_of_ble_eq_true rfl, Nat.le_of_ble_eq_true rfl⟩) rfl hl.1 (Nat.le_of_ble_eq_true rfl) dX4_move_32 ⟨Nat.le_of_ble_eq_true rfl, Nat.le_of_ble_eq_true rfl⟩) (fun r4 σ4 H locs hq4 hI => ?_)
  obtain ⟨hr4, hs4⟩ := hq4
  rw [hs4] at hI
  rw [hr4]
  refine a_nw S hI hz1 (j := (13 + 5 * i + 0)) (by omega) dX4_move_35 ?_
  rw [show (nw (13 + 5 * i + 0)) = (-1) from hpic.offA hi hs]
  refine lv_istore_n (lv' := [(3, .int (-1)), (0, .ref (gB G 3)), (1, .int (nI i)), (2, .int (nI k))]) S.1 S.2.1 dX4_move_36 rfl hl (by decide) rfl (fun ls hl => ?_)
  refine lv_iload_n S.1 S.2.1 dX4_move_37 rfl (lv_at hl 0 rfl) ?_
  refine lv_iconst (v := (-1)) S.1 S.2.1 dX4_move_38 (by decide) ?_
  refine lv_icmp_eq (tgt := 61) S.1 S.2.1 dX4_move_39 (by decide) (fun _ => ?_) (fun c9 => absurd c9 (by decide))
  refine lv_aload_n S.1 S.2.1 dX4_move_61 rfl (lv_at hl 1 rfl) ?_
  refine lv_iconst (v := 2) S.1 S.2.1 dX4_move_62 (by decide) ?_
  refine cl_i hI (rnV (As := [.int 2]) (rest := []) S hI (c_no l G _ hz1 2) (cw_X4_X4_no S.2.2.2.2 ⟨Nat.le_of_ble_eq_true rfl, Nat.le_of_ble_eq_true rfl⟩) (rcM hI) rfl hl.1 (Nat.le_of_ble_eq_true rfl) dX4_move_63 ⟨Nat.le_of_ble_eq_true rfl, Nat.le_of_ble_eq_true rfl⟩) (fun r5 σ5 H locs hq5 hI => ?_)
  obtain ⟨hr5, ez5⟩ := hq5
  rw [hr5]
  exact xt_i S hI hr hlk (⟨mk, lf, nw, kp, (by rw [ez5, ey1]; try rfl), hpic⟩) (by decide) (by decide) dX4_move_66
set_option maxRecDepth 100000 in
set_option maxHeartbeats 4000000 in
theorem m_move_b2s (l : Launch) (G : Gt) (σ : St) {α : St} {n : Nat} {th : Int32} {mk lf nw kp : Nat → Int32} (hm : gM σ = (th, nI n, mk, lf, nw, kp)) (hpic : Pic α n mk lf nw) {i k : Nat} (hi : i < n) (hk : k < 5) (hs : (gP α i).2.1 < 5) (hne : (gP α i).2.1 = k) : Ct l G yX4_move cX4_move 4 (some .int) 4 0 0 [.ref (gB G 3), .int (nI i), .int (nI k)] σ (Qi G (fun r σ' => Mq σ α 2 n σ')) := by
  refine mt_intro (by decide +kernel) (Nat.le_of_ble_eq_true rfl) ?_
  intro p e s m below meth c S hr hlk hnm hI ls hl
  have hl : lv_has ls 4 [(0, .ref (gB G 3)), (1, .int (nI i)), (2, .int (nI k))] := hl
  have hn20 := hpic.1
  have hz5 := hpic.lieA hi hs
  have hmz : gM σ = (th, nI n, mk, lf, putZ nw i ((nI (gP α i).2.1), (gP α i).2.2.2.2.2, (gP α i).2.2.2.2.1, (nI ((gP α i).1 - 1)), 0), kp) := by rw [← hz5, putZ_getZ]; exact hm
  refine lv_aload_n S.1 S.2.1 dX4_move_0 rfl (lv_at hl 0 rfl) ?_
  refine lv_iconst (v := 0) S.1 S.2.1 dX4_move_1 (by decide) ?_
  refine p_X4_M_thrown S hI hmz dX4_move_2 (fun σ1 H locs ey1 hz1 hI => ?_)
  refine lv_aload_n S.1 S.2.1 dX4_move_5 rfl (lv_at hl 0 rfl) ?_
  refine lv_iload_n S.1 S.2.1 dX4_move_6 rfl (lv_at hl 1 rfl) ?_
  refine cl_i hI (rnV (As := [.int (nI i)]) (rest := []) S hI (c_isPromise l G _ hz1 (nI i)) (cw_X4_X4_isPromise S.2.2.2.2 ⟨Nat.le_of_ble_eq_true rfl, Nat.le_of_ble_eq_true rfl⟩) (rcM hI) rfl hl.1 (Nat.le_of_ble_eq_true rfl) dX4_move_7 ⟨Nat.le_of_ble_eq_true rfl, Nat.le_of_ble_eq_true rfl⟩) (fun r2 σ2 H locs hq2 hI => ?_)
  obtain ⟨hr2, hs2⟩ := hq2
  rw [hs2] at hI
  rw [hr2, inI_p hi hn20]
  refine lv_if_eq (tgt := 20) S.1 S.2.1 dX4_move_10 (by decide) (fun c9 => absurd c9 (by decide)) (fun _ => ?_)
  refine lv_iload_n S.1 S.2.1 dX4_move_13 rfl (lv_at hl 2 rfl) ?_
  refine cl_i hI (rnS (As := [.int (nI k)]) (rest := []) S hI (c_isShelf l G _ (nI k)) (cw_X4_X4_isShelf S.2.2.2.2 ⟨Nat.le_of_ble_eq_true rfl, Nat.le_of_ble_eq_true rfl⟩) rfl hl.1 (Nat.le_of_ble_eq_true rfl) dX4_move_14 ⟨Nat.le_of_ble_eq_true rfl, Nat.le_of_ble_eq_true rfl⟩) (fun r3 σ3 H locs hq3 hI => ?_)
  obtain ⟨hr3, hs3⟩ := hq3
  rw [hs3] at hI
  rw [hr3, inI_s hk]
  refine lv_if_ne (tgt := 26) S.1 S.2.1 dX4_move_17 (by decide) (fun _ => ?_) (fun c9 => absurd c9 (by decide))
  refine lv_aload_n S.1 S.2.1 dX4_move_26 rfl (lv_at hl 0 rfl) ?_
  refine g_X4_M_now S hI dX4_move_27 ?_
  refine lv_iload_n S.1 S.2.1 dX4_move_30 rfl (lv_at hl 1 rfl) ?_
  refine lv_iconst (v := 0) S.1 S.2.1 dX4_move_31 (by decide) ?_
  refine cl_i hI (rnS (As := [.int (nI i), .int 0]) (rest := [.ref (gB G 6)]) S hI (c_of l G _ i 0) (cw_X4_X4_of S.2.2.2.2 ⟨Nat.le_of_ble_eq_true rfl, Nat.le_of_ble_eq_true rfl⟩) rfl hl.1 (Nat.le_of_ble_eq_true rfl) dX4_move_32 ⟨Nat.le_of_ble_eq_true rfl, Nat.le_of_ble_eq_true rfl⟩) (fun r4 σ4 H locs hq4 hI => ?_)
  obtain ⟨hr4, hs4⟩ := hq4
  rw [hs4] at hI
  rw [hr4]
  refine a_nw S hI hz1 (j := (13 + 5 * i + 0)) (by omega) dX4_move_35 ?_
  rw [putZ_0]
  refine lv_istore_n (lv' := [(3, .int (nI (gP α i).2.1)), (0, .ref (gB G 3)), (1, .int (nI i)), (2, .int (nI k))]) S.1 S.2.1 dX4_move_36 rfl hl (by decide) rfl (fun ls hl => ?_)
  refine lv_iload_n S.1 S.2.1 dX4_move_37 rfl (lv_at hl 0 rfl) ?_
  refine lv_iconst (v := (-1)) S.1 S.2.1 dX4_move_38 (by decide) ?_
  refine lv_icmp_eq (tgt := 61) S.1 S.2.1 dX4_move_39 (by decide) (fun c9 => absurd c9 (nI_m1 (by omega))) (fun cz_39 => ?_)
  refine lv_iload_n S.1 S.2.1 dX4_move_42 rfl (lv_at hl 0 rfl) ?_
  refine lv_iload_n S.1 S.2.1 dX4_move_43 rfl (lv_at hl 3 rfl) ?_
  refine lv_icmp_eq (tgt := 61) S.1 S.2.1 dX4_move_44 (by decide) (fun cz_44 => ?_) (fun c9 => absurd (show nI (gP α i).2.1 = nI k by rw [hne]) c9)
  refine lv_aload_n S.1 S.2.1 dX4_move_61 rfl (lv_at hl 1 rfl) ?_
  refine lv_iconst (v := 2) S.1 S.2.1 dX4_move_62 (by decide) ?_
  refine cl_i hI (rnV (As := [.int 2]) (rest := []) S hI (c_no l G _ hz1 2) (cw_X4_X4_no S.2.2.2.2 ⟨Nat.le_of_ble_eq_true rfl, Nat.le_of_ble_eq_true rfl⟩) (rcM hI) rfl hl.1 (Nat.le_of_ble_eq_true rfl) dX4_move_63 ⟨Nat.le_of_ble_eq_true rfl, Nat.le_of_ble_eq_true rfl⟩) (fun r5 σ5 H locs hq5 hI => ?_)
  obtain ⟨hr5, ez5⟩ := hq5
  rw [hr5]
  exact xt_i S hI hr hlk (⟨mk, lf, _, kp, (finM (by rw [ez5, ey1]; try rfl) (by rw [ez5]; rfl)), by rw [← hz5, putZ_getZ]; exact hpic⟩) (by decide) (by decide) dX4_move_66
set_option maxRecDepth 100000 in
set_option maxHeartbeats 4000000 in
theorem m_move_b2t (l : Launch) (G : Gt) (σ : St) {α : St} {n : Nat} {th : Int32} {mk lf nw kp : Nat → Int32} (hm : gM σ = (th, nI n, mk, lf, nw, kp)) (hpic : Pic α n mk lf nw) {i k : Nat} (hi : i < n) (hk : k < 5) (hs : (gP α i).2.1 < 5) (hne : ¬ (gP α i).2.1 = k) (hg3 : (gP α i).1 = 3) : Ct l G yX4_move cX4_move 4 (some .int) 4 0 0 [.ref (gB G 3), .int (nI i), .int (nI k)] σ (Qi G (fun r σ' => Mq σ α 2 n σ')) := by
  refine mt_intro (by decide +kernel) (Nat.le_of_ble_eq_true rfl) ?_
  intro p e s m below meth c S hr hlk hnm hI ls hl
  have hl : lv_has ls 4 [(0, .ref (gB G 3)), (1, .int (nI i)), (2, .int (nI k))] := hl
  have hn20 := hpic.1
  have hz5 := hpic.lieA hi hs
  have hmz : gM σ = (th, nI n, mk, lf, putZ nw i ((nI (gP α i).2.1), (gP α i).2.2.2.2.2, (gP α i).2.2.2.2.1, (nI ((gP α i).1 - 1)), 0), kp) := by rw [← hz5, putZ_getZ]; exact hm
  refine lv_aload_n S.1 S.2.1 dX4_move_0 rfl (lv_at hl 0 rfl) ?_
  refine lv_iconst (v := 0) S.1 S.2.1 dX4_move_1 (by decide) ?_
  refine p_X4_M_thrown S hI hmz dX4_move_2 (fun σ1 H locs ey1 hz1 hI => ?_)
  refine lv_aload_n S.1 S.2.1 dX4_move_5 rfl (lv_at hl 0 rfl) ?_
  refine lv_iload_n S.1 S.2.1 dX4_move_6 rfl (lv_at hl 1 rfl) ?_
  refine cl_i hI (rnV (As := [.int (nI i)]) (rest := []) S hI (c_isPromise l G _ hz1 (nI i)) (cw_X4_X4_isPromise S.2.2.2.2 ⟨Nat.le_of_ble_eq_true rfl, Nat.le_of_ble_eq_true rfl⟩) (rcM hI) rfl hl.1 (Nat.le_of_ble_eq_true rfl) dX4_move_7 ⟨Nat.le_of_ble_eq_true rfl, Nat.le_of_ble_eq_true rfl⟩) (fun r2 σ2 H locs hq2 hI => ?_)
  obtain ⟨hr2, hs2⟩ := hq2
  rw [hs2] at hI
  rw [hr2, inI_p hi hn20]
  refine lv_if_eq (tgt := 20) S.1 S.2.1 dX4_move_10 (by decide) (fun c9 => absurd c9 (by decide)) (fun _ => ?_)
  refine lv_iload_n S.1 S.2.1 dX4_move_13 rfl (lv_at hl 2 rfl) ?_
  refine cl_i hI (rnS (As := [.int (nI k)]) (rest := []) S hI (c_isShelf l G _ (nI k)) (cw_X4_X4_isShelf S.2.2.2.2 ⟨Nat.le_of_ble_eq_true rfl, Nat.le_of_ble_eq_true rfl⟩) rfl hl.1 (Nat.le_of_ble_eq_true rfl) dX4_move_14 ⟨Nat.le_of_ble_eq_true rfl, Nat.le_of_ble_eq_true rfl⟩) (fun r3 σ3 H locs hq3 hI => ?_)
  obtain ⟨hr3, hs3⟩ := hq3
  rw [hs3] at hI
  rw [hr3, inI_s hk]
  refine lv_if_ne (tgt := 26) S.1 S.2.1 dX4_move_17 (by decide) (fun _ => ?_) (fun c9 => absurd c9 (by decide))
  refine lv_aload_n S.1 S.2.1 dX4_move_26 rfl (lv_at hl 0 rfl) ?_
  refine g_X4_M_now S hI dX4_move_27 ?_
  refine lv_iload_n S.1 S.2.1 dX4_move_30 rfl (lv_at hl 1 rfl) ?_
  refine lv_iconst (v := 0) S.1 S.2.1 dX4_move_31 (by decide) ?_
  refine cl_i hI (rnS (As := [.int (nI i), .int 0]) (rest := [.ref (gB G 6)]) S hI (c_of l G _ i 0) (cw_X4_X4_of S.2.2.2.2 ⟨Nat.le_of_ble_eq_true rfl, Nat.le_of_ble_eq_true rfl⟩) rfl hl.1 (Nat.le_of_ble_eq_true rfl) dX4_move_32 ⟨Nat.le_of_ble_eq_true rfl, Nat.le_of_ble_eq_true rfl⟩) (fun r4 σ4 H locs hq4 hI => ?_)
  obtain ⟨hr4, hs4⟩ := hq4
  rw [hs4] at hI
  rw [hr4]
  refine a_nw S hI hz1 (j := (13 + 5 * i + 0)) (by omega) dX4_move_35 ?_
  rw [putZ_0]
  refine lv_istore_n (lv' := [(3, .int (nI (gP α i).2.1)), (0, .ref (gB G 3)), (1, .int (nI i)), (2, .int (nI k))]) S.1 S.2.1 dX4_move_36 rfl hl (by decide) rfl (fun ls hl => ?_)
  refine lv_iload_n S.1 S.2.1 dX4_move_37 rfl (lv_at hl 0 rfl) ?_
  refine lv_iconst (v := (-1)) S.1 S.2.1 dX4_move_38 (by decide) ?_
  refine lv_icmp_eq (tgt := 61) S.1 S.2.1 dX4_move_39 (by decide) (fun c9 => absurd c9 (nI_m1 (by omega))) (fun cz_39 => ?_)
  refine lv_iload_n S.1 S.2.1 dX4_move_42 rfl (lv_at hl 0 rfl) ?_
  refine lv_iload_n S.1 S.2.1 dX4_move_43 rfl (lv_at hl 3 rfl) ?_
  refine lv_icmp_eq (tgt := 61) S.1 S.2.1 dX4_move_44 (by decide) (fun c9 => absurd c9 (fun z9 => hne ((nI_eq (by omega) (by omega)).mp z9))) (fun cz_44 => ?_)
  refine lv_aload_n S.1 S.2.1 dX4_move_47 rfl (lv_at hl 1 rfl) ?_
  refine g_X4_M_now S hI dX4_move_48 ?_
  refine lv_iload_n S.1 S.2.1 dX4_move_51 rfl (lv_at hl 2 rfl) ?_
  refine lv_iconst (v := 3) S.1 S.2.1 dX4_move_52 (by decide) ?_
  refine cl_i hI (rnS (As := [.int (nI i), .int 3]) (rest := [.ref (gB G 6)]) S hI (c_of l G _ i 3) (cw_X4_X4_of S.2.2.2.2 ⟨Nat.le_of_ble_eq_true rfl, Nat.le_of_ble_eq_true rfl⟩) rfl hl.1 (Nat.le_of_ble_eq_true rfl) dX4_move_53 ⟨Nat.le_of_ble_eq_true rfl, Nat.le_of_ble_eq_true rfl⟩) (fun r5 σ5 H locs hq5 hI => ?_)
  obtain ⟨hr5, hs5⟩ := hq5
  rw [hs5] at hI
  rw [hr5]
  refine a_nw S hI hz1 (j := (13 + 5 * i + 3)) (by omega) dX4_move_56 ?_
  rw [putZ_3]
  refine lv_iconst (v := 2) S.1 S.2.1 dX4_move_57 (by decide) ?_
  refine lv_icmp_ne (tgt := 67) S.1 S.2.1 dX4_move_58 (by decide) (fun c9 => absurd (show nI ((gP α i).1 - 1) = 2 by rw [hg3]; rfl) c9) (fun cz_58 => ?_)
  refine lv_aload_n S.1 S.2.1 dX4_move_61 rfl (lv_at hl 1 rfl) ?_
  refine lv_iconst (v := 2) S.1 S.2.1 dX4_move_62 (by decide) ?_
  refine cl_i hI (rnV (As := [.int 2]) (rest := []) S hI (c_no l G _ hz1 2) (cw_X4_X4_no S.2.2.2.2 ⟨Nat.le_of_ble_eq_true rfl, Nat.le_of_ble_eq_true rfl⟩) (rcM hI) rfl hl.1 (Nat.le_of_ble_eq_true rfl) dX4_move_63 ⟨Nat.le_of_ble_eq_true rfl, Nat.le_of_ble_eq_true rfl⟩) (fun r6 σ6 H locs hq6 hI => ?_)
  obtain ⟨hr6, ez6⟩ := hq6
  rw [hr6]
  exact xt_i S hI hr hlk (⟨mk, lf, _, kp, (finM (by rw [ez6, ey1]; try rfl) (by rw [ez6]; rfl)), by rw [← hz5, putZ_getZ]; exact hpic⟩) (by decide) (by decide) dX4_move_66
set_option maxRecDepth 100000 in
set_option maxHeartbeats 4000000 in
theorem m_keep_b1 (l : Launch) (G : Gt) (σ : St) {α : St} {n : Nat} {th : Int32} {mk lf nw kp : Nat → Int32} (hm : gM σ = (th, nI n, mk, lf, nw, kp)) (hpic : Pic α n mk lf nw) (v : Int32) (hb : v < 0 ∨ nI n ≤ v) : Ct l G yX4_keep cX4_keep 2 (some .int) 4 0 0 [.ref (gB G 3), .int v] σ (Qi G (fun r σ' => Mq σ α 1 n σ')) := by
  refine mt_intro (by decide +kernel) (Nat.le_of_ble_eq_true rfl) ?_
  intro p e s m below meth c S hr hlk hnm hI ls hl
  have hl : lv_has ls 2 [(0, .ref (gB G 3)), (1, .int v)] := hl
  have hn20 := hpic.1
  refine lv_aload_n S.1 S.2.1 dX4_keep_0 rfl (lv_at hl 0 rfl) ?_
  refine lv_iconst (v := 0) S.1 S.2.1 dX4_keep_1 (by decide) ?_
  refine p_X4_M_thrown S hI hm dX4_keep_2 (fun σ1 H locs ey1 hz1 hI => ?_)
  refine lv_aload_n S.1 S.2.1 dX4_keep_5 rfl (lv_at hl 0 rfl) ?_
  refine lv_iload_n S.1 S.2.1 dX4_keep_6 rfl (lv_at hl 1 rfl) ?_
  refine cl_i hI (rnV (As := [.int v]) (rest := []) S hI (c_isPromise l G _ hz1 v) (cw_X4_X4_isPromise S.2.2.2.2 ⟨Nat.le_of_ble_eq_true rfl, Nat.le_of_ble_eq_true rfl⟩) (rcM hI) rfl hl.1 (Nat.le_of_ble_eq_true rfl) dX4_keep_7 ⟨Nat.le_of_ble_eq_true rfl, Nat.le_of_ble_eq_true rfl⟩) (fun r2 σ2 H locs hq2 hI => ?_)
  obtain ⟨hr2, hs2⟩ := hq2
  rw [hs2] at hI
  rw [hr2, inI_np hn20 hb]
  refine lv_if_ne (tgt := 19) S.1 S.2.1 dX4_keep_10 (by decide) (fun c9 => absurd c9 (by decide)) (fun _ => ?_)
  refine lv_aload_n S.1 S.2.1 dX4_keep_13 rfl (lv_at hl 0 rfl) ?_
  refine lv_iconst (v := 1) S.1 S.2.1 dX4_keep_14 (by decide) ?_
  refine cl_i hI (rnV (As := [.int 1]) (rest := []) S hI (c_no l G _ hz1 1) (cw_X4_X4_no S.2.2.2.2 ⟨Nat.le_of_ble_eq_true rfl, Nat.le_of_ble_eq_true rfl⟩) (rcM hI) rfl hl.1 (Nat.le_of_ble_eq_true rfl) dX4_keep_15 ⟨Nat.le_of_ble_eq_true rfl, Nat.le_of_ble_eq_true rfl⟩) (fun r3 σ3 H locs hq3 hI => ?_)
  obtain ⟨hr3, ez3⟩ := hq3
  rw [hr3]
  exact xt_i S hI hr hlk (⟨mk, lf, nw, kp, (by rw [ez3, ey1]; try rfl), hpic⟩) (by decide) (by decide) dX4_keep_18
set_option maxRecDepth 100000 in
set_option maxHeartbeats 4000000 in
theorem m_keep_b2 (l : Launch) (G : Gt) (σ : St) {α : St} {n : Nat} {th : Int32} {mk lf nw kp : Nat → Int32} (hm : gM σ = (th, nI n, mk, lf, nw, kp)) (hpic : Pic α n mk lf nw) {i : Nat} (hi : i < n) (hs : ¬ (gP α i).2.1 < 5) : Ct l G yX4_keep cX4_keep 2 (some .int) 4 0 0 [.ref (gB G 3), .int (nI i)] σ (Qi G (fun r σ' => Mq σ α 2 n σ')) := by
  refine mt_intro (by decide +kernel) (Nat.le_of_ble_eq_true rfl) ?_
  intro p e s m below meth c S hr hlk hnm hI ls hl
  have hl : lv_has ls 2 [(0, .ref (gB G 3)), (1, .int (nI i))] := hl
  have hn20 := hpic.1
  refine lv_aload_n S.1 S.2.1 dX4_keep_0 rfl (lv_at hl 0 rfl) ?_
  refine lv_iconst (v := 0) S.1 S.2.1 dX4_keep_1 (by decide) ?_
  refine p_X4_M_thrown S hI hm dX4_keep_2 (fun σ1 H locs ey1 hz1 hI => ?_)
  refine lv_aload_n S.1 S.2.1 dX4_keep_5 rfl (lv_at hl 0 rfl) ?_
  refine lv_iload_n S.1 S.2.1 dX4_keep_6 rfl (lv_at hl 1 rfl) ?_
  refine cl_i hI (rnV (As := [.int (nI i)]) (rest := []) S hI (c_isPromise l G _ hz1 (nI i)) (cw_X4_X4_isPromise S.2.2.2.2 ⟨Nat.le_of_ble_eq_true rfl, Nat.le_of_ble_eq_true rfl⟩) (rcM hI) rfl hl.1 (Nat.le_of_ble_eq_true rfl) dX4_keep_7 ⟨Nat.le_of_ble_eq_true rfl, Nat.le_of_ble_eq_true rfl⟩) (fun r2 σ2 H locs hq2 hI => ?_)
  obtain ⟨hr2, hs2⟩ := hq2
  rw [hs2] at hI
  rw [hr2, inI_p hi hn20]
  refine lv_if_ne (tgt := 19) S.1 S.2.1 dX4_keep_10 (by decide) (fun _ => ?_) (fun c9 => absurd c9 (by decide))
  refine lv_aload_n S.1 S.2.1 dX4_keep_19 rfl (lv_at hl 0 rfl) ?_
  refine lv_iload_n S.1 S.2.1 dX4_keep_20 rfl (lv_at hl 1 rfl) ?_
  refine cl_i hI (rnV (As := [.int (nI i)]) (rest := []) S hI (c_lies l G _ (pq := i) hz1 (by omega)) (cw_X4_X4_lies S.2.2.2.2 ⟨Nat.le_of_ble_eq_true rfl, Nat.le_of_ble_eq_true rfl⟩) (rcM hI) rfl hl.1 (Nat.le_of_ble_eq_true rfl) dX4_keep_21 ⟨Nat.le_of_ble_eq_true rfl, Nat.le_of_ble_eq_true rfl⟩) (fun r3 σ3 H locs hq3 hI => ?_)
  obtain ⟨hr3, hs3⟩ := hq3
  rw [hs3] at hI
  rw [hr3, if_pos (hpic.offA hi hs)]
  refine lv_if_ne (tgt := 33) S.1 S.2.1 dX4_keep_24 (by decide) (fun c9 => absurd c9 (by decide)) (fun _ => ?_)
  refine lv_aload_n S.1 S.2.1 dX4_keep_27 rfl (lv_at hl 0 rfl) ?_
  refine lv_iconst (v := 2) S.1 S.2.1 dX4_keep_28 (by decide) ?_
  refine cl_i hI (rnV (As := [.int 2]) (rest := []) S hI (c_no l G _ hz1 2) (cw_X4_X4_no S.2.2.2.2 ⟨Nat.le_of_ble_eq_true rfl, Nat.le_of_ble_eq_true rfl⟩) (rcM hI) rfl hl.1 (Nat.le_of_ble_eq_true rfl) dX4_keep_29 ⟨Nat.le_of_ble_eq_true rfl, Nat.le_of_ble_eq_true rfl⟩) (fun r4 σ4 H locs hq4 hI => ?_)
  obtain ⟨hr4, ez4⟩ := hq4
  rw [hr4]
  exact xt_i S hI hr hlk (⟨mk, lf, nw, kp, (by rw [ez4, ey1]; try rfl), hpic⟩) (by decide) (by decide) dX4_keep_32
set_option maxRecDepth 100000 in
set_option maxHeartbeats 4000000 in
theorem m_keep (l : Launch) (G : Gt) (σ : St) {α : St} {n : Nat} {th : Int32} {mk lf nw kp : Nat → Int32} (hm : gM σ = (th, nI n, mk, lf, nw, kp)) (hpic : Pic α n mk lf nw) {i : Nat} (hi : i < n) (hs : (gP α i).2.1 < 5) : Ct l G yX4_keep cX4_keep 2 (some .int) 4 0 0 [.ref (gB G 3), .int (nI i)] σ (Qi G (fun r σ' => r = (gP α i).2.2.2.1 - (gP α i).2.2.2.2.1 ∧ Mq σ (keptS α i) 0 n σ')) := by
  refine mt_intro (by decide +kernel) (Nat.le_of_ble_eq_true rfl) ?_
  intro p e s m below meth c S hr hlk hnm hI ls hl
  have hl : lv_has ls 2 [(0, .ref (gB G 3)), (1, .int (nI i))] := hl
  have hn20 := hpic.1
  have hz5 := hpic.lieA hi hs
  have hl9 : nw (13 + 5 * i + 0) = nI (gP α i).2.1 := congrArg Prod.fst hz5
  obtain ⟨nwa, hnwa⟩ : ∃ nwa, nwa = va_up nw (3 + 2 * (gP α i).2.1 + 1) (openH (nw (3 + 2 * (gP α i).2.1 + 1))) := ⟨_, rfl⟩
  have hpa : Pic (setS α (gP α i).2.1 ((gS α (gP α i).2.1).1, openH (gS α (gP α i).2.1).2)) n mk lf nwa := by rw [hnwa]; exact hpic.openS hs
  have hza : getZ nwa i = ((nI (gP α i).2.1), (gP α i).2.2.2.2.2, (gP α i).2.2.2.2.1, (nI ((gP α i).1 - 1)), 0) := by rw [hnwa, getZ_up _ _ (by omega)]; exact hz5
  have hpk9 := hpa.kept hi (nI ((gP α i).1 - 1))
  refine lv_aload_n S.1 S.2.1 dX4_keep_0 rfl (lv_at hl 0 rfl) ?_
  refine lv_iconst (v := 0) S.1 S.2.1 dX4_keep_1 (by decide) ?_
  refine p_X4_M_thrown S hI hm dX4_keep_2 (fun σ1 H locs ey1 hz1 hI => ?_)
  refine lv_aload_n S.1 S.2.1 dX4_keep_5 rfl (lv_at hl 0 rfl) ?_
  refine lv_iload_n S.1 S.2.1 dX4_keep_6 rfl (lv_at hl 1 rfl) ?_
  refine cl_i hI (rnV (As := [.int (nI i)]) (rest := []) S hI (c_isPromise l G _ hz1 (nI i)) (cw_X4_X4_isPromise S.2.2.2.2 ⟨Nat.le_of_ble_eq_true rfl, Nat.le_of_ble_eq_true rfl⟩) (rcM hI) rfl hl.1 (Nat.le_of_ble_eq_true rfl) dX4_keep_7 ⟨Nat.le_of_ble_eq_true rfl, Nat.le_of_ble_eq_true rfl⟩) (fun r2 σ2 H locs hq2 hI => ?_)
  obtain ⟨hr2, hs2⟩ := hq2
  rw [hs2] at hI
  rw [hr2, inI_p hi hn20]
  refine lv_if_ne (tgt := 19) S.1 S.2.1 dX4_keep_10 (by decide) (fun _ => ?_) (fun c9 => absurd c9 (by decide))
  refine lv_aload_n S.1 S.2.1 dX4_keep_19 rfl (lv_at hl 0 rfl) ?_
  refine lv_iload_n S.1 S.2.1 dX4_keep_20 rfl (lv_at hl 1 rfl) ?_
  refine cl_i hI (rnV (As := [.int (nI i)]) (rest := []) S hI (c_lies l G _ (pq := i) hz1 (by omega)) (cw_X4_X4_lies S.2.2.2.2 ⟨Nat.le_of_ble_eq_true rfl, Nat.le_of_ble_eq_true rfl⟩) (rcM hI) rfl hl.1 (Nat.le_of_ble_eq_true rfl) dX4_keep_21 ⟨Nat.le_of_ble_eq_true rfl, Nat.le_of_ble_eq_true rfl⟩) (fun r3 σ3 H locs hq3 hI => ?_)
  obtain ⟨hr3, hs3⟩ := hq3
  rw [hs3] at hI
  rw [hr3, if_neg (by rw [hl9]; exact nI_m1 (by omega))]
  refine lv_if_ne (tgt := 33) S.1 S.2.1 dX4_keep_24 (by decide) (fun _ => ?_) (fun c9 => absurd c9 (by decide))
  refine lv_aload_n S.1 S.2.1 dX4_keep_33 rfl (lv_at hl 0 rfl) ?_
  refine lv_aload_n S.1 S.2.1 dX4_keep_34 rfl (lv_at hl 0 rfl) ?_
  refine g_X4_M_now S hI dX4_keep_35 ?_
  refine lv_iload_n S.1 S.2.1 dX4_keep_38 rfl (lv_at hl 1 rfl) ?_
  refine lv_iconst (v := 0) S.1 S.2.1 dX4_keep_39 (by decide) ?_
  refine cl_i hI (rnS (As := [.int (nI i), .int 0]) (rest := [.ref (gB G 6), .ref (gB G 3)]) S hI (c_of l G _ i 0) (cw_X4_X4_of S.2.2.2.2 ⟨Nat.le_of_ble_eq_true rfl, Nat.le_of_ble_eq_true rfl⟩) rfl hl.1 (Nat.le_of_ble_eq_true rfl) dX4_keep_40 ⟨Nat.le_of_ble_eq_true rfl, Nat.le_of_ble_eq_true rfl⟩) (fun r4 σ4 H locs hq4 hI => ?_)
  obtain ⟨hr4, hs4⟩ := hq4
  rw [hs4] at hI
  rw [hr4]
  refine a_nw S hI hz1 (j := (13 + 5 * i + 0)) (by omega) dX4_keep_43 ?_
  rw [show (nw (13 + 5 * i + 0)) = (nI (gP α i).2.1) from hl9]
  refine cl_v hI (rnV (As := [.int (nI (gP α i).2.1)]) (rest := []) S hI (c_open l G _ hz1 (k := (gP α i).2.1) hs) (cw_X4_X4_open S.2.2.2.2 ⟨Nat.le_of_ble_eq_true rfl, Nat.le_of_ble_eq_true rfl⟩) (rcM hI) rfl hl.1 (Nat.le_of_ble_eq_true rfl) dX4_keep_44 ⟨Nat.le_of_ble_eq_true rfl, Nat.le_of_ble_eq_true rfl⟩) (fun σ5 H locs hq5 hI => ?_)
  have ez5 := hq5
  have hM5 : gM σ5 = (0, nI n, mk, lf, putZ nwa i ((nI (gP α i).2.1), (gP α i).2.2.2.2.2, (gP α i).2.2.2.2.1, (nI ((gP α i).1 - 1)), 0), kp) := by rw [← hza, putZ_getZ, hnwa, ez5]; rfl
  refine lv_aload_n S.1 S.2.1 dX4_keep_47 rfl (lv_at hl 0 rfl) ?_
  refine g_X4_M_now S hI dX4_keep_48 ?_
  refine lv_iload_n S.1 S.2.1 dX4_keep_51 rfl (lv_at hl 1 rfl) ?_
  refine lv_iconst (v := 0) S.1 S.2.1 dX4_keep_52 (by decide) ?_
  refine cl_i hI (rnS (As := [.int (nI i), .int 0]) (rest := [.ref (gB G 6)]) S hI (c_of l G _ i 0) (cw_X4_X4_of S.2.2.2.2 ⟨Nat.le_of_ble_eq_true rfl, Nat.le_of_ble_eq_true rfl⟩) rfl hl.1 (Nat.le_of_ble_eq_true rfl) dX4_keep_53 ⟨Nat.le_of_ble_eq_true rfl, Nat.le_of_ble_eq_true rfl⟩) (fun r6 σ6 H locs hq6 hI => ?_)
  obtain ⟨hr6, hs6⟩ := hq6
  rw [hs6] at hI
  rw [hr6]
  refine lv_iconst (v := (-1)) S.1 S.2.1 dX4_keep_56 (by decide) ?_
  refine s_nw S hI hM5 (j := (13 + 5 * i + 0)) (by omega) dX4_keep_57 (fun σ7 H locs ey7 hz7 hI => ?_)
  rw [upZ_0] at hz7
  refine lv_aload_n S.1 S.2.1 dX4_keep_58 rfl (lv_at hl 0 rfl) ?_
  refine g_X4_M_now S hI dX4_keep_59 ?_
  refine lv_iload_n S.1 S.2.1 dX4_keep_62 rfl (lv_at hl 1 rfl) ?_
  refine lv_iconst (v := 4) S.1 S.2.1 dX4_keep_63 (by decide) ?_
  refine cl_i hI (rnS (As := [.int (nI i), .int 4]) (rest := [.ref (gB G 6)]) S hI (c_of l G _ i 4) (cw_X4_X4_of S.2.2.2.2 ⟨Nat.le_of_ble_eq_true rfl, Nat.le_of_ble_eq_true rfl⟩) rfl hl.1 (Nat.le_of_ble_eq_true rfl) dX4_keep_64 ⟨Nat.le_of_ble_eq_true rfl, Nat.le_of_ble_eq_true rfl⟩) (fun r8 σ8 H locs hq8 hI => ?_)
  obtain ⟨hr8, hs8⟩ := hq8
  rw [hs8] at hI
  rw [hr8]
  refine lv_iconst (v := 1) S.1 S.2.1 dX4_keep_67 (by decide) ?_
  refine s_nw S hI hz7 (j := (13 + 5 * i + 4)) (by omega) dX4_keep_68 (fun σ9 H locs ey9 hz9 hI => ?_)
  rw [upZ_4] at hz9
  refine lv_aload_n S.1 S.2.1 dX4_keep_69 rfl (lv_at hl 0 rfl) ?_
  refine lv_iload_n S.1 S.2.1 dX4_keep_70 rfl (lv_at hl 1 rfl) ?_
  refine cl_i hI (rnV (As := [.int (nI i)]) (rest := []) S hI (c_left l G _ hz9 hpk9 (q := i) hi) (cw_X4_X4_left S.2.2.2.2 ⟨Nat.le_of_ble_eq_true rfl, Nat.le_of_ble_eq_true rfl⟩) (rcM hI) rfl hl.1 (Nat.le_of_ble_eq_true rfl) dX4_keep_71 ⟨Nat.le_of_ble_eq_true rfl, Nat.le_of_ble_eq_true rfl⟩) (fun r10 σ10 H locs hq10 hI => ?_)
  obtain ⟨hr10, hs10⟩ := hq10
  rw [hs10] at hI
  rw [hr10, gP_setP]
  exact xt_i S hI hr hlk (⟨rfl, mk, lf, _, kp, (finM (by rw [ey9, ey7, ez5, ey1]; try rfl) hz9), hpk9⟩) (by decide) (by decide) dX4_keep_74
set_option maxRecDepth 100000 in
set_option maxHeartbeats 4000000 in
theorem m_leftIn_b (l : Launch) (G : Gt) (σ : St) {α : St} {n : Nat} {th : Int32} {mk lf nw kp : Nat → Int32} (hm : gM σ = (th, nI n, mk, lf, nw, kp)) (hpic : Pic α n mk lf nw) (v : Int32) (hb : v < 1 ∨ 100 < v) : Ct l G yX4_leftIn cX4_leftIn 4 (some .int) 6 0 0 [.ref (gB G 3), .int v] σ (Qi G (fun r σ' => Mq σ α 1 n σ')) := by
  refine mt_intro (by decide +kernel) (Nat.le_of_ble_eq_true rfl) ?_
  intro p e s m below meth c S hr hlk hnm hI ls hl
  have hl : lv_has ls 4 [(0, .ref (gB G 3)), (1, .int v)] := hl
  have hn20 := hpic.1
  refine lv_aload_n S.1 S.2.1 dX4_leftIn_0 rfl (lv_at hl 0 rfl) ?_
  refine lv_iconst (v := 0) S.1 S.2.1 dX4_leftIn_1 (by decide) ?_
  refine p_X4_M_thrown S hI hm dX4_leftIn_2 (fun σ1 H locs ey1 hz1 hI => ?_)
  refine lv_iload_n S.1 S.2.1 dX4_leftIn_5 rfl (lv_at hl 1 rfl) ?_
  refine lv_iconst (v := 1) S.1 S.2.1 dX4_leftIn_6 (by decide) ?_
  refine lv_bipush (v := 100) S.1 S.2.1 dX4_leftIn_7 (by decide) ?_
  refine cl_i hI (rnS (As := [.int v, .int 1, .int 100]) (rest := []) S hI (c_isIn l G _ v 1 100) (cw_X4_X4_isIn S.2.2.2.2 ⟨Nat.le_of_ble_eq_true rfl, Nat.le_of_ble_eq_true rfl⟩) rfl hl.1 (Nat.le_of_ble_eq_true rfl) dX4_leftIn_9 ⟨Nat.le_of_ble_eq_true rfl, Nat.le_of_ble_eq_true rfl⟩) (fun r2 σ2 H locs hq2 hI => ?_)
  obtain ⟨hr2, hs2⟩ := hq2
  rw [hs2] at hI
  rw [hr2, inI_no hb]
  refine lv_if_ne (tgt := 21) S.1 S.2.1 dX4_leftIn_12 (by decide) (fun c9 => absurd c9 (by decide)) (fun _ => ?_)
  refine lv_aload_n S.1 S.2.1 dX4_leftIn_15 rfl (lv_at hl 0 rfl) ?_
  refine lv_iconst (v := 1) S.1 S.2.1 dX4_leftIn_16 (by decide) ?_
  refine cl_i hI (rnV (As := [.int 1]) (rest := []) S hI (c_no l G _ hz1 1) (cw_X4_X4_no S.2.2.2.2 ⟨Nat.le_of_ble_eq_true rfl, Nat.le_of_ble_eq_true rfl⟩) (rcM hI) rfl hl.1 (Nat.le_of_ble_eq_true rfl) dX4_leftIn_17 ⟨Nat.le_of_ble_eq_true rfl, Nat.le_of_ble_eq_true rfl⟩) (fun r3 σ3 H locs hq3 hI => ?_)
  obtain ⟨hr3, ez3⟩ := hq3
  rw [hr3]
  exact xt_i S hI hr hlk (⟨mk, lf, nw, kp, (by rw [ez3, ey1]; try rfl), hpic⟩) (by decide) (by decide) dX4_leftIn_20
set_option maxRecDepth 100000 in
set_option maxHeartbeats 4000000 in
theorem m_leftIn (l : Launch) (G : Gt) (σ : St) {α : St} {n : Nat} {th : Int32} {mk lf nw kp : Nat → Int32} (hm : gM σ = (th, nI n, mk, lf, nw, kp)) (hpic : Pic α n mk lf nw) {h : Nat} (h1 : 1 ≤ h) (hh100 : h ≤ 100) : Ct l G yX4_leftIn cX4_leftIn 4 (some .int) 6 0 0 [.ref (gB G 3), .int (nI h)] σ (Qi G (fun r σ' => r = sumN (leftF α h) 20 ∧ Mq σ α 0 n σ')) := by
  refine mt_intro (by decide +kernel) (Nat.le_of_ble_eq_true rfl) ?_
  intro p e s m below meth c S hr hlk hnm hI ls hl
  have hl : lv_has ls 4 [(0, .ref (gB G 3)), (1, .int (nI h))] := hl
  have hn20 := hpic.1
  have loop : ∀ (n1 : Nat) (k : Nat) (nwy : Nat → Int32), k + n1 = n → Pic (hourXs h α) n mk lf nwy → ∀ (H : Heap) (locs : List Loc), Iv G (setM σ (0, nI n, mk, lf, nwy, cpyA nw kp)) s H locs → ∀ ls : Array Slot, lv_has ls 4 [(0, .ref (gB G 3)), (2, .int (sumN (leftQ α h) k)), (3, .int (nI k))] → W p l e (rm 6 0 0) s m ([.ref (gB G 3), .int (nI h)] : List Value).toArray below meth c H locs 0 0 (MQ below (Qi G (fun r σ' => r = sumN (leftF α h) 20 ∧ Mq σ α 0 n σ')) ([.ref (gB G 3), .int (nI h)] : List Value).toArray s 0 0 (gA G)) (F0 m 35 ls []) := by
    intro n1
    induction n1 with
    | zero =>
      intro k nwy hk0 hpk H locs hI ls hl
      obtain rfl : k = n := by omega
      refine lv_iload_n S.1 S.2.1 dX4_leftIn_35 rfl (lv_at hl 2 rfl) ?_
      refine lv_aload_n S.1 S.2.1 dX4_leftIn_36 rfl (lv_at hl 0 rfl) ?_
      refine g_X4_M_promises S hI (show gM (setM σ (0, nI k, mk, lf, nwy, cpyA nw kp)) = (0, nI k, mk, lf, nwy, cpyA nw kp) from rfl) dX4_leftIn_37 ?_
      refine lv_icmp_ge (tgt := 65) S.1 S.2.1 dX4_leftIn_40 (by decide) (fun cz_40 => ?_) (fun c9 => absurd (nI_le (Nat.le_refl k) (by omega)) c9)
      refine lv_aload_n S.1 S.2.1 dX4_leftIn_65 rfl (lv_at hl 0 rfl) ?_
      refine cl_v hI (rnV (As := []) (rest := []) S hI (c_bringBack l G _ (show gM (setM σ (0, nI k, mk, lf, nwy, cpyA nw kp)) = (0, nI k, mk, lf, nwy, cpyA nw kp) from rfl)) (cw_X4_X4_bringBack S.2.2.2.2 ⟨Nat.le_of_ble_eq_true rfl, Nat.le_of_ble_eq_true rfl⟩) (rcM hI) rfl hl.1 (Nat.le_of_ble_eq_true rfl) dX4_leftIn_66 ⟨Nat.le_of_ble_eq_true rfl, Nat.le_of_ble_eq_true rfl⟩) (fun σ1 H locs hq1 hI => ?_)
      have ez1 := hq1
      refine lv_iload_n S.1 S.2.1 dX4_leftIn_69 rfl (lv_at hl 1 rfl) ?_
      exact xt_i S hI hr hlk (⟨(hpic.leftS h).symm, mk, lf, _, _, ez1, hpic.back (fun _ _ => rfl) (fun _ _ => rfl)⟩) (by decide) (by decide) dX4_leftIn_70
    | succ n1 ih =>
      intro k nwy hk0 hpk H locs hI ls hl
      have hk2 : k < n := by omega
      refine lv_iload_n S.1 S.2.1 dX4_leftIn_35 rfl (lv_at hl 2 rfl) ?_
      refine lv_aload_n S.1 S.2.1 dX4_leftIn_36 rfl (lv_at hl 0 rfl) ?_
      refine g_X4_M_promises S hI (show gM (setM σ (0, nI n, mk, lf, nwy, cpyA nw kp)) = (0, nI n, mk, lf, nwy, cpyA nw kp) from rfl) dX4_leftIn_37 ?_
      refine lv_icmp_ge (tgt := 65) S.1 S.2.1 dX4_leftIn_40 (by decide) (fun c9 => absurd c9 (nI_ge hk2 (by omega))) (fun cz_40 => ?_)
      refine lv_iload_n S.1 S.2.1 dX4_leftIn_43 rfl (lv_at hl 1 rfl) ?_
      refine lv_aload_n S.1 S.2.1 dX4_leftIn_44 rfl (lv_at hl 0 rfl) ?_
      refine lv_iload_n S.1 S.2.1 dX4_leftIn_45 rfl (lv_at hl 2 rfl) ?_
      refine cl_i hI (rnV (As := [.int (nI k)]) (rest := [.int (sumN (leftQ α h) k)]) S hI (c_lies l G _ (pq := k) (show gM (setM σ (0, nI n, mk, lf, nwy, cpyA nw kp)) = (0, nI n, mk, lf, nwy, cpyA nw kp) from rfl) (by omega)) (cw_X4_X4_lies S.2.2.2.2 ⟨Nat.le_of_ble_eq_true rfl, Nat.le_of_ble_eq_true rfl⟩) (rcM hI) rfl hl.1 (Nat.le_of_ble_eq_true rfl) dX4_leftIn_46 ⟨Nat.le_of_ble_eq_true rfl, Nat.le_of_ble_eq_true rfl⟩) (fun r1 σ1 H locs hq1 hI => ?_)
      obtain ⟨hr1, hs1⟩ := hq1
      rw [hs1] at hI
      have hr1 : r1 = leftQ α h k := hr1.trans (hpk.lieI hk2)
      rw [hr1]
      refine lv_if_eq (tgt := 56) S.1 S.2.1 dX4_leftIn_49 (by decide) (fun cz_49 => ?_) (fun cz_49 => ?_)
      · refine lv_iconst (v := 0) S.1 S.2.1 dX4_leftIn_56 (by decide) ?_
        refine lv_iadd S.1 S.2.1 dX4_leftIn_57 ?_
        refine lv_istore_n (lv' := [(2, .int ((sumN (leftQ α h) k) + 0)), (0, .ref (gB G 3)), (3, .int (nI k))]) S.1 S.2.1 dX4_leftIn_58 rfl hl (by decide) rfl (fun ls hl => ?_)
        refine lv_iinc (v := (nI (k + 1))) (lv' := [(3, .int (nI (k + 1))), (2, .int ((sumN (leftQ α h) k) + 0)), (0, .ref (gB G 3))]) S.1 S.2.1 dX4_leftIn_59 hl (k := 2) rfl (nI_1 k) (by decide) rfl (fun ls hl => ?_)
        refine lv_goto (tgt := 35) S.1 S.2.1 dX4_leftIn_62 (by decide) ?_
        exact ih (k + 1) nwy (by omega) hpk _ _ hI ls (by rw [show sumN (leftQ α h) (k + 1) = ((sumN (leftQ α h) k) + 0) from by rw [sumN_s, show leftQ α h k = 0 from cz_49]]; exact lv_sub hl [2, 1, 0] rfl)
      · refine lv_iconst (v := 1) S.1 S.2.1 dX4_leftIn_52 (by decide) ?_
        refine lv_goto (tgt := 57) S.1 S.2.1 dX4_leftIn_53 (by decide) ?_
        refine lv_iadd S.1 S.2.1 dX4_leftIn_57 ?_
        refine lv_istore_n (lv' := [(2, .int ((sumN (leftQ α h) k) + 1)), (0, .ref (gB G 3)), (3, .int (nI k))]) S.1 S.2.1 dX4_leftIn_58 rfl hl (by decide) rfl (fun ls hl => ?_)
        refine lv_iinc (v := (nI (k + 1))) (lv' := [(3, .int (nI (k + 1))), (2, .int ((sumN (leftQ α h) k) + 1)), (0, .ref (gB G 3))]) S.1 S.2.1 dX4_leftIn_59 hl (k := 2) rfl (nI_1 k) (by decide) rfl (fun ls hl => ?_)
        refine lv_goto (tgt := 35) S.1 S.2.1 dX4_leftIn_62 (by decide) ?_
        exact ih (k + 1) nwy (by omega) hpk _ _ hI ls (by rw [show sumN (leftQ α h) (k + 1) = ((sumN (leftQ α h) k) + 1) from by rw [sumN_s, show leftQ α h k = 1 from if_pos (ite01Q cz_49)]]; exact lv_sub hl [2, 1, 0] rfl)
  refine lv_aload_n S.1 S.2.1 dX4_leftIn_0 rfl (lv_at hl 0 rfl) ?_
  refine lv_iconst (v := 0) S.1 S.2.1 dX4_leftIn_1 (by decide) ?_
  refine p_X4_M_thrown S hI hm dX4_leftIn_2 (fun σ1 H locs ey1 hz1 hI => ?_)
  refine lv_iload_n S.1 S.2.1 dX4_leftIn_5 rfl (lv_at hl 1 rfl) ?_
  refine lv_iconst (v := 1) S.1 S.2.1 dX4_leftIn_6 (by decide) ?_
  refine lv_bipush (v := 100) S.1 S.2.1 dX4_leftIn_7 (by decide) ?_
  refine cl_i hI (rnS (As := [.int (nI h), .int 1, .int 100]) (rest := []) S hI (c_isIn l G _ (nI h) 1 100) (cw_X4_X4_isIn S.2.2.2.2 ⟨Nat.le_of_ble_eq_true rfl, Nat.le_of_ble_eq_true rfl⟩) rfl hl.1 (Nat.le_of_ble_eq_true rfl) dX4_leftIn_9 ⟨Nat.le_of_ble_eq_true rfl, Nat.le_of_ble_eq_true rfl⟩) (fun r2 σ2 H locs hq2 hI => ?_)
  obtain ⟨hr2, hs2⟩ := hq2
  rw [hs2] at hI
  rw [hr2, inI_h h1 hh100]
  refine lv_if_ne (tgt := 21) S.1 S.2.1 dX4_leftIn_12 (by decide) (fun _ => ?_) (fun c9 => absurd c9 (by decide))
  refine lv_aload_n S.1 S.2.1 dX4_leftIn_21 rfl (lv_at hl 0 rfl) ?_
  refine cl_v hI (rnV (As := []) (rest := []) S hI (c_keepAll l G _ hz1) (cw_X4_X4_keepAll S.2.2.2.2 ⟨Nat.le_of_ble_eq_true rfl, Nat.le_of_ble_eq_true rfl⟩) (rcM hI) rfl hl.1 (Nat.le_of_ble_eq_true rfl) dX4_leftIn_22 ⟨Nat.le_of_ble_eq_true rfl, Nat.le_of_ble_eq_true rfl⟩) (fun σ3 H locs hq3 hI => ?_)
  have hI : Iv G (setM σ (0, nI n, mk, lf, nw, cpyA nw kp)) s H locs := by rw [hq3, ey1] at hI; exact hI
  refine lv_aload_n S.1 S.2.1 dX4_leftIn_25 rfl (lv_at hl 0 rfl) ?_
  refine lv_iload_n S.1 S.2.1 dX4_leftIn_26 rfl (lv_at hl 1 rfl) ?_
  refine cl_i hI (rnV (As := [.int (nI h)]) (rest := []) S hI (c_hoursOn l G _ (show gM (setM σ (0, nI n, mk, lf, nw, cpyA nw kp)) = (0, nI n, mk, lf, nw, cpyA nw kp) from rfl) hpic (h := h) hh100) (cw_X4_X4_hoursOn S.2.2.2.2 ⟨Nat.le_of_ble_eq_true rfl, Nat.le_of_ble_eq_true rfl⟩) (rcM hI) rfl hl.1 (Nat.le_of_ble_eq_true rfl) dX4_leftIn_27 ⟨Nat.le_of_ble_eq_true rfl, Nat.le_of_ble_eq_true rfl⟩) (fun r4 σ4 H locs hq4 hI => ?_)
  obtain ⟨nwy, ez4, hpy, hr4⟩ := hq4
  have hI : Iv G (setM σ (0, nI n, mk, lf, nwy, cpyA nw kp)) s H locs := by rw [ez4] at hI; exact hI
  refine lv_pop S.1 S.2.1 dX4_leftIn_30 rfl ?_
  refine lv_iconst (v := 0) S.1 S.2.1 dX4_leftIn_31 (by decide) ?_
  refine lv_istore_n (lv' := [(2, .int 0), (0, .ref (gB G 3)), (1, .int (nI h))]) S.1 S.2.1 dX4_leftIn_32 rfl hl (by decide) rfl (fun ls hl => ?_)
  refine lv_iconst (v := (nI 0)) S.1 S.2.1 dX4_leftIn_33 (by rfl) ?_
  refine lv_istore_n (lv' := [(3, .int (nI 0)), (2, .int 0), (0, .ref (gB G 3)), (1, .int (nI h))]) S.1 S.2.1 dX4_leftIn_34 rfl hl (by decide) rfl (fun ls hl => ?_)
  exact loop n 0 nwy (by omega) hpy _ _ hI ls (lv_sub hl [2, 1, 0] rfl)
