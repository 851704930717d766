abbrev Z5 : Type := Int32 × Int32 × Int32 × Int32 × Int32
def getZ (nw : Nat → Int32) (p : Nat) : Z5 := (nw (13 + 5 * p + 0), nw (13 + 5 * p + 1), nw (13 + 5 * p + 2), nw (13 + 5 * p + 3), nw (13 + 5 * p + 4))
def putZ (nw : Nat → Int32) (p : Nat) (z : Z5) : Nat → Int32 := fun j => if j = 13 + 5 * p + 0 then z.1 else if j = 13 + 5 * p + 1 then z.2.1 else if j = 13 + 5 * p + 2 then z.2.2.1 else if j = 13 + 5 * p + 3 then z.2.2.2.1 else if j = 13 + 5 * p + 4 then z.2.2.2.2 else nw j
theorem putZ_0 (nw : Nat → Int32) (p : Nat) (a b c d e : Int32) : putZ nw p (a, b, c, d, e) (13 + 5 * p + 0) = a := by simp [putZ]
theorem putZ_1 (nw : Nat → Int32) (p : Nat) (a b c d e : Int32) : putZ nw p (a, b, c, d, e) (13 + 5 * p + 1) = b := by simp [putZ]
theorem putZ_2 (nw : Nat → Int32) (p : Nat) (a b c d e : Int32) : putZ nw p (a, b, c, d, e) (13 + 5 * p + 2) = c := by simp [putZ]
theorem putZ_3 (nw : Nat → Int32) (p : Nat) (a b c d e : Int32) : putZ nw p (a, b, c, d, e) (13 + 5 * p + 3) = d := by simp [putZ]
theorem putZ_4 (nw : Nat → Int32) (p : Nat) (a b c d e : Int32) : putZ nw p (a, b, c, d, e) (13 + 5 * p + 4) = e := by simp [putZ]
theorem putZ_lt (nw : Nat → Int32) (p : Nat) (z : Z5) {j : Nat} (h : j < 13) : putZ nw p z j = nw j := by
  unfold putZ
  rw [if_neg (by omega), if_neg (by omega), if_neg (by omega), if_neg (by omega), if_neg (by omega)]
theorem putZ_out (nw : Nat → Int32) (p : Nat) (z : Z5) {j : Nat} (h : j < 13 + 5 * p ∨ 13 + 5 * p + 5 ≤ j) : putZ nw p z j = nw j := by
  unfold putZ
  rw [if_neg (by omega), if_neg (by omega), if_neg (by omega), if_neg (by omega), if_neg (by omega)]
theorem getZ_ne (nw : Nat → Int32) {p q : Nat} (z : Z5) (h : q ≠ p) : getZ (putZ nw p z) q = getZ nw q := by
  simp only [getZ]
  rw [putZ_out _ _ _ (by omega), putZ_out _ _ _ (by omega), putZ_out _ _ _ (by omega), putZ_out _ _ _ (by omega), putZ_out _ _ _ (by omega)]
theorem getZ_putZ (nw : Nat → Int32) (p : Nat) (z : Z5) : getZ (putZ nw p z) p = z := by
  obtain ⟨a, b, c, d, e⟩ := z
  simp only [getZ, putZ_0, putZ_1, putZ_2, putZ_3, putZ_4]
theorem putZ_getZ (nw : Nat → Int32) (p : Nat) : putZ nw p (getZ nw p) = nw := by
  funext j
  unfold putZ getZ
  repeat' split
  all_goals first
    | rfl
    | (rename_i h; rw [h])
theorem upZ_0 (nw : Nat → Int32) (p : Nat) (a b c d e v : Int32) : va_up (putZ nw p (a, b, c, d, e)) (13 + 5 * p + 0) v = putZ nw p (v, b, c, d, e) := by
  funext j
  unfold va_up putZ
  by_cases h : j = 13 + 5 * p + 0
  · rw [if_pos h, if_pos h]
  · rw [if_neg h, if_neg h, if_neg h]
theorem upZ_1 (nw : Nat → Int32) (p : Nat) (a b c d e v : Int32) : va_up (putZ nw p (a, b, c, d, e)) (13 + 5 * p + 1) v = putZ nw p (a, v, c, d, e) := by
  funext j; unfold va_up putZ; by_cases h : j = 13 + 5 * p + 1 <;> simp [h]
theorem upZ_2 (nw : Nat → Int32) (p : Nat) (a b c d e v : Int32) : va_up (putZ nw p (a, b, c, d, e)) (13 + 5 * p + 2) v = putZ nw p (a, b, v, d, e) := by
  funext j; unfold va_up putZ; by_cases h : j = 13 + 5 * p + 2 <;> simp [h]
theorem upZ_3 (nw : Nat → Int32) (p : Nat) (a b c d e v : Int32) : va_up (putZ nw p (a, b, c, d, e)) (13 + 5 * p + 3) v = putZ nw p (a, b, c, v, e) := by
  funext j; unfold va_up putZ; by_cases h : j = 13 + 5 * p + 3 <;> simp [h]
theorem upZ_4 (nw : Nat → Int32) (p : Nat) (a b c d e v : Int32) : va_up (putZ nw p (a, b, c, d, e)) (13 + 5 * p + 4) v = putZ nw p (a, b, c, d, v) := by
  funext j; unfold va_up putZ; by_cases h : j = 13 + 5 * p + 4 <;> simp [h]
theorem finM {σ σ' : St} {x y : Km} (h1 : σ' = setM σ x) (h2 : gM σ' = y) : σ' = setM σ y := by
  subst h1
  rw [show x = y from h2]
theorem Int32_lt_total {a b : Int32} (h1 : ¬ a < b) (h2 : ¬ b < a) : a = b := by
  rw [Int32.lt_iff_toInt_lt] at h1 h2
  exact Int32.toInt_inj.mp (by omega)
theorem mn_comm (a b : Int32) : mn a b = mn b a := by
  unfold mn
  by_cases h1 : b < a <;> by_cases h2 : a < b
  · rw [Int32.lt_iff_toInt_lt] at h1 h2; omega
  · rw [if_pos h1, if_neg h2]
  · rw [if_neg h1, if_pos h2]
  · rw [if_neg h1, if_neg h2]; exact Int32_lt_total h2 h1
theorem mx_comm (a b : Int32) : mx a b = mx b a := by
  unfold mx
  by_cases h1 : b < a <;> by_cases h2 : a < b
  · rw [Int32.lt_iff_toInt_lt] at h1 h2; omega
  · rw [if_pos h1, if_neg h2]
  · rw [if_neg h1, if_pos h2]
  · rw [if_neg h1, if_neg h2]; exact Int32_lt_total h2 h1
def inI (v lo hi : Int32) : Int32 := if ¬ v < lo ∧ ¬ hi < v then 1 else 0
theorem inI_z (v lo hi : Int32) : narrow .boolean (.int (inI v lo hi)) = .int (inI v lo hi) := by unfold inI; split <;> rfl
def twd (its to most : Int32) : Int32 := if to ≤ its then mx to (its - most) else mn to (its + most)
theorem warm_eq {pw : Int32} (h : pw = 0 ∨ pw = 1) (x : Sh) : (hourS pw x).2 = if pw = 1 then twd x.2 x.1 2 else mn 20 (x.2 + 1) := by
  rcases h with rfl | rfl
  · show (if (0 : Int32) = 0 then mn (x.2 + 1) 20 else if x.1 ≤ x.2 then mx (x.2 - 2) x.1 else mn (x.2 + 2) x.1) = (if (0 : Int32) = 1 then twd x.2 x.1 2 else mn 20 (x.2 + 1))
    rw [if_pos rfl, if_neg (by decide)]
    exact mn_comm _ _
  · show (if (1 : Int32) = 0 then mn (x.2 + 1) 20 else if x.1 ≤ x.2 then mx (x.2 - 2) x.1 else mn (x.2 + 2) x.1) = (if (1 : Int32) = 1 then twd x.2 x.1 2 else mn 20 (x.2 + 1))
    rw [if_neg (by decide), if_pos rfl]
    unfold twd
    split
    · exact mx_comm _ _
    · exact mn_comm _ _
set_option maxRecDepth 100000 in
set_option maxHeartbeats 4000000 in
theorem c_isIn (l : Launch) (G : Gt) (σ : St) (v lo hi : Int32) : Ct l G yX4_isIn cX4_isIn 3 (some .boolean) 1 0 0 [.int v, .int lo, .int hi] σ (Qi G (fun r σ' => r = inI v lo hi ∧ σ' = σ)) := by
  refine mt_intro (by decide +kernel) (Nat.le_of_ble_eq_true rfl) ?_
  intro p e s m below meth c S hr hlk hnm hI ls hl
  have hl : lv_has ls 3 [(0, .int v), (1, .int lo), (2, .int hi)] := hl
  refine lv_iload_n S.1 S.2.1 dX4_isIn_0 rfl (lv_at hl 0 rfl) ?_
  refine lv_iload_n S.1 S.2.1 dX4_isIn_1 rfl (lv_at hl 1 rfl) ?_
  refine lv_icmp_lt (tgt := 14) S.1 S.2.1 dX4_isIn_2 (by decide) (fun cz_2 => ?_) (fun cz_2 => ?_)
  · refine lv_iconst (v := 0) S.1 S.2.1 dX4_isIn_14 (by decide) ?_
    exact xt_z S hI hr hlk rfl (⟨by unfold inI; simp [cz_2], rfl⟩) (by decide) (by decide) dX4_isIn_15
  · refine lv_iload_n S.1 S.2.1 dX4_isIn_5 rfl (lv_at hl 0 rfl) ?_
    refine lv_iload_n S.1 S.2.1 dX4_isIn_6 rfl (lv_at hl 2 rfl) ?_
    refine lv_icmp_gt (tgt := 14) S.1 S.2.1 dX4_isIn_7 (by decide) (fun cz_7 => ?_) (fun cz_7 => ?_)
    · refine lv_iconst (v := 0) S.1 S.2.1 dX4_isIn_14 (by decide) ?_
      exact xt_z S hI hr hlk rfl (⟨by unfold inI; simp [cz_2, cz_7], rfl⟩) (by decide) (by decide) dX4_isIn_15
    · refine lv_iconst (v := 1) S.1 S.2.1 dX4_isIn_10 (by decide) ?_
      refine lv_goto (tgt := 15) S.1 S.2.1 dX4_isIn_11 (by decide) ?_
      exact xt_z S hI hr hlk rfl (⟨by unfold inI; simp [cz_2, cz_7], rfl⟩) (by decide) (by decide) dX4_isIn_15
set_option maxRecDepth 100000 in
set_option maxHeartbeats 4000000 in
theorem c_isShelf (l : Launch) (G : Gt) (σ : St) (v : Int32) : Ct l G yX4_isShelf cX4_isShelf 1 (some .boolean) 2 0 0 [.int v] σ (Qi G (fun r σ' => r = inI v 0 4 ∧ σ' = σ)) := by
  refine mt_intro (by decide +kernel) (Nat.le_of_ble_eq_true rfl) ?_
  intro p e s m below meth c S hr hlk hnm hI ls hl
  have hl : lv_has ls 1 [(0, .int v)] := hl
  refine lv_iload_n S.1 S.2.1 dX4_isShelf_0 rfl (lv_at hl 0 rfl) ?_
  refine lv_iconst (v := 0) S.1 S.2.1 dX4_isShelf_1 (by decide) ?_
  refine lv_iconst (v := 4) S.1 S.2.1 dX4_isShelf_2 (by decide) ?_
  refine cl_i hI (rnS (As := [.int v, .int 0, .int 4]) (rest := []) S hI (c_isIn l G _ v 0 4) (cw_X4_X4_isIn S.2.2.2.2 ⟨Nat.le_of_ble_eq_true rfl, Nat.le_of_ble_eq_true rfl⟩) rfl hl.1 (Nat.le_of_ble_eq_true rfl) dX4_isShelf_3 ⟨Nat.le_of_ble_eq_true rfl, Nat.le_of_ble_eq_true rfl⟩) (fun r1 σ1 H locs hq1 hI => ?_)
  obtain ⟨hr1, hs1⟩ := hq1
  rw [hs1] at hI
  rw [hr1]
  exact xt_z S hI hr hlk (inI_z _ _ _) (⟨rfl, rfl⟩) (by decide) (by decide) dX4_isShelf_6
set_option maxRecDepth 100000 in
set_option maxHeartbeats 4000000 in
theorem c_isMaker (l : Launch) (G : Gt) (σ : St) (v : Int32) : Ct l G yX4_isMaker cX4_isMaker 1 (some .boolean) 2 0 0 [.int v] σ (Qi G (fun r σ' => r = inI v 0 5 ∧ σ' = σ)) := by
  refine mt_intro (by decide +kernel) (Nat.le_of_ble_eq_true rfl) ?_
  intro p e s m below meth c S hr hlk hnm hI ls hl
  have hl : lv_has ls 1 [(0, .int v)] := hl
  refine lv_iload_n S.1 S.2.1 dX4_isMaker_0 rfl (lv_at hl 0 rfl) ?_
  refine lv_iconst (v := 0) S.1 S.2.1 dX4_isMaker_1 (by decide) ?_
  refine lv_iconst (v := 5) S.1 S.2.1 dX4_isMaker_2 (by decide) ?_
  refine cl_i hI (rnS (As := [.int v, .int 0, .int 5]) (rest := []) S hI (c_isIn l G _ v 0 5) (cw_X4_X4_isIn S.2.2.2.2 ⟨Nat.le_of_ble_eq_true rfl, Nat.le_of_ble_eq_true rfl⟩) rfl hl.1 (Nat.le_of_ble_eq_true rfl) dX4_isMaker_3 ⟨Nat.le_of_ble_eq_true rfl, Nat.le_of_ble_eq_true rfl⟩) (fun r1 σ1 H locs hq1 hI => ?_)
  obtain ⟨hr1, hs1⟩ := hq1
  rw [hs1] at hI
  rw [hr1]
  exact xt_z S hI hr hlk (inI_z _ _ _) (⟨rfl, rfl⟩) (by decide) (by decide) dX4_isMaker_6
set_option maxRecDepth 100000 in
set_option maxHeartbeats 4000000 in
theorem c_isPromise (l : Launch) (G : Gt) (σ : St) {th np : Int32} {mk lf nw kp : Nat → Int32} (hm : gM σ = (th, np, mk, lf, nw, kp)) (v : Int32) : Ct l G yX4_isPromise cX4_isPromise 2 (some .boolean) 2 0 0 [.ref (gB G 3), .int v] σ (Qi G (fun r σ' => r = inI v 0 (np - 1) ∧ σ' = σ)) := by
  refine mt_intro (by decide +kernel) (Nat.le_of_ble_eq_true rfl) ?_
  intro p e s m below meth c S hr hlk hnm hI ls hl
  have hl : lv_has ls 2 [(0, .ref (gB G 3)), (1, .int v)] := hl
  refine lv_iload_n S.1 S.2.1 dX4_isPromise_0 rfl (lv_at hl 1 rfl) ?_
  refine lv_iconst (v := 0) S.1 S.2.1 dX4_isPromise_1 (by decide) ?_
  refine lv_aload_n S.1 S.2.1 dX4_isPromise_2 rfl (lv_at hl 0 rfl) ?_
  refine g_X4_M_promises S hI hm dX4_isPromise_3 ?_
  refine lv_iconst (v := 1) S.1 S.2.1 dX4_isPromise_6 (by decide) ?_
  refine lv_isub S.1 S.2.1 dX4_isPromise_7 ?_
  refine cl_i hI (rnS (As := [.int v, .int 0, .int (np - 1)]) (rest := []) S hI (c_isIn l G _ v 0 (np - 1)) (cw_X4_X4_isIn S.2.2.2.2 ⟨Nat.le_of_ble_eq_true rfl, Nat.le_of_ble_eq_true rfl⟩) rfl hl.1 (Nat.le_of_ble_eq_true rfl) dX4_isPromise_8 ⟨Nat.le_of_ble_eq_true rfl, Nat.le_of_ble_eq_true rfl⟩) (fun r1 σ1 H locs hq1 hI => ?_)
  obtain ⟨hr1, hs1⟩ := hq1
  rw [hs1] at hI
  rw [hr1]
  exact xt_z S hI hr hlk (inI_z _ _ _) (⟨rfl, rfl⟩) (by decide) (by decide) dX4_isPromise_11
set_option maxRecDepth 100000 in
set_option maxHeartbeats 4000000 in
theorem c_shelf (l : Launch) (G : Gt) (σ : St) (pq w : Nat) : Ct l G yX4_shelf cX4_shelf 2 (some .int) 1 0 0 [.int (nI pq), .int (nI w)] σ (Qi G (fun r σ' => r = nI (3 + 2 * pq + w) ∧ σ' = σ)) := by
  refine mt_intro (by decide +kernel) (Nat.le_of_ble_eq_true rfl) ?_
  intro p e s m below meth c S hr hlk hnm hI ls hl
  have hl : lv_has ls 2 [(0, .int (nI pq)), (1, .int (nI w))] := hl
  refine lv_iconst (v := 3) S.1 S.2.1 dX4_shelf_0 (by decide) ?_
  refine lv_iconst (v := 2) S.1 S.2.1 dX4_shelf_1 (by decide) ?_
  refine lv_iload_n S.1 S.2.1 dX4_shelf_2 rfl (lv_at hl 0 rfl) ?_
  refine lv_imul S.1 S.2.1 dX4_shelf_3 ?_
  refine lv_iadd S.1 S.2.1 dX4_shelf_4 ?_
  refine lv_iload_n S.1 S.2.1 dX4_shelf_5 rfl (lv_at hl 1 rfl) ?_
  refine lv_iadd S.1 S.2.1 dX4_shelf_6 ?_
  exact xt_i S hI hr hlk (⟨(by rw [show (3 : Int32) = nI 3 from rfl, show (2 : Int32) = nI 2 from rfl, pk_mul, nI_add, nI_add]), rfl⟩) (by decide) (by decide) dX4_shelf_7
set_option maxRecDepth 100000 in
set_option maxHeartbeats 4000000 in
theorem c_of (l : Launch) (G : Gt) (σ : St) (pq w : Nat) : Ct l G yX4_of cX4_of 2 (some .int) 1 0 0 [.int (nI pq), .int (nI w)] σ (Qi G (fun r σ' => r = nI (13 + 5 * pq + w) ∧ σ' = σ)) := by
  refine mt_intro (by decide +kernel) (Nat.le_of_ble_eq_true rfl) ?_
  intro p e s m below meth c S hr hlk hnm hI ls hl
  have hl : lv_has ls 2 [(0, .int (nI pq)), (1, .int (nI w))] := hl
  refine lv_bipush (v := 13) S.1 S.2.1 dX4_of_0 (by decide) ?_
  refine lv_iconst (v := 5) S.1 S.2.1 dX4_of_2 (by decide) ?_
  refine lv_iload_n S.1 S.2.1 dX4_of_3 rfl (lv_at hl 0 rfl) ?_
  refine lv_imul S.1 S.2.1 dX4_of_4 ?_
  refine lv_iadd S.1 S.2.1 dX4_of_5 ?_
  refine lv_iload_n S.1 S.2.1 dX4_of_6 rfl (lv_at hl 1 rfl) ?_
  refine lv_iadd S.1 S.2.1 dX4_of_7 ?_
  exact xt_i S hI hr hlk (⟨(by rw [show (13 : Int32) = nI 13 from rfl, show (5 : Int32) = nI 5 from rfl, pk_mul, nI_add, nI_add]), rfl⟩) (by decide) (by decide) dX4_of_8
set_option maxRecDepth 100000 in
set_option maxHeartbeats 4000000 in
theorem c_no (l : Launch) (G : Gt) (σ : St) {th np : Int32} {mk lf nw kp : Nat → Int32} (hm : gM σ = (th, np, mk, lf, nw, kp)) (v : Int32) : Ct l G yX4_no cX4_no 2 (some .int) 1 0 0 [.ref (gB G 3), .int v] σ (Qi G (fun r σ' => r = 0 ∧ σ' = setM σ (v, np, mk, lf, nw, kp))) := by
  refine mt_intro (by decide +kernel) (Nat.le_of_ble_eq_true rfl) ?_
  intro p e s m below meth c S hr hlk hnm hI ls hl
  have hl : lv_has ls 2 [(0, .ref (gB G 3)), (1, .int v)] := hl
  refine lv_aload_n S.1 S.2.1 dX4_no_0 rfl (lv_at hl 0 rfl) ?_
  refine lv_iload_n S.1 S.2.1 dX4_no_1 rfl (lv_at hl 1 rfl) ?_
  refine p_X4_M_thrown S hI hm dX4_no_2 (fun σ1 H locs ey1 hz1 hI => ?_)
  refine lv_iconst (v := 0) S.1 S.2.1 dX4_no_5 (by decide) ?_
  exact xt_i S hI hr hlk (⟨rfl, by rw [ey1]; try rfl⟩) (by decide) (by decide) dX4_no_6
set_option maxRecDepth 100000 in
set_option maxHeartbeats 4000000 in
theorem c_isNot (l : Launch) (G : Gt) (σ : St) {th np : Int32} {mk lf nw kp : Nat → Int32} (hm : gM σ = (th, np, mk, lf, nw, kp)) (v : Int32) : Ct l G yX4_isNot cX4_isNot 2 (some .boolean) 1 0 0 [.ref (gB G 3), .int v] σ (Qi G (fun r σ' => r = 0 ∧ σ' = setM σ (v, np, mk, lf, nw, kp))) := by
  refine mt_intro (by decide +kernel) (Nat.le_of_ble_eq_true rfl) ?_
  intro p e s m below meth c S hr hlk hnm hI ls hl
  have hl : lv_has ls 2 [(0, .ref (gB G 3)), (1, .int v)] := hl
  refine lv_aload_n S.1 S.2.1 dX4_isNot_0 rfl (lv_at hl 0 rfl) ?_
  refine lv_iload_n S.1 S.2.1 dX4_isNot_1 rfl (lv_at hl 1 rfl) ?_
  refine p_X4_M_thrown S hI hm dX4_isNot_2 (fun σ1 H locs ey1 hz1 hI => ?_)
  refine lv_iconst (v := 0) S.1 S.2.1 dX4_isNot_5 (by decide) ?_
  exact xt_z S hI hr hlk rfl (⟨rfl, by rw [ey1]; try rfl⟩) (by decide) (by decide) dX4_isNot_6
set_option maxRecDepth 100000 in
set_option maxHeartbeats 4000000 in
theorem c_ok (l : Launch) (G : Gt) (σ : St) {th np : Int32} {mk lf nw kp : Nat → Int32} (hm : gM σ = (th, np, mk, lf, nw, kp)) (v : Int32) : Ct l G yX4_ok cX4_ok 2 (some .int) 1 0 0 [.ref (gB G 3), .int v] σ (Qi G (fun r σ' => r = v ∧ σ' = setM σ (0, np, mk, lf, nw, kp))) := by
  refine mt_intro (by decide +kernel) (Nat.le_of_ble_eq_true rfl) ?_
  intro p e s m below meth c S hr hlk hnm hI ls hl
  have hl : lv_has ls 2 [(0, .ref (gB G 3)), (1, .int v)] := hl
  refine lv_aload_n S.1 S.2.1 dX4_ok_0 rfl (lv_at hl 0 rfl) ?_
  refine lv_iconst (v := 0) S.1 S.2.1 dX4_ok_1 (by decide) ?_
  refine p_X4_M_thrown S hI hm dX4_ok_2 (fun σ1 H locs ey1 hz1 hI => ?_)
  refine lv_iload_n S.1 S.2.1 dX4_ok_5 rfl (lv_at hl 1 rfl) ?_
  exact xt_i S hI hr hlk (⟨rfl, by rw [ey1]; try rfl⟩) (by decide) (by decide) dX4_ok_6
set_option maxRecDepth 100000 in
set_option maxHeartbeats 4000000 in
theorem c_lies (l : Launch) (G : Gt) (σ : St) {th np : Int32} {mk lf nw kp : Nat → Int32} (hm : gM σ = (th, np, mk, lf, nw, kp)) {pq : Nat} (hp : pq < 20) : Ct l G yX4_lies cX4_lies 2 (some .boolean) 2 0 0 [.ref (gB G 3), .int (nI pq)] σ (Qi G (fun r σ' => r = (if nw (13 + 5 * pq + 0) = -1 then 0 else 1) ∧ σ' = σ)) := by
  refine mt_intro (by decide +kernel) (Nat.le_of_ble_eq_true rfl) ?_
  intro p e s m below meth c S hr hlk hnm hI ls hl
  have hl : lv_has ls 2 [(0, .ref (gB G 3)), (1, .int (nI pq))] := hl
  refine lv_aload_n S.1 S.2.1 dX4_lies_0 rfl (lv_at hl 0 rfl) ?_
  refine g_X4_M_now S hI dX4_lies_1 ?_
  refine lv_iload_n S.1 S.2.1 dX4_lies_4 rfl (lv_at hl 1 rfl) ?_
  refine lv_iconst (v := 0) S.1 S.2.1 dX4_lies_5 (by decide) ?_
  refine cl_i hI (rnS (As := [.int (nI pq), .int 0]) (rest := [.ref (gB G 6)]) S hI (c_of l G _ pq 0) (cw_X4_X4_of S.2.2.2.2 ⟨Nat.le_of_ble_eq_true rfl, Nat.le_of_ble_eq_true rfl⟩) rfl hl.1 (Nat.le_of_ble_eq_true rfl) dX4_lies_6 ⟨Nat.le_of_ble_eq_true rfl, Nat.le_of_ble_eq_true rfl⟩) (fun r1 σ1 H locs hq1 hI => ?_)
  obtain ⟨hr1, hs1⟩ := hq1
  rw [hs1] at hI
  rw [hr1]
  refine a_nw S hI hm (j := (13 + 5 * pq + 0)) (by omega) dX4_lies_9 ?_
  refine lv_iconst (v := (-1)) S.1 S.2.1 dX4_lies_10 (by decide) ?_
  refine lv_icmp_eq (tgt := 18) S.1 S.2.1 dX4_lies_11 (by decide) (fun cz_11 => ?_) (fun cz_11 => ?_)
  · refine lv_iconst (v := 0) S.1 S.2.1 dX4_lies_18 (by decide) ?_
    exact xt_z S hI hr hlk rfl (⟨(if_pos cz_11).symm, rfl⟩) (by decide) (by decide) dX4_lies_19
  · refine lv_iconst (v := 1) S.1 S.2.1 dX4_lies_14 (by decide) ?_
    refine lv_goto (tgt := 19) S.1 S.2.1 dX4_lies_15 (by decide) ?_
    exact xt_z S hI hr hlk rfl (⟨(if_neg cz_11).symm, rfl⟩) (by decide) (by decide) dX4_lies_19
set_option maxRecDepth 100000 in
set_option maxHeartbeats 4000000 in
theorem c_open (l : Launch) (G : Gt) (σ : St) {th np : Int32} {mk lf nw kp : Nat → Int32} (hm : gM σ = (th, np, mk, lf, nw, kp)) {k : Nat} (hk : k < 5) : Ct l G yX4_open cX4_open 2 none 2 0 0 [.ref (gB G 3), .int (nI k)] σ (Qv G (fun σ' => σ' = setM σ (th, np, mk, lf, va_up nw (3 + 2 * k + 1) (openH (nw (3 + 2 * k + 1))), kp))) := by
  refine mt_intro (by decide +kernel) (Nat.le_of_ble_eq_true rfl) ?_
  intro p e s m below meth c S hr hlk hnm hI ls hl
  have hl : lv_has ls 2 [(0, .ref (gB G 3)), (1, .int (nI k))] := hl
  refine lv_aload_n S.1 S.2.1 dX4_open_0 rfl (lv_at hl 0 rfl) ?_
  refine g_X4_M_now S hI dX4_open_1 ?_
  refine lv_iload_n S.1 S.2.1 dX4_open_4 rfl (lv_at hl 1 rfl) ?_
  refine lv_iconst (v := 1) S.1 S.2.1 dX4_open_5 (by decide) ?_
  refine cl_i hI (rnS (As := [.int (nI k), .int 1]) (rest := [.ref (gB G 6)]) S hI (c_shelf l G _ k 1) (cw_X4_X4_shelf S.2.2.2.2 ⟨Nat.le_of_ble_eq_true rfl, Nat.le_of_ble_eq_true rfl⟩) rfl hl.1 (Nat.le_of_ble_eq_true rfl) dX4_open_6 ⟨Nat.le_of_ble_eq_true rfl, Nat.le_of_ble_eq_true rfl⟩) (fun r1 σ1 H locs hq1 hI => ?_)
  obtain ⟨hr1, hs1⟩ := hq1
  rw [hs1] at hI
  rw [hr1]
  refine lv_bipush (v := 20) S.1 S.2.1 dX4_open_9 (by decide) ?_
  refine lv_aload_n S.1 S.2.1 dX4_open_11 rfl (lv_at hl 0 rfl) ?_
  refine g_X4_M_now S hI dX4_open_12 ?_
  refine lv_iload_n S.1 S.2.1 dX4_open_15 rfl (lv_at hl 1 rfl) ?_
  refine lv_iconst (v := 1) S.1 S.2.1 dX4_open_16 (by decide) ?_
  refine cl_i hI (rnS (As := [.int (nI k), .int 1]) (rest := [.ref (gB G 6), .int 20, .int (nI (3 + 2 * k + 1)), .ref (gB G 6)]) S hI (c_shelf l G _ k 1) (cw_X4_X4_shelf S.2.2.2.2 ⟨Nat.le_of_ble_eq_true rfl, Nat.le_of_ble_eq_true rfl⟩) rfl hl.1 (Nat.le_of_ble_eq_true rfl) dX4_open_17 ⟨Nat.le_of_ble_eq_true rfl, Nat.le_of_ble_eq_true rfl⟩) (fun r2 σ2 H locs hq2 hI => ?_)
  obtain ⟨hr2, hs2⟩ := hq2
  rw [hs2] at hI
  rw [hr2]
  refine a_nw S hI hm (j := (3 + 2 * k + 1)) (by omega) dX4_open_20 ?_
  refine lv_iconst (v := 2) S.1 S.2.1 dX4_open_21 (by decide) ?_
  refine lv_iadd S.1 S.2.1 dX4_open_22 ?_
  refine mt_X4_min S hl.1 ⟨Nat.le_of_ble_eq_true rfl, Nat.le_of_ble_eq_true rfl⟩ ⟨Nat.le_of_ble_eq_true rfl, Nat.le_of_ble_eq_true rfl⟩ dX4_open_23 ?_
  rw [show (if ((nw (3 + 2 * k + 1)) + 2) < 20 then ((nw (3 + 2 * k + 1)) + 2) else 20) = (openH (nw (3 + 2 * k + 1))) from mn_comm 20 (nw (3 + 2 * k + 1) + 2)]
  refine s_nw S hI hm (j := (3 + 2 * k + 1)) (by omega) dX4_open_26 (fun σ3 H locs ey3 hz3 hI => ?_)
  exact xt_v S hI hr hlk (finM (by rw [ey3]; try rfl) hz3) (by decide) (by decide) dX4_open_27
set_option maxRecDepth 100000 in
set_option maxHeartbeats 4000000 in
theorem c_towards (l : Launch) (G : Gt) (σ : St) (its to most : Int32) : Ct l G yX4_towards cX4_towards 3 (some .int) 1 0 0 [.int its, .int to, .int most] σ (Qi G (fun r σ' => r = twd its to most ∧ σ' = σ)) := by
  refine mt_intro (by decide +kernel) (Nat.le_of_ble_eq_true rfl) ?_
  intro p e s m below meth c S hr hlk hnm hI ls hl
  have hl : lv_has ls 3 [(0, .int its), (1, .int to), (2, .int most)] := hl
  refine lv_iload_n S.1 S.2.1 dX4_towards_0 rfl (lv_at hl 0 rfl) ?_
  refine lv_iload_n S.1 S.2.1 dX4_towards_1 rfl (lv_at hl 1 rfl) ?_
  refine lv_icmp_ge (tgt := 15) S.1 S.2.1 dX4_towards_2 (by decide) (fun cz_2 => ?_) (fun cz_2 => ?_)
  · refine lv_iload_n S.1 S.2.1 dX4_towards_15 rfl (lv_at hl 1 rfl) ?_
    refine lv_iload_n S.1 S.2.1 dX4_towards_16 rfl (lv_at hl 0 rfl) ?_
    refine lv_iload_n S.1 S.2.1 dX4_towards_17 rfl (lv_at hl 2 rfl) ?_
    refine lv_isub S.1 S.2.1 dX4_towards_18 ?_
    refine mt_X4_max S hl.1 ⟨Nat.le_of_ble_eq_true rfl, Nat.le_of_ble_eq_true rfl⟩ ⟨Nat.le_of_ble_eq_true rfl, Nat.le_of_ble_eq_true rfl⟩ dX4_towards_19 ?_
    exact xt_i S hI hr hlk (⟨(if_pos cz_2).symm, rfl⟩) (by decide) (by decide) dX4_towards_22
  · refine lv_iload_n S.1 S.2.1 dX4_towards_5 rfl (lv_at hl 1 rfl) ?_
    refine lv_iload_n S.1 S.2.1 dX4_towards_6 rfl (lv_at hl 0 rfl) ?_
    refine lv_iload_n S.1 S.2.1 dX4_towards_7 rfl (lv_at hl 2 rfl) ?_
    refine lv_iadd S.1 S.2.1 dX4_towards_8 ?_
    refine mt_X4_min S hl.1 ⟨Nat.le_of_ble_eq_true rfl, Nat.le_of_ble_eq_true rfl⟩ ⟨Nat.le_of_ble_eq_true rfl, Nat.le_of_ble_eq_true rfl⟩ dX4_towards_9 ?_
    refine lv_goto (tgt := 22) S.1 S.2.1 dX4_towards_12 (by decide) ?_
    exact xt_i S hI hr hlk (⟨(if_neg cz_2).symm, rfl⟩) (by decide) (by decide) dX4_towards_22
set_option maxRecDepth 100000 in
set_option maxHeartbeats 4000000 in
theorem c_warm (l : Launch) (G : Gt) (σ : St) {th np : Int32} {mk lf nw kp : Nat → Int32} (hm : gM σ = (th, np, mk, lf, nw, kp)) (hw : nw 1 = 0 ∨ nw 1 = 1) {k : Nat} (hk : k < 5) : Ct l G yX4_warm cX4_warm 3 none 2 0 0 [.ref (gB G 3), .int (nI k)] σ (Qv G (fun σ' => σ' = setM σ (th, np, mk, lf, va_up nw (3 + 2 * k + 1) (hourS (nw 1) (nw (3 + 2 * k + 0), nw (3 + 2 * k + 1))).2, kp))) := by
  refine mt_intro (by decide +kernel) (Nat.le_of_ble_eq_true rfl) ?_
  intro p e s m below meth c S hr hlk hnm hI ls hl
  have hl : lv_has ls 3 [(0, .ref (gB G 3)), (1, .int (nI k))] := hl
  refine lv_aload_n S.1 S.2.1 dX4_warm_0 rfl (lv_at hl 0 rfl) ?_
  refine g_X4_M_now S hI dX4_warm_1 ?_
  refine lv_iload_n S.1 S.2.1 dX4_warm_4 rfl (lv_at hl 1 rfl) ?_
  refine lv_iconst (v := 1) S.1 S.2.1 dX4_warm_5 (by decide) ?_
  refine cl_i hI (rnS (As := [.int (nI k), .int 1]) (rest := [.ref (gB G 6)]) S hI (c_shelf l G _ k 1) (cw_X4_X4_shelf S.2.2.2.2 ⟨Nat.le_of_ble_eq_true rfl, Nat.le_of_ble_eq_true rfl⟩) rfl hl.1 (Nat.le_of_ble_eq_true rfl) dX4_warm_6 ⟨Nat.le_of_ble_eq_true rfl, Nat.le_of_ble_eq_true rfl⟩) (fun r1 σ1 H locs hq1 hI => ?_)
  obtain ⟨hr1, hs1⟩ := hq1
  rw [hs1] at hI
  rw [hr1]
  refine a_nw S hI hm (j := (3 + 2 * k + 1)) (by omega) dX4_warm_9 ?_
  refine lv_istore_n (lv' := [(2, .int (nw (3 + 2 * k + 1))), (0, .ref (gB G 3)), (1, .int (nI k))]) S.1 S.2.1 dX4_warm_10 rfl hl (by decide) rfl (fun ls hl => ?_)
  refine lv_aload_n S.1 S.2.1 dX4_warm_11 rfl (lv_at hl 1 rfl) ?_
  refine g_X4_M_now S hI dX4_warm_12 ?_
  refine lv_iload_n S.1 S.2.1 dX4_warm_15 rfl (lv_at hl 2 rfl) ?_
  refine lv_iconst (v := 1) S.1 S.2.1 dX4_warm_16 (by decide) ?_
  refine cl_i hI (rnS (As := [.int (nI k), .int 1]) (rest := [.ref (gB G 6)]) S hI (c_shelf l G _ k 1) (cw_X4_X4_shelf S.2.2.2.2 ⟨Nat.le_of_ble_eq_true rfl, Nat.le_of_ble_eq_true rfl⟩) rfl hl.1 (Nat.le_of_ble_eq_true rfl) dX4_warm_17 ⟨Nat.le_of_ble_eq_true rfl, Nat.le_of_ble_eq_true rfl⟩) (fun r2 σ2 H locs hq2 hI => ?_)
  obtain ⟨hr2, hs2⟩ := hq2
  rw [hs2] at hI
  rw [hr2]
  refine lv_aload_n S.1 S.2.1 dX4_warm_20 rfl (lv_at hl 1 rfl) ?_
  refine g_X4_M_now S hI dX4_warm_21 ?_
  refine lv_iconst (v := (nI 1)) S.1 S.2.1 dX4_warm_24 (by rfl) ?_
  refine a_nw S hI hm (j := 1) (by omega) dX4_warm_25 ?_
  refine lv_iconst (v := 1) S.1 S.2.1 dX4_warm_26 (by decide) ?_
  refine lv_icmp_ne (tgt := 48) S.1 S.2.1 dX4_warm_27 (by decide) (fun cz_27 => ?_) (fun cz_27 => ?_)
  · refine lv_bipush (v := 20) S.1 S.2.1 dX4_warm_48 (by decide) ?_
    refine lv_iload_n S.1 S.2.1 dX4_warm_50 rfl (lv_at hl 0 rfl) ?_
    refine lv_iconst (v := 1) S.1 S.2.1 dX4_warm_51 (by decide) ?_
    refine lv_iadd S.1 S.2.1 dX4_warm_52 ?_
    refine mt_X4_min S hl.1 ⟨Nat.le_of_ble_eq_true rfl, Nat.le_of_ble_eq_true rfl⟩ ⟨Nat.le_of_ble_eq_true rfl, Nat.le_of_ble_eq_true rfl⟩ dX4_warm_53 ?_
    refine s_nw S hI hm (j := (3 + 2 * k + 1)) (by omega) dX4_warm_56 (fun σ3 H locs ey3 hz3 hI => ?_)
    exact xt_v S hI hr hlk (by rw [warm_eq hw, if_neg cz_27]; exact finM (by rw [ey3]; try rfl) hz3) (by decide) (by decide) dX4_warm_57
  · refine lv_iload_n S.1 S.2.1 dX4_warm_30 rfl (lv_at hl 0 rfl) ?_
    refine lv_aload_n S.1 S.2.1 dX4_warm_31 rfl (lv_at hl 1 rfl) ?_
    refine g_X4_M_now S hI dX4_warm_32 ?_
    refine lv_iload_n S.1 S.2.1 dX4_warm_35 rfl (lv_at hl 2 rfl) ?_
    refine lv_iconst (v := 0) S.1 S.2.1 dX4_warm_36 (by decide) ?_
    refine cl_i hI (rnS (As := [.int (nI k), .int 0]) (rest := [.ref (gB G 6), .int (nw (3 + 2 * k + 1)), .int (nI (3 + 2 * k + 1)), .ref (gB G 6)]) S hI (c_shelf l G _ k 0) (cw_X4_X4_shelf S.2.2.2.2 ⟨Nat.le_of_ble_eq_true rfl, Nat.le_of_ble_eq_true rfl⟩) rfl hl.1 (Nat.le_of_ble_eq_true rfl) dX4_warm_37 ⟨Nat.le_of_ble_eq_true rfl, Nat.le_of_ble_eq_true rfl⟩) (fun r4 σ4 H locs hq4 hI => ?_)
    obtain ⟨hr4, hs4⟩ := hq4
    rw [hs4] at hI
    rw [hr4]
    refine a_nw S hI hm (j := (3 + 2 * k + 0)) (by omega) dX4_warm_40 ?_
    refine lv_iconst (v := 2) S.1 S.2.1 dX4_warm_41 (by decide) ?_
    refine cl_i hI (rnS (As := [.int (nw (3 + 2 * k + 1)), .int (nw (3 + 2 * k + 0)), .int 2]) (rest := [.int (nI (3 + 2 * k + 1)), .ref (gB G 6)]) S hI (c_towards l G _ (nw (3 + 2 * k + 1)) (nw (3 + 2 * k + 0)) 2) (cw_X4_X4_towards S.2.2.2.2 ⟨Nat.le_of_ble_eq_true rfl, Nat.le_of_ble_eq_true rfl⟩) rfl hl.1 (Nat.le_of_ble_eq_true rfl) dX4_warm_42 ⟨Nat.le_of_ble_eq_true rfl, Nat.le_of_ble_eq_true rfl⟩) (fun r5 σ5 H locs hq5 hI => ?_)
    obtain ⟨hr5, hs5⟩ := hq5
    rw [hs5] at hI
    rw [hr5]
    refine lv_goto (tgt := 56) S.1 S.2.1 dX4_warm_45 (by decide) ?_
    refine s_nw S hI hm (j := (3 + 2 * k + 1)) (by omega) dX4_warm_56 (fun σ6 H locs ey6 hz6 hI => ?_)
    exact xt_v S hI hr hlk (by rw [warm_eq hw, if_pos cz_27]; exact finM (by rw [ey6]; try rfl) hz6) (by decide) (by decide) dX4_warm_57
def hlf (x : Int32) : Int32 := mx 1 ((if 0 ≤ x then x else 0 - x) / 2)
/-- what rings makes of warmth and state -/
def rgB (to b : Int32) : Int32 := twd b to (hlf (to - b))
def rgD (to b d : Int32) : Int32 := let b2 := rgB to b; let d2 := if d = 0 ∧ ¬ -10 < b2 then 1 else d; if d2 = 1 ∧ -4 < b2 then 2 else d2
def rgR (to b d : Int32) : Int32 := let b2 := rgB to b; let d2 := if d = 0 ∧ ¬ -10 < b2 then 1 else d; if d2 = 1 ∧ -4 < b2 then 1 else 0
set_option maxRecDepth 100000 in
set_option maxHeartbeats 4000000 in
theorem c_rings (l : Launch) (G : Gt) (σ : St) {th np : Int32} {mk lf nw kp : Nat → Int32} {pq : Nat} (hp : pq < 20) {b c1 d1 e1 : Int32} {k : Nat} (hk : k < 5) (hm : gM σ = (th, np, mk, lf, putZ nw pq (nI k, b, c1, d1, e1), kp)) : Ct l G yX4_rings cX4_rings 4 (some .boolean) 2 0 0 [.ref (gB G 3), .int (nI pq)] σ (Qi G (fun r σ' => r = rgR (nw (3 + 2 * k + 1)) b d1 ∧ σ' = setM σ (th, np, mk, lf, putZ nw pq (nI k, rgB (nw (3 + 2 * k + 1)) b, c1, rgD (nw (3 + 2 * k + 1)) b d1, e1), kp))) := by
  refine mt_intro (by decide +kernel) (Nat.le_of_ble_eq_true rfl) ?_
  intro p e s m below meth c S hr hlk hnm hI ls hl
  have hl : lv_has ls 4 [(0, .ref (gB G 3)), (1, .int (nI pq))] := hl
  refine lv_aload_n S.1 S.2.1 dX4_rings_0 rfl (lv_at hl 0 rfl) ?_
  refine g_X4_M_now S hI dX4_rings_1 ?_
  refine lv_aload_n S.1 S.2.1 dX4_rings_4 rfl (lv_at hl 0 rfl) ?_
  refine g_X4_M_now S hI dX4_rings_5 ?_
  refine lv_iload_n S.1 S.2.1 dX4_rings_8 rfl (lv_at hl 1 rfl) ?_
  refine lv_iconst (v := 0) S.1 S.2.1 dX4_rings_9 (by decide) ?_
  refine cl_i hI (rnS (As := [.int (nI pq), .int 0]) (rest := [.ref (gB G 6), .ref (gB G 6)]) S hI (c_of l G _ pq 0) (cw_X4_X4_of S.2.2.2.2 ⟨Nat.le_of_ble_eq_true rfl, Nat.le_of_ble_eq_true rfl⟩) rfl hl.1 (Nat.le_of_ble_eq_true rfl) dX4_rings_10 ⟨Nat.le_of_ble_eq_true rfl, Nat.le_of_ble_eq_true rfl⟩) (fun r1 σ1 H locs hq1 hI => ?_)
  obtain ⟨hr1, hs1⟩ := hq1
  rw [hs1] at hI
  rw [hr1]
  refine a_nw S hI hm (j := (13 + 5 * pq + 0)) (by omega) dX4_rings_13 ?_
  rw [putZ_0]
  refine lv_iconst (v := 1) S.1 S.2.1 dX4_rings_14 (by decide) ?_
  refine cl_i hI (rnS (As := [.int (nI k), .int 1]) (rest := [.ref (gB G 6)]) S hI (c_shelf l G _ k 1) (cw_X4_X4_shelf S.2.2.2.2 ⟨Nat.le_of_ble_eq_true rfl, Nat.le_of_ble_eq_true rfl⟩) rfl hl.1 (Nat.le_of_ble_eq_true rfl) dX4_rings_15 ⟨Nat.le_of_ble_eq_true rfl, Nat.le_of_ble_eq_true rfl⟩) (fun r2 σ2 H locs hq2 hI => ?_)
  obtain ⟨hr2, hs2⟩ := hq2
  rw [hs2] at hI
  rw [hr2]
  refine a_nw S hI hm (j := (3 + 2 * k + 1)) (by omega) dX4_rings_18 ?_
  rw [putZ_lt _ _ _ (show (3 + 2 * k + 1) < 13 by omega)]
  refine lv_istore_n (lv' := [(2, .int (nw (3 + 2 * k + 1))), (0, .ref (gB G 3)), (1, .int (nI pq))]) S.1 S.2.1 dX4_rings_19 rfl hl (by decide) rfl (fun ls hl => ?_)
  refine lv_aload_n S.1 S.2.1 dX4_rings_20 rfl (lv_at hl 1 rfl) ?_
  refine g_X4_M_now S hI dX4_rings_21 ?_
  refine lv_iload_n S.1 S.2.1 dX4_rings_24 rfl (lv_at hl 2 rfl) ?_
  refine lv_iconst (v := 1) S.1 S.2.1 dX4_rings_25 (by decide) ?_
  refine cl_i hI (rnS (As := [.int (nI pq), .int 1]) (rest := [.ref (gB G 6)]) S hI (c_of l G _ pq 1) (cw_X4_X4_of S.2.2.2.2 ⟨Nat.le_of_ble_eq_true rfl, Nat.le_of_ble_eq_true rfl⟩) rfl hl.1 (Nat.le_of_ble_eq_true rfl) dX4_rings_26 ⟨Nat.le_of_ble_eq_true rfl, Nat.le_of_ble_eq_true rfl⟩) (fun r3 σ3 H locs hq3 hI => ?_)
  obtain ⟨hr3, hs3⟩ := hq3
  rw [hs3] at hI
  rw [hr3]
  refine a_nw S hI hm (j := (13 + 5 * pq + 1)) (by omega) dX4_rings_29 ?_
  rw [putZ_1]
  refine lv_istore_n (lv' := [(3, .int b), (2, .int (nw (3 + 2 * k + 1))), (0, .ref (gB G 3)), (1, .int (nI pq))]) S.1 S.2.1 dX4_rings_30 rfl hl (by decide) rfl (fun ls hl => ?_)
  refine lv_iload_n S.1 S.2.1 dX4_rings_31 rfl (lv_at hl 0 rfl) ?_
  refine lv_iload_n S.1 S.2.1 dX4_rings_32 rfl (lv_at hl 1 rfl) ?_
  refine lv_iconst (v := 1) S.1 S.2.1 dX4_rings_33 (by decide) ?_
  refine lv_iload_n S.1 S.2.1 dX4_rings_34 rfl (lv_at hl 1 rfl) ?_
  refine lv_iload_n S.1 S.2.1 dX4_rings_35 rfl (lv_at hl 0 rfl) ?_
  refine lv_isub S.1 S.2.1 dX4_rings_36 ?_
  refine mt_X4_abs S hl.1 ⟨Nat.le_of_ble_eq_true rfl, Nat.le_of_ble_eq_true rfl⟩ ⟨Nat.le_of_ble_eq_true rfl, Nat.le_of_ble_eq_true rfl⟩ dX4_rings_37 ?_
  refine lv_iconst (v := 2) S.1 S.2.1 dX4_rings_40 (by decide) ?_
  refine lv_idiv S.1 S.2.1 dX4_rings_41 (by decide) ?_
  refine mt_X4_max S hl.1 ⟨Nat.le_of_ble_eq_true rfl, Nat.le_of_ble_eq_true rfl⟩ ⟨Nat.le_of_ble_eq_true rfl, Nat.le_of_ble_eq_true rfl⟩ dX4_rings_42 ?_
  rw [show (if 1 < ((if 0 ≤ ((nw (3 + 2 * k + 1)) - b) then ((nw (3 + 2 * k + 1)) - b) else 0 - ((nw (3 + 2 * k + 1)) - b)) / 2) then ((if 0 ≤ ((nw (3 + 2 * k + 1)) - b) then ((nw (3 + 2 * k + 1)) - b) else 0 - ((nw (3 + 2 * k + 1)) - b)) / 2) else 1) = (hlf ((nw (3 + 2 * k + 1)) - b)) from rfl]
  refine cl_i hI (rnS (As := [.int b, .int (nw (3 + 2 * k + 1)), .int (hlf ((nw (3 + 2 * k + 1)) - b))]) (rest := []) S hI (c_towards l G _ b (nw (3 + 2 * k + 1)) (hlf ((nw (3 + 2 * k + 1)) - b))) (cw_X4_X4_towards S.2.2.2.2 ⟨Nat.le_of_ble_eq_true rfl, Nat.le_of_ble_eq_true rfl⟩) rfl hl.1 (Nat.le_of_ble_eq_true rfl) dX4_rings_45 ⟨Nat.le_of_ble_eq_true rfl, Nat.le_of_ble_eq_true rfl⟩) (fun r4 σ4 H locs hq4 hI => ?_)
  obtain ⟨hr4, hs4⟩ := hq4
  rw [hs4] at hI
  rw [hr4]
  refine lv_istore_n (lv' := [(3, .int (twd b (nw (3 + 2 * k + 1)) (hlf ((nw (3 + 2 * k + 1)) - b)))), (2, .int (nw (3 + 2 * k + 1))), (0, .ref (gB G 3)), (1, .int (nI pq))]) S.1 S.2.1 dX4_rings_48 rfl hl (by decide) rfl (fun ls hl => ?_)
  refine lv_aload_n S.1 S.2.1 dX4_rings_49 rfl (lv_at hl 2 rfl) ?_
  refine g_X4_M_now S hI dX4_rings_50 ?_
  refine lv_iload_n S.1 S.2.1 dX4_rings_53 rfl (lv_at hl 3 rfl) ?_
  refine lv_iconst (v := 1) S.1 S.2.1 dX4_rings_54 (by decide) ?_
  refine cl_i hI (rnS (As := [.int (nI pq), .int 1]) (rest := [.ref (gB G 6)]) S hI (c_of l G _ pq 1) (cw_X4_X4_of S.2.2.2.2 ⟨Nat.le_of_ble_eq_true rfl, Nat.le_of_ble_eq_true rfl⟩) rfl hl.1 (Nat.le_of_ble_eq_true rfl) dX4_rings_55 ⟨Nat.le_of_ble_eq_true rfl, Nat.le_of_ble_eq_true rfl⟩) (fun r5 σ5 H locs hq5 hI => ?_)
  obtain ⟨hr5, hs5⟩ := hq5
  rw [hs5] at hI
  rw [hr5]
  refine lv_iload_n S.1 S.2.1 dX4_rings_58 rfl (lv_at hl 0 rfl) ?_
  refine s_nw S hI hm (j := (13 + 5 * pq + 1)) (by omega) dX4_rings_59 (fun σ6 H locs ey6 hz6 hI => ?_)
  rw [upZ_1] at hz6
  refine lv_aload_n S.1 S.2.1 dX4_rings_60 rfl (lv_at hl 2 rfl) ?_
  refine g_X4_M_now S hI dX4_rings_61 ?_
  refine lv_iload_n S.1 S.2.1 dX4_rings_64 rfl (lv_at hl 3 rfl) ?_
  refine lv_iconst (v := 3) S.1 S.2.1 dX4_rings_65 (by decide) ?_
  refine cl_i hI (rnS (As := [.int (nI pq), .int 3]) (rest := [.ref (gB G 6)]) S hI (c_of l G _ pq 3) (cw_X4_X4_of S.2.2.2.2 ⟨Nat.le_of_ble_eq_true rfl, Nat.le_of_ble_eq_true rfl⟩) rfl hl.1 (Nat.le_of_ble_eq_true rfl) dX4_rings_66 ⟨Nat.le_of_ble_eq_true rfl, Nat.le_of_ble_eq_true rfl⟩) (fun r7 σ7 H locs hq7 hI => ?_)
  obtain ⟨hr7, hs7⟩ := hq7
  rw [hs7] at hI
  rw [hr7]
  refine a_nw S hI hz6 (j := (13 + 5 * pq + 3)) (by omega) dX4_rings_69 ?_
  rw [putZ_3]
  refine lv_if_ne (tgt := 90) S.1 S.2.1 dX4_rings_70 (by decide) (fun cz_70 => ?_) (fun cz_70 => ?_)
  · refine lv_aload_n S.1 S.2.1 dX4_rings_90 rfl (lv_at hl 2 rfl) ?_
    refine g_X4_M_now S hI dX4_rings_91 ?_
    refine lv_iload_n S.1 S.2.1 dX4_rings_94 rfl (lv_at hl 3 rfl) ?_
    refine lv_iconst (v := 3) S.1 S.2.1 dX4_rings_95 (by decide) ?_
    refine cl_i hI (rnS (As := [.int (nI pq), .int 3]) (rest := [.ref (gB G 6)]) S hI (c_of l G _ pq 3) (cw_X4_X4_of S.2.2.2.2 ⟨Nat.le_of_ble_eq_true rfl, Nat.le_of_ble_eq_true rfl⟩) rfl hl.1 (Nat.le_of_ble_eq_true rfl) dX4_rings_96 ⟨Nat.le_of_ble_eq_true rfl, Nat.le_of_ble_eq_true rfl⟩) (fun r8 σ8 H locs hq8 hI => ?_)
    obtain ⟨hr8, hs8⟩ := hq8
    rw [hs8] at hI
    rw [hr8]
    refine a_nw S hI hz6 (j := (13 + 5 * pq + 3)) (by omega) dX4_rings_99 ?_
    rw [putZ_3]
    refine lv_iconst (v := 1) S.1 S.2.1 dX4_rings_100 (by decide) ?_
    refine lv_icmp_ne (tgt := 110) S.1 S.2.1 dX4_rings_101 (by decide) (fun cz_101 => ?_) (fun cz_101 => ?_)
    · refine lv_iconst (v := 0) S.1 S.2.1 dX4_rings_110 (by decide) ?_
      exact xt_z S hI hr hlk rfl (⟨by simp [rgR, rgB, cz_70, cz_101], finM (by rw [ey6]; try rfl) (hz6.trans (by simp [rgD, rgB, cz_70, cz_101]))⟩) (by decide) (by decide) dX4_rings_111
    · refine lv_iload_n S.1 S.2.1 dX4_rings_104 rfl (lv_at hl 0 rfl) ?_
      refine lv_bipush (v := (-4)) S.1 S.2.1 dX4_rings_105 (by decide) ?_
      refine lv_icmp_gt (tgt := 112) S.1 S.2.1 dX4_rings_107 (by decide) (fun cz_107 => ?_) (fun cz_107 => ?_)
      · refine lv_aload_n S.1 S.2.1 dX4_rings_112 rfl (lv_at hl 2 rfl) ?_
        refine g_X4_M_now S hI dX4_rings_113 ?_
        refine lv_iload_n S.1 S.2.1 dX4_rings_116 rfl (lv_at hl 3 rfl) ?_
        refine lv_iconst (v := 3) S.1 S.2.1 dX4_rings_117 (by decide) ?_
        refine cl_i hI (rnS (As := [.int (nI pq), .int 3]) (rest := [.ref (gB G 6)]) S hI (c_of l G _ pq 3) (cw_X4_X4_of S.2.2.2.2 ⟨Nat.le_of_ble_eq_true rfl, Nat.le_of_ble_eq_true rfl⟩) rfl hl.1 (Nat.le_of_ble_eq_true rfl) dX4_rings_118 ⟨Nat.le_of_ble_eq_true rfl, Nat.le_of_ble_eq_true rfl⟩) (fun r9 σ9 H locs hq9 hI => ?_)
        obtain ⟨hr9, hs9⟩ := hq9
        rw [hs9] at hI
        rw [hr9]
        refine lv_iconst (v := 2) S.1 S.2.1 dX4_rings_121 (by decide) ?_
        refine s_nw S hI hz6 (j := (13 + 5 * pq + 3)) (by omega) dX4_rings_122 (fun σ10 H locs ey10 hz10 hI => ?_)
        rw [upZ_3] at hz10
        refine lv_iconst (v := 1) S.1 S.2.1 dX4_rings_123 (by decide) ?_
        exact xt_z S hI hr hlk rfl (⟨by simp [rgR, rgB, cz_70, cz_101, cz_107], finM (by rw [ey10, ey6]; try rfl) (hz10.trans (by simp [rgD, rgB, cz_70, cz_101, cz_107]))⟩) (by decide) (by decide) dX4_rings_124
      · refine lv_iconst (v := 0) S.1 S.2.1 dX4_rings_110 (by decide) ?_
        exact xt_z S hI hr hlk rfl (⟨by simp [rgR, rgB, cz_70, cz_101, cz_107], finM (by rw [ey6]; try rfl) (hz6.trans (by simp [rgD, rgB, cz_70, cz_101, cz_107]))⟩) (by decide) (by decide) dX4_rings_111
  · refine lv_iload_n S.1 S.2.1 dX4_rings_73 rfl (lv_at hl 0 rfl) ?_
    refine lv_bipush (v := (-10)) S.1 S.2.1 dX4_rings_74 (by decide) ?_
    refine lv_icmp_gt (tgt := 90) S.1 S.2.1 dX4_rings_76 (by decide) (fun cz_76 => ?_) (fun cz_76 => ?_)
    · refine lv_aload_n S.1 S.2.1 dX4_rings_90 rfl (lv_at hl 2 rfl) ?_
      refine g_X4_M_now S hI dX4_rings_91 ?_
      refine lv_iload_n S.1 S.2.1 dX4_rings_94 rfl (lv_at hl 3 rfl) ?_
      refine lv_iconst (v := 3) S.1 S.2.1 dX4_rings_95 (by decide) ?_
      refine cl_i hI (rnS (As := [.int (nI pq), .int 3]) (rest := [.ref (gB G 6)]) S hI (c_of l G _ pq 3) (cw_X4_X4_of S.2.2.2.2 ⟨Nat.le_of_ble_eq_true rfl, Nat.le_of_ble_eq_true rfl⟩) rfl hl.1 (Nat.le_of_ble_eq_true rfl) dX4_rings_96 ⟨Nat.le_of_ble_eq_true rfl, Nat.le_of_ble_eq_true rfl⟩) (fun r11 σ11 H locs hq11 hI => ?_)
      obtain ⟨hr11, hs11⟩ := hq11
      rw [hs11] at hI
      rw [hr11]
      refine a_nw S hI hz6 (j := (13 + 5 * pq + 3)) (by omega) dX4_rings_99 ?_
      rw [putZ_3]
      refine lv_iconst (v := 1) S.1 S.2.1 dX4_rings_100 (by decide) ?_
      refine lv_icmp_ne (tgt := 110) S.1 S.2.1 dX4_rings_101 (by decide) (fun cz_101 => ?_) (fun cz_101 => ?_)
      · refine lv_iconst (v := 0) S.1 S.2.1 dX4_rings_110 (by decide) ?_
        exact xt_z S hI hr hlk rfl (⟨by simp [rgR, rgB, cz_70, cz_76, cz_101], finM (by rw [ey6]; try rfl) (hz6.trans (by simp [rgD, rgB, cz_70, cz_76, cz_101]))⟩) (by decide) (by decide) dX4_rings_111
      · refine lv_iload_n S.1 S.2.1 dX4_rings_104 rfl (lv_at hl 0 rfl) ?_
        refine lv_bipush (v := (-4)) S.1 S.2.1 dX4_rings_105 (by decide) ?_
        refine lv_icmp_gt (tgt := 112) S.1 S.2.1 dX4_rings_107 (by decide) (fun cz_107 => ?_) (fun cz_107 => ?_)
        · refine lv_aload_n S.1 S.2.1 dX4_rings_112 rfl (lv_at hl 2 rfl) ?_
          refine g_X4_M_now S hI dX4_rings_113 ?_
          refine lv_iload_n S.1 S.2.1 dX4_rings_116 rfl (lv_at hl 3 rfl) ?_
          refine lv_iconst (v := 3) S.1 S.2.1 dX4_rings_117 (by decide) ?_
          refine cl_i hI (rnS (As := [.int (nI pq), .int 3]) (rest := [.ref (gB G 6)]) S hI (c_of l G _ pq 3) (cw_X4_X4_of S.2.2.2.2 ⟨Nat.le_of_ble_eq_true rfl, Nat.le_of_ble_eq_true rfl⟩) rfl hl.1 (Nat.le_of_ble_eq_true rfl) dX4_rings_118 ⟨Nat.le_of_ble_eq_true rfl, Nat.le_of_ble_eq_true rfl⟩) (fun r12 σ12 H locs hq12 hI => ?_)
          obtain ⟨hr12, hs12⟩ := hq12
          rw [hs12] at hI
          rw [hr12]
          refine lv_iconst (v := 2) S.1 S.2.1 dX4_rings_121 (by decide) ?_
          refine s_nw S hI hz6 (j := (13 + 5 * pq + 3)) (by omega) dX4_rings_122 (fun σ13 H locs ey13 hz13 hI => ?_)
          rw [upZ_3] at hz13
          refine lv_iconst (v := 1) S.1 S.2.1 dX4_rings_123 (by decide) ?_
          exact xt_z S hI hr hlk rfl (absurd (cz_70.symm.trans cz_101) (by decide)) (by decide) (by decide) dX4_rings_124
        · refine lv_iconst (v := 0) S.1 S.2.1 dX4_rings_110 (by decide) ?_
          exact xt_z S hI hr hlk rfl (absurd (cz_70.symm.trans cz_101) (by decide)) (by decide) (by decide) dX4_rings_111
    · refine lv_aload_n S.1 S.2.1 dX4_rings_79 rfl (lv_at hl 2 rfl) ?_
      refine g_X4_M_now S hI dX4_rings_80 ?_
      refine lv_iload_n S.1 S.2.1 dX4_rings_83 rfl (lv_at hl 3 rfl) ?_
      refine lv_iconst (v := 3) S.1 S.2.1 dX4_rings_84 (by decide) ?_
      refine cl_i hI (rnS (As := [.int (nI pq), .int 3]) (rest := [.ref (gB G 6)]) S hI (c_of l G _ pq 3) (cw_X4_X4_of S.2.2.2.2 ⟨Nat.le_of_ble_eq_true rfl, Nat.le_of_ble_eq_true rfl⟩) rfl hl.1 (Nat.le_of_ble_eq_true rfl) dX4_rings_85 ⟨Nat.le_of_ble_eq_true rfl, Nat.le_of_ble_eq_true rfl⟩) (fun r14 σ14 H locs hq14 hI => ?_)
      obtain ⟨hr14, hs14⟩ := hq14
      rw [hs14] at hI
      rw [hr14]
      refine lv_iconst (v := 1) S.1 S.2.1 dX4_rings_88 (by decide) ?_
      refine s_nw S hI hz6 (j := (13 + 5 * pq + 3)) (by omega) dX4_rings_89 (fun σ15 H locs ey15 hz15 hI => ?_)
      rw [upZ_3] at hz15
      refine lv_aload_n S.1 S.2.1 dX4_rings_90 rfl (lv_at hl 2 rfl) ?_
      refine g_X4_M_now S hI dX4_rings_91 ?_
      refine lv_iload_n S.1 S.2.1 dX4_rings_94 rfl (lv_at hl 3 rfl) ?_
      refine lv_iconst (v := 3) S.1 S.2.1 dX4_rings_95 (by decide) ?_
      refine cl_i hI (rnS (As := [.int (nI pq), .int 3]) (rest := [.ref (gB G 6)]) S hI (c_of l G _ pq 3) (cw_X4_X4_of S.2.2.2.2 ⟨Nat.le_of_ble_eq_true rfl, Nat.le_of_ble_eq_true rfl⟩) rfl hl.1 (Nat.le_of_ble_eq_true rfl) dX4_rings_96 ⟨Nat.le_of_ble_eq_true rfl, Nat.le_of_ble_eq_true rfl⟩) (fun r16 σ16 H locs hq16 hI => ?_)
      obtain ⟨hr16, hs16⟩ := hq16
      rw [hs16] at hI
      rw [hr16]
      refine a_nw S hI hz15 (j := (13 + 5 * pq + 3)) (by omega) dX4_rings_99 ?_
      rw [putZ_3]
      refine lv_iconst (v := 1) S.1 S.2.1 dX4_rings_100 (by decide) ?_
      refine lv_icmp_ne (tgt := 110) S.1 S.2.1 dX4_rings_101 (by decide) (fun c9 => absurd c9 (by decide)) (fun _ => ?_)
      refine lv_iload_n S.1 S.2.1 dX4_rings_104 rfl (lv_at hl 0 rfl) ?_
      refine lv_bipush (v := (-4)) S.1 S.2.1 dX4_rings_105 (by decide) ?_
      refine lv_icmp_gt (tgt := 112) S.1 S.2.1 dX4_rings_107 (by decide) (fun cz_107 => ?_) (fun cz_107 => ?_)
      · refine lv_aload_n S.1 S.2.1 dX4_rings_112 rfl (lv_at hl 2 rfl) ?_
        refine g_X4_M_now S hI dX4_rings_113 ?_
        refine lv_iload_n S.1 S.2.1 dX4_rings_116 rfl (lv_at hl 3 rfl) ?_
        refine lv_iconst (v := 3) S.1 S.2.1 dX4_rings_117 (by decide) ?_
        refine cl_i hI (rnS (As := [.int (nI pq), .int 3]) (rest := [.ref (gB G 6)]) S hI (c_of l G _ pq 3) (cw_X4_X4_of S.2.2.2.2 ⟨Nat.le_of_ble_eq_true rfl, Nat.le_of_ble_eq_true rfl⟩) rfl hl.1 (Nat.le_of_ble_eq_true rfl) dX4_rings_118 ⟨Nat.le_of_ble_eq_true rfl, Nat.le_of_ble_eq_true rfl⟩) (fun r17 σ17 H locs hq17 hI => ?_)
        obtain ⟨hr17, hs17⟩ := hq17
        rw [hs17] at hI
        rw [hr17]
        refine lv_iconst (v := 2) S.1 S.2.1 dX4_rings_121 (by decide) ?_
        refine s_nw S hI hz15 (j := (13 + 5 * pq + 3)) (by omega) dX4_rings_122 (fun σ18 H locs ey18 hz18 hI => ?_)
        rw [upZ_3] at hz18
        refine lv_iconst (v := 1) S.1 S.2.1 dX4_rings_123 (by decide) ?_
        exact xt_z S hI hr hlk rfl (⟨by simp [rgR, rgB, cz_70, cz_76, cz_107], finM (by rw [ey18, ey15, ey6]; try rfl) (hz18.trans (by simp [rgD, rgB, cz_70, cz_76, cz_107]))⟩) (by decide) (by decide) dX4_rings_124
      · refine lv_iconst (v := 0) S.1 S.2.1 dX4_rings_110 (by decide) ?_
        exact xt_z S hI hr hlk rfl (⟨by simp [rgR, rgB, cz_70, cz_76, cz_107], finM (by rw [ey15, ey6]; try rfl) (hz15.trans (by simp [rgD, rgB, cz_70, cz_76, cz_107]))⟩) (by decide) (by decide) dX4_rings_111
set_option maxRecDepth 100000 in
set_option maxHeartbeats 4000000 in
theorem c_getOlder (l : Launch) (G : Gt) (σ : St) {th np : Int32} {mk lf nw kp : Nat → Int32} {pq : Nat} (hp : pq < 20) {a b c1 d1 e1 : Int32} (hm : gM σ = (th, np, mk, lf, putZ nw pq (a, b, c1, d1, e1), kp)) : Ct l G yX4_getOlder cX4_getOlder 2 none 2 0 0 [.ref (gB G 3), .int (nI pq)] σ (Qv G (fun σ' => σ' = setM σ (th, np, mk, lf, putZ nw pq (if d1 = 1 then (a, b, c1, d1, e1) else if lf pq ≤ c1 + 1 then (-1, b, c1 + 1, d1, 2) else (a, b, c1 + 1, d1, e1)), kp))) := by
  refine mt_intro (by decide +kernel) (Nat.le_of_ble_eq_true rfl) ?_
  intro p e s m below meth c S hr hlk hnm hI ls hl
  have hl : lv_has ls 2 [(0, .ref (gB G 3)), (1, .int (nI pq))] := hl
  refine lv_aload_n S.1 S.2.1 dX4_getOlder_0 rfl (lv_at hl 0 rfl) ?_
  refine g_X4_M_now S hI dX4_getOlder_1 ?_
  refine lv_iload_n S.1 S.2.1 dX4_getOlder_4 rfl (lv_at hl 1 rfl) ?_
  refine lv_iconst (v := 3) S.1 S.2.1 dX4_getOlder_5 (by decide) ?_
  refine cl_i hI (rnS (As := [.int (nI pq), .int 3]) (rest := [.ref (gB G 6)]) S hI (c_of l G _ pq 3) (cw_X4_X4_of S.2.2.2.2 ⟨Nat.le_of_ble_eq_true rfl, Nat.le_of_ble_eq_true rfl⟩) rfl hl.1 (Nat.le_of_ble_eq_true rfl) dX4_getOlder_6 ⟨Nat.le_of_ble_eq_true rfl, Nat.le_of_ble_eq_true rfl⟩) (fun r1 σ1 H locs hq1 hI => ?_)
  obtain ⟨hr1, hs1⟩ := hq1
  rw [hs1] at hI
  rw [hr1]
  refine a_nw S hI hm (j := (13 + 5 * pq + 3)) (by omega) dX4_getOlder_9 ?_
  rw [putZ_3]
  refine lv_iconst (v := 1) S.1 S.2.1 dX4_getOlder_10 (by decide) ?_
  refine lv_icmp_ne (tgt := 15) S.1 S.2.1 dX4_getOlder_11 (by decide) (fun cz_11 => ?_) (fun cz_11 => ?_)
  · refine lv_aload_n S.1 S.2.1 dX4_getOlder_15 rfl (lv_at hl 0 rfl) ?_
    refine g_X4_M_now S hI dX4_getOlder_16 ?_
    refine lv_iload_n S.1 S.2.1 dX4_getOlder_19 rfl (lv_at hl 1 rfl) ?_
    refine lv_iconst (v := 2) S.1 S.2.1 dX4_getOlder_20 (by decide) ?_
    refine cl_i hI (rnS (As := [.int (nI pq), .int 2]) (rest := [.ref (gB G 6)]) S hI (c_of l G _ pq 2) (cw_X4_X4_of S.2.2.2.2 ⟨Nat.le_of_ble_eq_true rfl, Nat.le_of_ble_eq_true rfl⟩) rfl hl.1 (Nat.le_of_ble_eq_true rfl) dX4_getOlder_21 ⟨Nat.le_of_ble_eq_true rfl, Nat.le_of_ble_eq_true rfl⟩) (fun r2 σ2 H locs hq2 hI => ?_)
    obtain ⟨hr2, hs2⟩ := hq2
    rw [hs2] at hI
    rw [hr2]
    refine lv_dup2_11 S.1 S.2.1 dX4_getOlder_24 rfl rfl ?_
    refine a_nw S hI hm (j := (13 + 5 * pq + 2)) (by omega) dX4_getOlder_25 ?_
    rw [putZ_2]
    refine lv_iconst (v := 1) S.1 S.2.1 dX4_getOlder_26 (by decide) ?_
    refine lv_iadd S.1 S.2.1 dX4_getOlder_27 ?_
    refine s_nw S hI hm (j := (13 + 5 * pq + 2)) (by omega) dX4_getOlder_28 (fun σ3 H locs ey3 hz3 hI => ?_)
    rw [upZ_2] at hz3
    refine lv_aload_n S.1 S.2.1 dX4_getOlder_29 rfl (lv_at hl 0 rfl) ?_
    refine g_X4_M_now S hI dX4_getOlder_30 ?_
    refine lv_iload_n S.1 S.2.1 dX4_getOlder_33 rfl (lv_at hl 1 rfl) ?_
    refine lv_iconst (v := 2) S.1 S.2.1 dX4_getOlder_34 (by decide) ?_
    refine cl_i hI (rnS (As := [.int (nI pq), .int 2]) (rest := [.ref (gB G 6)]) S hI (c_of l G _ pq 2) (cw_X4_X4_of S.2.2.2.2 ⟨Nat.le_of_ble_eq_true rfl, Nat.le_of_ble_eq_true rfl⟩) rfl hl.1 (Nat.le_of_ble_eq_true rfl) dX4_getOlder_35 ⟨Nat.le_of_ble_eq_true rfl, Nat.le_of_ble_eq_true rfl⟩) (fun r4 σ4 H locs hq4 hI => ?_)
    obtain ⟨hr4, hs4⟩ := hq4
    rw [hs4] at hI
    rw [hr4]
    refine a_nw S hI hz3 (j := (13 + 5 * pq + 2)) (by omega) dX4_getOlder_38 ?_
    rw [putZ_2]
    refine lv_aload_n S.1 S.2.1 dX4_getOlder_39 rfl (lv_at hl 0 rfl) ?_
    refine g_X4_M_life S hI dX4_getOlder_40 ?_
    refine lv_iload_n S.1 S.2.1 dX4_getOlder_43 rfl (lv_at hl 1 rfl) ?_
    refine a_lf S hI hz3 (j := pq) (by omega) dX4_getOlder_44 ?_
    refine lv_icmp_ge (tgt := 49) S.1 S.2.1 dX4_getOlder_45 (by decide) (fun cz_45 => ?_) (fun cz_45 => ?_)
    · refine lv_aload_n S.1 S.2.1 dX4_getOlder_49 rfl (lv_at hl 0 rfl) ?_
      refine g_X4_M_now S hI dX4_getOlder_50 ?_
      refine lv_iload_n S.1 S.2.1 dX4_getOlder_53 rfl (lv_at hl 1 rfl) ?_
      refine lv_iconst (v := 0) S.1 S.2.1 dX4_getOlder_54 (by decide) ?_
      refine cl_i hI (rnS (As := [.int (nI pq), .int 0]) (rest := [.ref (gB G 6)]) S hI (c_of l G _ pq 0) (cw_X4_X4_of S.2.2.2.2 ⟨Nat.le_of_ble_eq_true rfl, Nat.le_of_ble_eq_true rfl⟩) rfl hl.1 (Nat.le_of_ble_eq_true rfl) dX4_getOlder_55 ⟨Nat.le_of_ble_eq_true rfl, Nat.le_of_ble_eq_true rfl⟩) (fun r5 σ5 H locs hq5 hI => ?_)
      obtain ⟨hr5, hs5⟩ := hq5
      rw [hs5] at hI
      rw [hr5]
      refine lv_iconst (v := (-1)) S.1 S.2.1 dX4_getOlder_58 (by decide) ?_
      refine s_nw S hI hz3 (j := (13 + 5 * pq + 0)) (by omega) dX4_getOlder_59 (fun σ6 H locs ey6 hz6 hI => ?_)
      rw [upZ_0] at hz6
      refine lv_aload_n S.1 S.2.1 dX4_getOlder_60 rfl (lv_at hl 0 rfl) ?_
      refine g_X4_M_now S hI dX4_getOlder_61 ?_
      refine lv_iload_n S.1 S.2.1 dX4_getOlder_64 rfl (lv_at hl 1 rfl) ?_
      refine lv_iconst (v := 4) S.1 S.2.1 dX4_getOlder_65 (by decide) ?_
      refine cl_i hI (rnS (As := [.int (nI pq), .int 4]) (rest := [.ref (gB G 6)]) S hI (c_of l G _ pq 4) (cw_X4_X4_of S.2.2.2.2 ⟨Nat.le_of_ble_eq_true rfl, Nat.le_of_ble_eq_true rfl⟩) rfl hl.1 (Nat.le_of_ble_eq_true rfl) dX4_getOlder_66 ⟨Nat.le_of_ble_eq_true rfl, Nat.le_of_ble_eq_true rfl⟩) (fun r7 σ7 H locs hq7 hI => ?_)
      obtain ⟨hr7, hs7⟩ := hq7
      rw [hs7] at hI
      rw [hr7]
      refine lv_iconst (v := 2) S.1 S.2.1 dX4_getOlder_69 (by decide) ?_
      refine s_nw S hI hz6 (j := (13 + 5 * pq + 4)) (by omega) dX4_getOlder_70 (fun σ8 H locs ey8 hz8 hI => ?_)
      rw [upZ_4] at hz8
      exact xt_v S hI hr hlk (by rw [if_neg cz_11]; rw [if_pos cz_45]; exact finM (by rw [ey8, ey6, ey3]; try rfl) hz8) (by decide) (by decide) dX4_getOlder_71
    · exact xt_v S hI hr hlk (by rw [if_neg cz_11]; rw [if_neg cz_45]; exact finM (by rw [ey3]; try rfl) hz3) (by decide) (by decide) dX4_getOlder_48
  · exact xt_v S hI hr hlk (by rw [if_pos cz_11, ← hm]; rfl) (by decide) (by decide) dX4_getOlder_14
