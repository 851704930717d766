abbrev Qd (G : Gt) (post : UInt64 → St → Prop) := va_Qd post (We G) (gA G)
section MEAN
variable {p : Program} {l : Launch} {e : Env} {R : Room} {s : State} {m : MethodId} {args : Array Value} {below : List Frame} {meth : Method} {c : Code} {H : Heap} {locs : List Loc} {cells slots mc ms : Nat} {Q : State → Prop}
variable {cc : ByteArray} {pc nL : Nat} {ls : Array Slot} {rest : List Value} {G : Gt} {σ : St} {own : String}
theorem xt_d {v : UInt64} {σ' : St} {post : UInt64 → St → Prop} (S : CallFix p m c cc nL s args AL own) (hI : Iv G σ' s H locs) (hr : meth.sig.returnType = some .double) (hlk : meth.locks = false) (hp : post v σ') (hc : cells ≤ mc) (hs : slots ≤ ms) (hdg : decode cc pc = .ok (.dreturn, 1)) :
    W p l e R s m args below meth c H locs cells slots (MQ below (Qd G post) args s mc ms (gA G)) (F0 m pc ls [.double v]) :=
  W.widen hc hs (W.dret S.1 S.2.1 hr (fun t ht _ => ⟨⟨v, σ', rfl, hp, by unfold We; rw [ht]; exact hI.2.1⟩, hI.2.2.F ht⟩) hI.2.2.2.2 hdg hlk)
theorem cl_d {post : UInt64 → St → Prop} {st0 : List Value} {a : Array Value} (hI : Iv G σ s H locs) (hr : va_Run p l e R s m args below meth c H locs cells slots mc ms (F0 m pc ls st0) rest (Qd G post a) (gA G))
    (kk : ∀ (r : UInt64) (σ' : St) (H1 : Heap) (locs1 : List Loc), post r σ' → Iv G σ' s H1 locs1 → W p l e R s m args below meth c H1 locs1 (cells + mc) (slots + ms) Q (F0 m (pc + 3) ls (.double r :: rest))) : W p l e R s m args below meth c H locs cells slots Q (F0 m pc ls st0) :=
  va_calld hr hI.2.2 (fun _ _ h => h) (fun _ h => h) (fun r u t H1 locs1 ht _ hp hb _ _ hS => kk r u H1 locs1 hp ⟨hI.1, by rw [← ht]; exact hb, hS⟩)
end MEAN
/-- a whole number by a whole number that isn't 0 is a number -/
def FLn : Prop := ∀ a b : Int32, ¬ b = 0 → vf_n64 (FP.ddiv (FP.i2d a) (FP.i2d b))
def mnS (σ : St) : Nat → Int32 := fun i => if (gP σ i).2.1 < 6 then (gP σ i).2.2.2.2.2 else 0
def mnC (σ : St) : Nat → Int32 := fun i => if (gP σ i).2.1 < 6 then 1 else 0
def meanF (σ : St) : UInt64 := if sumN (mnC σ) 20 = 0 then FP.dconst0 else FP.ddiv (FP.i2d (sumN (mnS σ) 20)) (FP.i2d (sumN (mnC σ) 20))
theorem Pic.mean {α : St} {n : Nat} {mk lf nw : Nat → Int32} (h : Pic α n mk lf nw) : sumN (mnS α) 20 = sumN (mnS α) n ∧ sumN (mnC α) 20 = sumN (mnC α) n :=
  ⟨sumN_tail h.1 (fun i h1 h2 => if_neg (by have := (h.2.2.2.2.2 i h1 h2).2; omega)), sumN_tail h.1 (fun i h1 h2 => if_neg (by have := (h.2.2.2.2.2 i h1 h2).2; omega))⟩
set_option maxRecDepth 100000 in
set_option maxHeartbeats 4000000 in
theorem c_meanHeat (l : Launch) (G : Gt) (σ : St) (hfl : FLn) : Ct l G yX3_meanHeat cX3_meanHeat 7 (some .double) 2 0 0 [.ref (gB G 0)] σ (Qd G (fun r σ' => r = meanF σ ∧ σ' = σ)) := by
  refine mt_intro (by decide +kernel) (Nat.le_of_ble_eq_true rfl) ?_
  intro p e s m below meth c S hr hlk hnm hI ls hl
  have hl : lv_has ls 7 [(0, .ref (gB G 0))] := hl
  have loop : ∀ (n : Nat) (k : Nat), k + n = 20 → ∀ (H : Heap) (locs : List Loc), Iv G σ s H locs → ∀ ls : Array Slot, lv_has ls 7 [(0, .ref (gB G 0)), (1, .int (sumN (mnS σ) k)), (2, .int (sumN (mnC σ) k)), (3, .ref (gB G 2)), (4, .int (nI 20)), (5, .int (nI k))] → W p l e (rm 2 0 0) s m ([.ref (gB G 0)] : List Value).toArray below meth c H locs 0 0 (MQ below (Qd G (fun r σ' => r = meanF σ ∧ σ' = σ)) ([.ref (gB G 0)] : List Value).toArray s 0 0 (gA G)) (F0 m 16 ls []) := by
    intro n
    induction n with
    | zero =>
      intro k hk0 H locs hI ls hl
      obtain rfl : k = 20 := by omega
      refine lv_iload S.1 S.2.1 dX3_meanHeat_16 (lv_at hl 5 rfl) ?_
      refine lv_iload S.1 S.2.1 dX3_meanHeat_18 (lv_at hl 4 rfl) ?_
      refine lv_icmp_ge (tgt := 54) S.1 S.2.1 dX3_meanHeat_20 (by decide) (fun cz_20 => ?_) (fun c9 => absurd (nI_le (Nat.le_refl 20) (by omega)) c9)
      refine lv_iload_n S.1 S.2.1 dX3_meanHeat_54 rfl (lv_at hl 2 rfl) ?_
      refine lv_if_ne (tgt := 62) S.1 S.2.1 dX3_meanHeat_55 (by decide) (fun cz_55 => ?_) (fun cz_55 => ?_)
      · refine lv_iload_n S.1 S.2.1 dX3_meanHeat_62 rfl (lv_at hl 1 rfl) ?_
        refine lv_i2d S.1 S.2.1 dX3_meanHeat_63 ?_
        refine lv_iload_n S.1 S.2.1 dX3_meanHeat_64 rfl (lv_at hl 2 rfl) ?_
        refine lv_i2d S.1 S.2.1 dX3_meanHeat_65 ?_
        refine lv_ddiv S.1 S.2.1 dX3_meanHeat_66 (hfl _ _ cz_55) ?_
        exact xt_d S hI hr hlk (⟨(if_neg cz_55).symm, rfl⟩) (by decide) (by decide) dX3_meanHeat_67
      · refine lv_dconst0 S.1 S.2.1 dX3_meanHeat_58 ?_
        refine lv_goto (tgt := 67) S.1 S.2.1 dX3_meanHeat_59 (by decide) ?_
        exact xt_d S hI hr hlk (⟨(if_pos cz_55).symm, rfl⟩) (by decide) (by decide) dX3_meanHeat_67
    | succ n ih =>
      intro k hk0 H locs hI ls hl
      have hk2 : k < 20 := by omega
      refine lv_iload S.1 S.2.1 dX3_meanHeat_16 (lv_at hl 5 rfl) ?_
      refine lv_iload S.1 S.2.1 dX3_meanHeat_18 (lv_at hl 4 rfl) ?_
      refine lv_icmp_ge (tgt := 54) S.1 S.2.1 dX3_meanHeat_20 (by decide) (fun c9 => absurd c9 (nI_ge hk2 (by omega))) (fun cz_20 => ?_)
      refine lv_aload_n S.1 S.2.1 dX3_meanHeat_23 rfl (lv_at hl 3 rfl) ?_
      refine lv_iload S.1 S.2.1 dX3_meanHeat_24 (lv_at hl 5 rfl) ?_
      refine a_PA S hI hk2 dX3_meanHeat_26 ?_
      refine lv_astore (lv' := [(6, .ref (gB G (15 + k))), (0, .ref (gB G 0)), (1, .int (sumN (mnS σ) k)), (2, .int (sumN (mnC σ) k)), (3, .ref (gB G 2)), (4, .int (nI 20)), (5, .int (nI k))]) S.1 S.2.1 dX3_meanHeat_27 hl (by decide) rfl (fun ls hl => ?_)
      refine lv_aload S.1 S.2.1 dX3_meanHeat_29 (lv_at hl 0 rfl) ?_
      refine g_X3_P_shelf_r S hI (by omega) (pEta (gP σ k)) dX3_meanHeat_31 ?_
      refine nn_no S (tgt := 48) dX3_meanHeat_34 (by decide) (fun cz_34 => ?_) (fun cz_34 => ?_)
      · refine lv_iinc (v := (nI (k + 1))) (lv' := [(5, .int (nI (k + 1))), (6, .ref (gB G (15 + k))), (0, .ref (gB G 0)), (1, .int (sumN (mnS σ) k)), (2, .int (sumN (mnC σ) k)), (3, .ref (gB G 2)), (4, .int (nI 20))]) S.1 S.2.1 dX3_meanHeat_48 hl (k := 6) rfl (nI_1 k) (by decide) rfl (fun ls hl => ?_)
        refine lv_goto (tgt := 16) S.1 S.2.1 dX3_meanHeat_51 (by decide) ?_
        exact ih (k + 1) (by omega) _ _ hI ls (by rw [show sumN (mnS σ) (k + 1) = (sumN (mnS σ) k) from by simp [sumN_s, mnS, cz_34], show sumN (mnC σ) (k + 1) = (sumN (mnC σ) k) from by simp [sumN_s, mnC, cz_34]]; exact lv_sub hl [2, 3, 4, 5, 6, 0] rfl)
      · refine lv_iload_n S.1 S.2.1 dX3_meanHeat_37 rfl (lv_at hl 2 rfl) ?_
        refine lv_aload S.1 S.2.1 dX3_meanHeat_38 (lv_at hl 0 rfl) ?_
        refine g_X3_P_heat S hI (by omega) (pEta (gP σ k)) dX3_meanHeat_40 ?_
        refine lv_iadd S.1 S.2.1 dX3_meanHeat_43 ?_
        refine lv_istore_n (lv' := [(1, .int ((sumN (mnS σ) k) + (gP σ k).2.2.2.2.2)), (6, .ref (gB G (15 + k))), (0, .ref (gB G 0)), (2, .int (sumN (mnC σ) k)), (3, .ref (gB G 2)), (4, .int (nI 20)), (5, .int (nI k))]) S.1 S.2.1 dX3_meanHeat_44 rfl hl (by decide) rfl (fun ls hl => ?_)
        refine lv_iinc (v := ((sumN (mnC σ) k) + 1)) (lv' := [(2, .int ((sumN (mnC σ) k) + 1)), (1, .int ((sumN (mnS σ) k) + (gP σ k).2.2.2.2.2)), (6, .ref (gB G (15 + k))), (0, .ref (gB G 0)), (3, .ref (gB G 2)), (4, .int (nI 20)), (5, .int (nI k))]) S.1 S.2.1 dX3_meanHeat_45 hl (k := 3) rfl rfl (by decide) rfl (fun ls hl => ?_)
        refine lv_iinc (v := (nI (k + 1))) (lv' := [(5, .int (nI (k + 1))), (2, .int ((sumN (mnC σ) k) + 1)), (1, .int ((sumN (mnS σ) k) + (gP σ k).2.2.2.2.2)), (6, .ref (gB G (15 + k))), (0, .ref (gB G 0)), (3, .ref (gB G 2)), (4, .int (nI 20))]) S.1 S.2.1 dX3_meanHeat_48 hl (k := 6) rfl (nI_1 k) (by decide) rfl (fun ls hl => ?_)
        refine lv_goto (tgt := 16) S.1 S.2.1 dX3_meanHeat_51 (by decide) ?_
        exact ih (k + 1) (by omega) _ _ hI ls (by rw [show sumN (mnS σ) (k + 1) = ((sumN (mnS σ) k) + (gP σ k).2.2.2.2.2) from by simp [sumN_s, mnS, cz_34], show sumN (mnC σ) (k + 1) = ((sumN (mnC σ) k) + 1) from by simp [sumN_s, mnC, cz_34]]; exact lv_sub hl [4, 2, 1, 5, 6, 0] rfl)
  refine lv_iconst (v := 0) S.1 S.2.1 dX3_meanHeat_0 (by decide) ?_
  refine lv_istore_n (lv' := [(1, .int 0), (0, .ref (gB G 0))]) S.1 S.2.1 dX3_meanHeat_1 rfl hl (by decide) rfl (fun ls hl => ?_)
  refine lv_iconst (v := 0) S.1 S.2.1 dX3_meanHeat_2 (by decide) ?_
  refine lv_istore_n (lv' := [(2, .int 0), (1, .int 0), (0, .ref (gB G 0))]) S.1 S.2.1 dX3_meanHeat_3 rfl hl (by decide) rfl (fun ls hl => ?_)
  refine lv_aload_n S.1 S.2.1 dX3_meanHeat_4 rfl (lv_at hl 2 rfl) ?_
  refine g_X3_X_promises S hI dX3_meanHeat_5 ?_
  refine lv_astore_n (lv' := [(3, .ref (gB G 2)), (2, .int 0), (1, .int 0), (0, .ref (gB G 0))]) S.1 S.2.1 dX3_meanHeat_8 rfl hl (by decide) rfl (fun ls hl => ?_)
  refine lv_aload_n S.1 S.2.1 dX3_meanHeat_9 rfl (lv_at hl 0 rfl) ?_
  refine n_PA S hI dX3_meanHeat_10 ?_
  refine lv_istore (lv' := [(4, .int (nI 20)), (3, .ref (gB G 2)), (2, .int 0), (1, .int 0), (0, .ref (gB G 0))]) S.1 S.2.1 dX3_meanHeat_11 hl (by decide) rfl (fun ls hl => ?_)
  refine lv_iconst (v := (nI 0)) S.1 S.2.1 dX3_meanHeat_13 (by rfl) ?_
  refine lv_istore (lv' := [(5, .int (nI 0)), (4, .int (nI 20)), (3, .ref (gB G 2)), (2, .int 0), (1, .int 0), (0, .ref (gB G 0))]) S.1 S.2.1 dX3_meanHeat_14 hl (by decide) rfl (fun ls hl => ?_)
  exact loop 20 0 rfl _ _ hI ls (lv_sub hl [5, 4, 3, 2, 1, 0] rfl)
set_option maxRecDepth 100000 in
set_option maxHeartbeats 4000000 in
theorem m_meanHeat (l : Launch) (G : Gt) (σ : St) {α : St} {n : Nat} {th : Int32} {mk lf nw kp : Nat → Int32} (hm : gM σ = (th, nI n, mk, lf, nw, kp)) (hpic : Pic α n mk lf nw) (hfl : FLn) : Ct l G yX4_meanHeat cX4_meanHeat 4 (some .double) 4 0 0 [.ref (gB G 3)] σ (Qd G (fun r σ' => r = meanF α ∧ Mq σ α 0 n σ')) := by
  refine mt_intro (by decide +kernel) (Nat.le_of_ble_eq_true rfl) ?_
  intro p e s m below meth c S hr hlk hnm hI ls hl
  have hl : lv_has ls 4 [(0, .ref (gB G 3))] := hl
  have hn20 := hpic.1
  have loop : ∀ (n1 : Nat) (k : Nat), k + n1 = n → ∀ (H : Heap) (locs : List Loc), Iv G (setM σ (0, nI n, mk, lf, nw, kp)) s H locs → ∀ ls : Array Slot, lv_has ls 4 [(0, .ref (gB G 3)), (1, .int (sumN (mnS α) k)), (2, .int (sumN (mnC α) k)), (3, .int (nI k))] → W p l e (rm 4 0 0) s m ([.ref (gB G 3)] : List Value).toArray below meth c H locs 0 0 (MQ below (Qd G (fun r σ' => r = meanF α ∧ Mq σ α 0 n σ')) ([.ref (gB G 3)] : List Value).toArray s 0 0 (gA G)) (F0 m 11 ls []) := by
    intro n1
    induction n1 with
    | zero =>
      intro k hk0 H locs hI ls hl
      obtain rfl : k = n := by omega
      refine lv_iload_n S.1 S.2.1 dX4_meanHeat_11 rfl (lv_at hl 3 rfl) ?_
      refine lv_aload_n S.1 S.2.1 dX4_meanHeat_12 rfl (lv_at hl 0 rfl) ?_
      refine g_X4_M_promises S hI (show gM (setM σ (0, nI k, mk, lf, nw, kp)) = (0, nI k, mk, lf, nw, kp) from rfl) dX4_meanHeat_13 ?_
      refine lv_icmp_ge (tgt := 52) S.1 S.2.1 dX4_meanHeat_16 (by decide) (fun cz_16 => ?_) (fun c9 => absurd (nI_le (Nat.le_refl k) (by omega)) c9)
      refine lv_iload_n S.1 S.2.1 dX4_meanHeat_52 rfl (lv_at hl 2 rfl) ?_
      refine lv_if_ne (tgt := 60) S.1 S.2.1 dX4_meanHeat_53 (by decide) (fun cz_53 => ?_) (fun cz_53 => ?_)
      · refine lv_iload_n S.1 S.2.1 dX4_meanHeat_60 rfl (lv_at hl 1 rfl) ?_
        refine lv_i2d S.1 S.2.1 dX4_meanHeat_61 ?_
        refine lv_iload_n S.1 S.2.1 dX4_meanHeat_62 rfl (lv_at hl 2 rfl) ?_
        refine lv_i2d S.1 S.2.1 dX4_meanHeat_63 ?_
        refine lv_ddiv S.1 S.2.1 dX4_meanHeat_64 (hfl _ _ cz_53) ?_
        exact xt_d S hI hr hlk (⟨by unfold meanF; rw [hpic.mean.1, hpic.mean.2]; exact (if_neg cz_53).symm, mk, lf, nw, kp, rfl, hpic⟩) (by decide) (by decide) dX4_meanHeat_65
      · refine lv_dconst0 S.1 S.2.1 dX4_meanHeat_56 ?_
        refine lv_goto (tgt := 65) S.1 S.2.1 dX4_meanHeat_57 (by decide) ?_
        exact xt_d S hI hr hlk (⟨by unfold meanF; rw [hpic.mean.1, hpic.mean.2]; exact (if_pos cz_53).symm, mk, lf, nw, kp, rfl, hpic⟩) (by decide) (by decide) dX4_meanHeat_65
    | succ n1 ih =>
      intro k hk0 H locs hI ls hl
      have hk2 : k < n := by omega
      have hh9 : nw (13 + 5 * k + 1) = (gP α k).2.2.2.2.2 := (hpic.2.2.2.2.1 k hk2).2.2.1
      refine lv_iload_n S.1 S.2.1 dX4_meanHeat_11 rfl (lv_at hl 3 rfl) ?_
      refine lv_aload_n S.1 S.2.1 dX4_meanHeat_12 rfl (lv_at hl 0 rfl) ?_
      refine g_X4_M_promises S hI (show gM (setM σ (0, nI n, mk, lf, nw, kp)) = (0, nI n, mk, lf, nw, kp) from rfl) dX4_meanHeat_13 ?_
      refine lv_icmp_ge (tgt := 52) S.1 S.2.1 dX4_meanHeat_16 (by decide) (fun c9 => absurd c9 (nI_ge hk2 (by omega))) (fun cz_16 => ?_)
      refine lv_aload_n S.1 S.2.1 dX4_meanHeat_19 rfl (lv_at hl 0 rfl) ?_
      refine lv_iload_n S.1 S.2.1 dX4_meanHeat_20 rfl (lv_at hl 3 rfl) ?_
      refine cl_i hI (rnV (As := [.int (nI k)]) (rest := []) S hI (c_lies l G _ (pq := k) (show gM (setM σ (0, nI n, mk, lf, nw, kp)) = (0, nI n, mk, lf, nw, kp) from rfl) (by omega)) (cw_X4_X4_lies S.2.2.2.2 ⟨Nat.le_of_ble_eq_true rfl, Nat.le_of_ble_eq_true rfl⟩) (rcM hI) rfl hl.1 (Nat.le_of_ble_eq_true rfl) dX4_meanHeat_21 ⟨Nat.le_of_ble_eq_true rfl, Nat.le_of_ble_eq_true rfl⟩) (fun r1 σ1 H locs hq1 hI => ?_)
      obtain ⟨hr1, hs1⟩ := hq1
      rw [hs1] at hI
      rw [hr1, hpic.lieI (q := k) (by omega)]
      refine lv_if_ne (tgt := 30) S.1 S.2.1 dX4_meanHeat_24 (by decide) (fun cz_24 => ?_) (fun cz_24 => ?_)
      · refine lv_iload_n S.1 S.2.1 dX4_meanHeat_30 rfl (lv_at hl 1 rfl) ?_
        refine lv_aload_n S.1 S.2.1 dX4_meanHeat_31 rfl (lv_at hl 0 rfl) ?_
        refine g_X4_M_now S hI dX4_meanHeat_32 ?_
        refine lv_iload_n S.1 S.2.1 dX4_meanHeat_35 rfl (lv_at hl 3 rfl) ?_
        refine lv_iconst (v := 1) S.1 S.2.1 dX4_meanHeat_36 (by decide) ?_
        refine cl_i hI (rnS (As := [.int (nI k), .int 1]) (rest := [.ref (gB G 6), .int (sumN (mnS α) k)]) S hI (c_of l G _ k 1) (cw_X4_X4_of S.2.2.2.2 ⟨Nat.le_of_ble_eq_true rfl, Nat.le_of_ble_eq_true rfl⟩) rfl hl.1 (Nat.le_of_ble_eq_true rfl) dX4_meanHeat_37 ⟨Nat.le_of_ble_eq_true rfl, Nat.le_of_ble_eq_true rfl⟩) (fun r2 σ2 H locs hq2 hI => ?_)
        obtain ⟨hr2, hs2⟩ := hq2
        rw [hs2] at hI
        rw [hr2]
        refine a_nw S hI (show gM (setM σ (0, nI n, mk, lf, nw, kp)) = (0, nI n, mk, lf, nw, kp) from rfl) (j := (13 + 5 * k + 1)) (by omega) dX4_meanHeat_40 ?_
        rw [show (nw (13 + 5 * k + 1)) = (gP α k).2.2.2.2.2 from hh9]
        refine lv_iadd S.1 S.2.1 dX4_meanHeat_41 ?_
        refine lv_istore_n (lv' := [(1, .int ((sumN (mnS α) k) + (gP α k).2.2.2.2.2)), (0, .ref (gB G 3)), (2, .int (sumN (mnC α) k)), (3, .int (nI k))]) S.1 S.2.1 dX4_meanHeat_42 rfl hl (by decide) rfl (fun ls hl => ?_)
        refine lv_iinc (v := ((sumN (mnC α) k) + 1)) (lv' := [(2, .int ((sumN (mnC α) k) + 1)), (1, .int ((sumN (mnS α) k) + (gP α k).2.2.2.2.2)), (0, .ref (gB G 3)), (3, .int (nI k))]) S.1 S.2.1 dX4_meanHeat_43 hl (k := 2) rfl rfl (by decide) rfl (fun ls hl => ?_)
        refine lv_iinc (v := (nI (k + 1))) (lv' := [(3, .int (nI (k + 1))), (2, .int ((sumN (mnC α) k) + 1)), (1, .int ((sumN (mnS α) k) + (gP α k).2.2.2.2.2)), (0, .ref (gB G 3))]) S.1 S.2.1 dX4_meanHeat_46 hl (k := 3) rfl (nI_1 k) (by decide) rfl (fun ls hl => ?_)
        refine lv_goto (tgt := 11) S.1 S.2.1 dX4_meanHeat_49 (by decide) ?_
        exact ih (k + 1) (by omega) _ _ hI ls (by rw [show sumN (mnS α) (k + 1) = ((sumN (mnS α) k) + (gP α k).2.2.2.2.2) from by simp [sumN_s, mnS, ite01Q cz_24], show sumN (mnC α) (k + 1) = ((sumN (mnC α) k) + 1) from by simp [sumN_s, mnC, ite01Q cz_24]]; exact lv_sub hl [3, 2, 1, 0] rfl)
      · refine lv_goto (tgt := 46) S.1 S.2.1 dX4_meanHeat_27 (by decide) ?_
        refine lv_iinc (v := (nI (k + 1))) (lv' := [(3, .int (nI (k + 1))), (0, .ref (gB G 3)), (1, .int (sumN (mnS α) k)), (2, .int (sumN (mnC α) k))]) S.1 S.2.1 dX4_meanHeat_46 hl (k := 3) rfl (nI_1 k) (by decide) rfl (fun ls hl => ?_)
        refine lv_goto (tgt := 11) S.1 S.2.1 dX4_meanHeat_49 (by decide) ?_
        exact ih (k + 1) (by omega) _ _ hI ls (by rw [show sumN (mnS α) (k + 1) = (sumN (mnS α) k) from by simp [sumN_s, mnS, ite01P cz_24], show sumN (mnC α) (k + 1) = (sumN (mnC α) k) from by simp [sumN_s, mnC, ite01P cz_24]]; exact lv_sub hl [1, 2, 3, 0] rfl)
  refine lv_aload_n S.1 S.2.1 dX4_meanHeat_0 rfl (lv_at hl 0 rfl) ?_
  refine lv_iconst (v := 0) S.1 S.2.1 dX4_meanHeat_1 (by decide) ?_
  refine p_X4_M_thrown S hI hm dX4_meanHeat_2 (fun σ1 H locs ey1 hz1 hI => ?_)
  refine lv_iconst (v := 0) S.1 S.2.1 dX4_meanHeat_5 (by decide) ?_
  refine lv_istore_n (lv' := [(1, .int 0), (0, .ref (gB G 3))]) S.1 S.2.1 dX4_meanHeat_6 rfl hl (by decide) rfl (fun ls hl => ?_)
  refine lv_iconst (v := 0) S.1 S.2.1 dX4_meanHeat_7 (by decide) ?_
  refine lv_istore_n (lv' := [(2, .int 0), (1, .int 0), (0, .ref (gB G 3))]) S.1 S.2.1 dX4_meanHeat_8 rfl hl (by decide) rfl (fun ls hl => ?_)
  refine lv_iconst (v := (nI 0)) S.1 S.2.1 dX4_meanHeat_9 (by rfl) ?_
  refine lv_istore_n (lv' := [(3, .int (nI 0)), (2, .int 0), (1, .int 0), (0, .ref (gB G 3))]) S.1 S.2.1 dX4_meanHeat_10 rfl hl (by decide) rfl (fun ls hl => ?_)
  rw [ey1] at hI
  exact loop n 0 (by omega) _ _ hI ls (lv_sub hl [3, 2, 1, 0] rfl)
