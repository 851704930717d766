/-- the reference's row at its start -/
def nwI : Nat → Nat → Int32
  | 0 => va_up (fun _ => 0) 1 1
  | k + 1 => va_up (va_up (nwI k) (3 + 2 * k + 0) (-18)) (3 + 2 * k + 1) (-18)
abbrev KM : Type := (ClassId × ClassId × ClassId × ClassId) × (Nat × Nat × Nat × Nat)
abbrev iv (cA : ClassId) (n : Nat) (f : Nat → Int32) : va_E := .inl (cA, n, .inl f)
abbrev mM (a1 a2 a3 a4 : Nat) : va_E := .inr (3, [.int 0, .int 0, .ref a1, .ref a2, .ref a3, .ref a4])
abbrev ml (h0 : Nat) (u : KM) (nw : Nat → Int32) : va_W := [(h0, mM u.2.1 u.2.2.1 u.2.2.2.1 u.2.2.2.2), (u.2.1, iv u.1.1 20 (fun _ => 0)), (u.2.2.1, iv u.1.2.1 20 (fun _ => 0)), (u.2.2.2.1, iv u.1.2.2.1 113 nw), (u.2.2.2.2, iv u.1.2.2.2 113 (fun _ => 0))]
def KMB (D : va_G) (h0 : Nat) (A : Nat → Prop) (u : KM) (t : State) : Prop :=
  va_P D vwCl (ml h0 u (nwI 5)) t.heap ∧ va_D A (ml h0 u (nwI 5)) ∧ va_K D vwCl [(u.1.1, .int), (u.1.2.1, .int), (u.1.2.2.1, .int), (u.1.2.2.2, .int)] t
abbrev QM (D : va_G) (h0 : Nat) (A : Nat → Prop) := va_Qv (fun _ : KM => True) (KMB D h0 A) A
abbrev noA : Nat → Prop := fun _ => False
set_option maxRecDepth 100000 in
set_option maxHeartbeats 4000000 in
theorem k_shelf (l : Launch) (pq w : Nat) : Met l yX4_shelf (.code yX4_shelf cX4_shelf 2 (some .int) :: AL) (rm 1 0 0) (va_Pc [.int (nI pq), .int (nI w)] (fun _ => True)) (va_Qi (fun r (_ : Unit) => r = nI (3 + 2 * pq + w)) (fun _ _ => True) noA) 0 0 noA := by
  refine mt_raw (by decide +kernel) (Nat.le_of_ble_eq_true rfl) ?_
  intro p e s m below meth c S hr hlk hnm hPw ls hl
  have hl : lv_has ls 2 [(0, .int (nI pq)), (1, .int (nI w))] := hl
  have hS : va_S noA s.heap s.heap [] := va_S.rf
  refine lv_iconst (v := 3) S.1 S.2.1 dX4_shelf_0 (by decide) ?_
  refine lv_iconst (v := 2) S.1 S.2.1 dX4_shelf_1 (by decide) ?_
  refine lv_iload_n S.1 S.2.1 dX4_shelf_2 rfl (lv_at hl 0 rfl) ?_
  refine lv_imul S.1 S.2.1 dX4_shelf_3 ?_
  refine lv_iadd S.1 S.2.1 dX4_shelf_4 ?_
  refine lv_iload_n S.1 S.2.1 dX4_shelf_5 rfl (lv_at hl 1 rfl) ?_
  refine lv_iadd S.1 S.2.1 dX4_shelf_6 ?_
  exact W.iret S.1 S.2.1 hr (fun t ht _ => ⟨⟨_, (), rfl, (by rw [show (3 : Int32) = nI 3 from rfl, show (2 : Int32) = nI 2 from rfl, pk_mul, nI_add, nI_add]), trivial⟩, hS.F ht⟩) hS.2.2 dX4_shelf_7 hlk
theorem k_shelf_pc {pq w : Nat} : FrameBlind (va_Pc [.int (nI pq), .int (nI w)] (fun _ => True)) := fun _ _ _ _ h => h
section KM
variable {p : Program} {l : Launch} {e : Env} {s : State} {m : MethodId} {below : List Frame} {meth : Method} {c : Code}
variable {D : va_G} {h0 : Nat} {A : Nat → Prop} {c1 c2 c3 c4 : ClassId} {q1 q2 q3 q4 : Nat}
set_option maxRecDepth 100000 in
set_option maxHeartbeats 4000000 in
theorem km_L (S : CallFix p m c cX4_init 2 s ([.ref h0] : List Value).toArray AL RX4) (hr : meth.sig.returnType = none) (hlk : meth.locks = false) (hK : va_K D vwCl [(c1, .int), (c2, .int), (c3, .int), (c4, .int)] s) : ∀ (n9 k : Nat), k + n9 = 5 → ∀ (H : Heap) (locs : List Loc), va_P D vwCl [(h0, mM q1 q2 q3 q4), (q1, iv c1 20 (fun _ => 0)), (q2, iv c2 20 (fun _ => 0)), (q3, iv c3 113 (nwI k)), (q4, iv c4 113 (fun _ => 0))] H → va_D A [(h0, mM q1 q2 q3 q4), (q1, iv c1 20 (fun _ => 0)), (q2, iv c2 20 (fun _ => 0)), (q3, iv c3 113 (nwI k)), (q4, iv c4 113 (fun _ => 0))] → va_S A s.heap H locs → ∀ ls : Array Slot, lv_has ls 2 [(0, .ref h0), (1, .int (nI k))] → W p l e (rm 2 4 266) s m ([.ref h0] : List Value).toArray below meth c H locs 4 266 (MQ below (QM D h0 A) ([.ref h0] : List Value).toArray s 4 266 A) (F0 m 45 ls []) := by
  intro n9
  induction n9 with
  | zero =>
    intro k hk0 H locs hP hD hS ls hl
    obtain rfl : k = 5 := by omega
    refine lv_iload_n S.1 S.2.1 dX4_init_45 rfl (lv_at hl 1 rfl) ?_
    refine lv_iconst (v := 5) S.1 S.2.1 dX4_init_46 (by decide) ?_
    refine lv_icmp_ge (tgt := 80) S.1 S.2.1 dX4_init_47 (by decide) (fun cz_47 => ?_) (fun c9 => absurd (nI_le (a := 5) (b := 5) (Nat.le_refl 5) (by omega)) c9)
    exact W.vret S.1 S.2.1 hr (fun t ht hW => ⟨⟨((c1, c2, c3, c4), (q1, q2, q3, q4)), rfl, trivial, (by show va_P D vwCl _ t.heap; rw [ht]; exact hP), hD, va_K.moved hW.alike hK⟩, hS.F ht⟩) hS.2.2 dX4_init_80 hlk
  | succ n9 ih =>
    intro k hk0 H locs hP hD hS ls hl
    have hk2 : k < 5 := by omega
    refine lv_iload_n S.1 S.2.1 dX4_init_45 rfl (lv_at hl 1 rfl) ?_
    refine lv_iconst (v := 5) S.1 S.2.1 dX4_init_46 (by decide) ?_
    refine lv_icmp_ge (tgt := 80) S.1 S.2.1 dX4_init_47 (by decide) (fun c9 => absurd c9 (nI_ge (b := 5) hk2 (by omega))) (fun cz_47 => ?_)
    refine lv_aload_n S.1 S.2.1 dX4_init_50 rfl (lv_at hl 0 rfl) ?_
    refine va_get (D := D) (ci := 3) (v := .ref q3) (C := RX4) (T := TX4) (N := 6) S.1 S.2.1 S.2.2.2.2 alX4 S.2.2.2.1 hK hP 0 rfl rfl 4 (by decide) (S.2.2.2.2 _ (al (List.mem_of_getElem? (i := 625) rfl) rfl)) (fun _ h9 => h9) rfl dX4_init_51 ?_
    refine lv_iload_n S.1 S.2.1 dX4_init_54 rfl (lv_at hl 1 rfl) ?_
    refine lv_iconst (v := (nI 0)) S.1 S.2.1 dX4_init_55 (by rfl) ?_
    refine va_calli (va_runS (As := [.int (nI k), .int (nI 0)]) (rest := [.ref q3]) S (k_shelf l k 0) (cw_X4_X4_shelf S.2.2.2.2 ⟨Nat.le_of_ble_eq_true rfl, Nat.le_of_ble_eq_true rfl⟩) ⟨k_shelf_pc, fun _ _ _ => ⟨rfl, trivial⟩⟩ rfl rfl hl.1 rfl (lv_room (Nat.le_of_ble_eq_true rfl)) dX4_init_56 ⟨Nat.le_of_ble_eq_true rfl, Nat.le_of_ble_eq_true rfl⟩) hS (fun _ _ h => h.elim) (fun _ h => h.elim) (fun r9 u9 t H1 locs ht hvm hw hB hz1 hk1 hS => ?_)
    rw [hw]
    have hP : va_P D vwCl _ H1 := hP.kept (fun k9 x hx => hk1 x.1 ((hP k9 x hx).lt) (fun h => h.elim))
    refine lv_bipush (v := (-18)) S.1 S.2.1 dX4_init_59 (by decide) ?_
    refine va_iast S.1 S.2.1 hK hP hD hS 3 2 (f := (nwI k)) (n := 113) (cA := c3) rfl rfl (vp_nI (j := (3 + 2 * k + 0)) (by omega) (by omega)) dX4_init_61 (fun H locs hP hD hS => ?_)
    rw [nI_clamp (by omega)] at hP hD
    have hP : va_P D vwCl [(h0, mM q1 q2 q3 q4), (q1, iv c1 20 (fun _ => 0)), (q2, iv c2 20 (fun _ => 0)), (q3, iv c3 113 (va_up (nwI k) (3 + 2 * k + 0) (-18))), (q4, iv c4 113 (fun _ => 0))] H := hP
    have hD : va_D A [(h0, mM q1 q2 q3 q4), (q1, iv c1 20 (fun _ => 0)), (q2, iv c2 20 (fun _ => 0)), (q3, iv c3 113 (va_up (nwI k) (3 + 2 * k + 0) (-18))), (q4, iv c4 113 (fun _ => 0))] := hD
    refine lv_aload_n S.1 S.2.1 dX4_init_62 rfl (lv_at hl 0 rfl) ?_
    refine va_get (D := D) (ci := 3) (v := .ref q3) (C := RX4) (T := TX4) (N := 6) S.1 S.2.1 S.2.2.2.2 alX4 S.2.2.2.1 hK hP 0 rfl rfl 4 (by decide) (S.2.2.2.2 _ (al (List.mem_of_getElem? (i := 625) rfl) rfl)) (fun _ h9 => h9) rfl dX4_init_63 ?_
    refine lv_iload_n S.1 S.2.1 dX4_init_66 rfl (lv_at hl 1 rfl) ?_
    refine lv_iconst (v := (nI 1)) S.1 S.2.1 dX4_init_67 (by rfl) ?_
    refine va_calli (va_runS (As := [.int (nI k), .int (nI 1)]) (rest := [.ref q3]) S (k_shelf l k 1) (cw_X4_X4_shelf S.2.2.2.2 ⟨Nat.le_of_ble_eq_true rfl, Nat.le_of_ble_eq_true rfl⟩) ⟨k_shelf_pc, fun _ _ _ => ⟨rfl, trivial⟩⟩ rfl rfl hl.1 rfl (lv_room (Nat.le_of_ble_eq_true rfl)) dX4_init_68 ⟨Nat.le_of_ble_eq_true rfl, Nat.le_of_ble_eq_true rfl⟩) hS (fun _ _ h => h.elim) (fun _ h => h.elim) (fun r9 u9 t H1 locs ht hvm hw hB hz1 hk1 hS => ?_)
    rw [hw]
    have hP : va_P D vwCl _ H1 := hP.kept (fun k9 x hx => hk1 x.1 ((hP k9 x hx).lt) (fun h => h.elim))
    refine lv_bipush (v := (-18)) S.1 S.2.1 dX4_init_71 (by decide) ?_
    refine va_iast S.1 S.2.1 hK hP hD hS 3 2 (f := (va_up (nwI k) (3 + 2 * k + 0) (-18))) (n := 113) (cA := c3) rfl rfl (vp_nI (j := (3 + 2 * k + 1)) (by omega) (by omega)) dX4_init_73 (fun H locs hP hD hS => ?_)
    rw [nI_clamp (by omega)] at hP hD
    have hP : va_P D vwCl [(h0, mM q1 q2 q3 q4), (q1, iv c1 20 (fun _ => 0)), (q2, iv c2 20 (fun _ => 0)), (q3, iv c3 113 (va_up (va_up (nwI k) (3 + 2 * k + 0) (-18)) (3 + 2 * k + 1) (-18))), (q4, iv c4 113 (fun _ => 0))] H := hP
    have hD : va_D A [(h0, mM q1 q2 q3 q4), (q1, iv c1 20 (fun _ => 0)), (q2, iv c2 20 (fun _ => 0)), (q3, iv c3 113 (va_up (va_up (nwI k) (3 + 2 * k + 0) (-18)) (3 + 2 * k + 1) (-18))), (q4, iv c4 113 (fun _ => 0))] := hD
    refine lv_iinc (v := (nI (k + 1))) (lv' := [(1, .int (nI (k + 1))), (0, .ref h0)]) S.1 S.2.1 dX4_init_74 hl (k := 1) rfl (nI_1 k) (by decide) rfl (fun ls hl => ?_)
    refine lv_goto (tgt := 45) S.1 S.2.1 dX4_init_77 (by decide) ?_
    exact ih (k + 1) (by omega) _ _ hP hD hS ls (lv_sub hl [1, 0] rfl)
end KM
set_option maxRecDepth 100000 in
set_option maxHeartbeats 4000000 in
theorem k_M (l : Launch) (D : va_G) (h0 : Nat) (A : Nat → Prop) : Met l yX4_init (.code yX4_init cX4_init 2 none :: AL) (rm 2 4 266) (va_Pc [.ref h0] (fun U => va_K D vwCl [] U ∧ va_P D vwCl [(h0, .inr (3, [.int 0, .int 0, .null, .null, .null, .null]))] U.heap ∧ A h0 ∧ ∀ z : Nat, U.heap.size ≤ z → A z)) (QM D h0 A) 4 266 A := by
  refine mt_raw (by decide +kernel) (Nat.le_of_ble_eq_true rfl) ?_
  intro p e s m below meth c S hr hlk hnm hPw ls hl
  obtain ⟨hK, hP, hA0, hA⟩ := hPw
  have hl : lv_has ls 2 [(0, .ref h0)] := hl
  have hS : va_S A s.heap s.heap [] := va_S.rf
  have hD : va_D A [(h0, (.inr (3, [.int 0, .int 0, .null, .null, .null, .null]) : va_E))] := ⟨fun i j x y hx hy _ => by rw [(one_at hx).1, (one_at hy).1], fun k x hx => by rw [(one_at hx).2]; exact hA0⟩
  refine lv_aload_n S.1 S.2.1 dX4_init_0 rfl (lv_at hl 0 rfl) ?_
  refine W.objInit S.1 S.2.1 S.2.2.2.1 (S.2.2.2.2 _ (al (List.mem_of_getElem? (i := 617) rfl) rfl)) (S.2.2.2.2 _ (al (List.mem_of_getElem? (i := 71) rfl) rfl)) (S.2.2.2.2 _ (al (List.mem_of_getElem? (i := 72) rfl) rfl)) rfl (by rw [S.2.2.1]; exact hl.1) rfl dX4_init_1 (Nat.le_of_ble_eq_true rfl) (Nat.le_of_ble_eq_true rfl) ?_
  refine W.eq (g2 := F0 m 4 ls []) rfl ?_
  refine lv_aload_n S.1 S.2.1 dX4_init_4 rfl (lv_at hl 0 rfl) ?_
  refine lv_bipush (v := 20) S.1 S.2.1 dX4_init_5 (by decide) ?_
  refine va_newa (D := D) (atype := .int) (ty := .int) S.1 S.2.1 (S.2.2.2.2 _ al_ints) rfl hK hP hD hS hA (a0 := (20, .inl (fun _ => 0))) (fun _ => rfl) (by decide) (by decide +kernel) (by decide) (Nat.le_of_ble_eq_true rfl) (Nat.le_of_ble_eq_true rfl) dX4_init_7 (fun q1 c1 H hK hP hD hS => ?_)
  have hK : va_K D vwCl [(c1, .int)] s := hK
  have hP : va_P D vwCl [(h0, .inr (3, [.int 0, .int 0, .null, .null, .null, .null])), (q1, iv c1 20 (fun _ => 0))] H := hP
  have hD : va_D A [(h0, .inr (3, [.int 0, .int 0, .null, .null, .null, .null])), (q1, iv c1 20 (fun _ => 0))] := hD
  refine va_putF (D := D) (ci := 3) (v := .ref q1) (ty := .array .int) (C := RX4) (T := TX4) (N := 6) S.1 S.2.1 S.2.2.2.2 alX4 tyX4 tyX4_ok nmX4 S.2.2.2.1 hK hP hD hS 0 rfl rfl 2 (by decide) (S.2.2.2.2 _ (al (List.mem_of_getElem? (i := 623) rfl) rfl)) (fun _ h9 => h9) rfl hnm rfl (by decide +kernel) rfl rfl (Nat.le_of_ble_eq_true rfl) dX4_init_9 (fun H locs hP hD hS => ?_)
  have hP : va_P D vwCl [(h0, .inr (3, [.int 0, .int 0, .ref q1, .null, .null, .null])), (q1, iv c1 20 (fun _ => 0))] H := hP
  have hD : va_D A [(h0, .inr (3, [.int 0, .int 0, .ref q1, .null, .null, .null])), (q1, iv c1 20 (fun _ => 0))] := hD
  refine lv_aload_n S.1 S.2.1 dX4_init_12 rfl (lv_at hl 0 rfl) ?_
  refine lv_bipush (v := 20) S.1 S.2.1 dX4_init_13 (by decide) ?_
  refine va_newa (D := D) (atype := .int) (ty := .int) S.1 S.2.1 (S.2.2.2.2 _ al_ints) rfl hK hP hD hS hA (a0 := (20, .inl (fun _ => 0))) (fun _ => rfl) (by decide) (by decide +kernel) (by decide) (Nat.le_of_ble_eq_true rfl) (Nat.le_of_ble_eq_true rfl) dX4_init_15 (fun q2 c2 H hK hP hD hS => ?_)
  have hK : va_K D vwCl [(c1, .int), (c2, .int)] s := hK
  have hP : va_P D vwCl [(h0, .inr (3, [.int 0, .int 0, .ref q1, .null, .null, .null])), (q1, iv c1 20 (fun _ => 0)), (q2, iv c2 20 (fun _ => 0))] H := hP
  have hD : va_D A [(h0, .inr (3, [.int 0, .int 0, .ref q1, .null, .null, .null])), (q1, iv c1 20 (fun _ => 0)), (q2, iv c2 20 (fun _ => 0))] := hD
  refine va_putF (D := D) (ci := 3) (v := .ref q2) (ty := .array .int) (C := RX4) (T := TX4) (N := 6) S.1 S.2.1 S.2.2.2.2 alX4 tyX4 tyX4_ok nmX4 S.2.2.2.1 hK hP hD hS 0 rfl rfl 3 (by decide) (S.2.2.2.2 _ (al (List.mem_of_getElem? (i := 624) rfl) rfl)) (fun _ h9 => h9) rfl hnm rfl (by decide +kernel) rfl rfl (Nat.le_of_ble_eq_true rfl) dX4_init_17 (fun H locs hP hD hS => ?_)
  have hP : va_P D vwCl [(h0, .inr (3, [.int 0, .int 0, .ref q1, .ref q2, .null, .null])), (q1, iv c1 20 (fun _ => 0)), (q2, iv c2 20 (fun _ => 0))] H := hP
  have hD : va_D A [(h0, .inr (3, [.int 0, .int 0, .ref q1, .ref q2, .null, .null])), (q1, iv c1 20 (fun _ => 0)), (q2, iv c2 20 (fun _ => 0))] := hD
  refine lv_aload_n S.1 S.2.1 dX4_init_20 rfl (lv_at hl 0 rfl) ?_
  refine lv_bipush (v := 113) S.1 S.2.1 dX4_init_21 (by decide) ?_
  refine va_newa (D := D) (atype := .int) (ty := .int) S.1 S.2.1 (S.2.2.2.2 _ al_ints) rfl hK hP hD hS hA (a0 := (113, .inl (fun _ => 0))) (fun _ => rfl) (by decide) (by decide +kernel) (by decide) (Nat.le_of_ble_eq_true rfl) (Nat.le_of_ble_eq_true rfl) dX4_init_23 (fun q3 c3 H hK hP hD hS => ?_)
  have hK : va_K D vwCl [(c1, .int), (c2, .int), (c3, .int)] s := hK
  have hP : va_P D vwCl [(h0, .inr (3, [.int 0, .int 0, .ref q1, .ref q2, .null, .null])), (q1, iv c1 20 (fun _ => 0)), (q2, iv c2 20 (fun _ => 0)), (q3, iv c3 113 (fun _ => 0))] H := hP
  have hD : va_D A [(h0, .inr (3, [.int 0, .int 0, .ref q1, .ref q2, .null, .null])), (q1, iv c1 20 (fun _ => 0)), (q2, iv c2 20 (fun _ => 0)), (q3, iv c3 113 (fun _ => 0))] := hD
  refine va_putF (D := D) (ci := 3) (v := .ref q3) (ty := .array .int) (C := RX4) (T := TX4) (N := 6) S.1 S.2.1 S.2.2.2.2 alX4 tyX4 tyX4_ok nmX4 S.2.2.2.1 hK hP hD hS 0 rfl rfl 4 (by decide) (S.2.2.2.2 _ (al (List.mem_of_getElem? (i := 625) rfl) rfl)) (fun _ h9 => h9) rfl hnm rfl (by decide +kernel) rfl rfl (Nat.le_of_ble_eq_true rfl) dX4_init_25 (fun H locs hP hD hS => ?_)
  have hP : va_P D vwCl [(h0, .inr (3, [.int 0, .int 0, .ref q1, .ref q2, .ref q3, .null])), (q1, iv c1 20 (fun _ => 0)), (q2, iv c2 20 (fun _ => 0)), (q3, iv c3 113 (fun _ => 0))] H := hP
  have hD : va_D A [(h0, .inr (3, [.int 0, .int 0, .ref q1, .ref q2, .ref q3, .null])), (q1, iv c1 20 (fun _ => 0)), (q2, iv c2 20 (fun _ => 0)), (q3, iv c3 113 (fun _ => 0))] := hD
  refine lv_aload_n S.1 S.2.1 dX4_init_28 rfl (lv_at hl 0 rfl) ?_
  refine lv_bipush (v := 113) S.1 S.2.1 dX4_init_29 (by decide) ?_
  refine va_newa (D := D) (atype := .int) (ty := .int) S.1 S.2.1 (S.2.2.2.2 _ al_ints) rfl hK hP hD hS hA (a0 := (113, .inl (fun _ => 0))) (fun _ => rfl) (by decide) (by decide +kernel) (by decide) (Nat.le_of_ble_eq_true rfl) (Nat.le_of_ble_eq_true rfl) dX4_init_31 (fun q4 c4 H hK hP hD hS => ?_)
  have hK : va_K D vwCl [(c1, .int), (c2, .int), (c3, .int), (c4, .int)] s := hK
  have hP : va_P D vwCl [(h0, .inr (3, [.int 0, .int 0, .ref q1, .ref q2, .ref q3, .null])), (q1, iv c1 20 (fun _ => 0)), (q2, iv c2 20 (fun _ => 0)), (q3, iv c3 113 (fun _ => 0)), (q4, iv c4 113 (fun _ => 0))] H := hP
  have hD : va_D A [(h0, .inr (3, [.int 0, .int 0, .ref q1, .ref q2, .ref q3, .null])), (q1, iv c1 20 (fun _ => 0)), (q2, iv c2 20 (fun _ => 0)), (q3, iv c3 113 (fun _ => 0)), (q4, iv c4 113 (fun _ => 0))] := hD
  refine va_putF (D := D) (ci := 3) (v := .ref q4) (ty := .array .int) (C := RX4) (T := TX4) (N := 6) S.1 S.2.1 S.2.2.2.2 alX4 tyX4 tyX4_ok nmX4 S.2.2.2.1 hK hP hD hS 0 rfl rfl 5 (by decide) (S.2.2.2.2 _ (al (List.mem_of_getElem? (i := 626) rfl) rfl)) (fun _ h9 => h9) rfl hnm rfl (by decide +kernel) rfl rfl (Nat.le_of_ble_eq_true rfl) dX4_init_33 (fun H locs hP hD hS => ?_)
  have hP : va_P D vwCl [(h0, .inr (3, [.int 0, .int 0, .ref q1, .ref q2, .ref q3, .ref q4])), (q1, iv c1 20 (fun _ => 0)), (q2, iv c2 20 (fun _ => 0)), (q3, iv c3 113 (fun _ => 0)), (q4, iv c4 113 (fun _ => 0))] H := hP
  have hD : va_D A [(h0, .inr (3, [.int 0, .int 0, .ref q1, .ref q2, .ref q3, .ref q4])), (q1, iv c1 20 (fun _ => 0)), (q2, iv c2 20 (fun _ => 0)), (q3, iv c3 113 (fun _ => 0)), (q4, iv c4 113 (fun _ => 0))] := hD
  refine lv_aload_n S.1 S.2.1 dX4_init_36 rfl (lv_at hl 0 rfl) ?_
  refine va_get (D := D) (ci := 3) (v := .ref q3) (C := RX4) (T := TX4) (N := 6) S.1 S.2.1 S.2.2.2.2 alX4 S.2.2.2.1 hK hP 0 rfl rfl 4 (by decide) (S.2.2.2.2 _ (al (List.mem_of_getElem? (i := 625) rfl) rfl)) (fun _ h9 => h9) rfl dX4_init_37 ?_
  refine lv_iconst (v := (nI 1)) S.1 S.2.1 dX4_init_40 (by rfl) ?_
  refine lv_iconst (v := 1) S.1 S.2.1 dX4_init_41 (by decide) ?_
  refine va_iast S.1 S.2.1 hK hP hD hS 3 2 (f := (fun _ => 0)) (n := 113) (cA := c3) rfl rfl (vp_nI (j := 1) (by omega) (by omega)) dX4_init_42 (fun H locs hP hD hS => ?_)
  rw [nI_clamp (by omega)] at hP hD
  have hP : va_P D vwCl [(h0, mM q1 q2 q3 q4), (q1, iv c1 20 (fun _ => 0)), (q2, iv c2 20 (fun _ => 0)), (q3, iv c3 113 (nwI 0)), (q4, iv c4 113 (fun _ => 0))] H := hP
  have hD : va_D A [(h0, mM q1 q2 q3 q4), (q1, iv c1 20 (fun _ => 0)), (q2, iv c2 20 (fun _ => 0)), (q3, iv c3 113 (nwI 0)), (q4, iv c4 113 (fun _ => 0))] := hD
  refine lv_iconst (v := (nI 0)) S.1 S.2.1 dX4_init_43 (by rfl) ?_
  refine lv_istore_n (lv' := [(1, .int (nI 0)), (0, .ref h0)]) S.1 S.2.1 dX4_init_44 rfl hl (by decide) rfl (fun ls hl => ?_)
  exact km_L S hr hlk hK 5 0 (by omega) _ _ hP hD hS ls (lv_sub hl [1, 0] rfl)
