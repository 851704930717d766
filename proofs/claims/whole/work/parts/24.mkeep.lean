def cpyA (f g : Nat → Int32) : Nat → Int32 := va_cpy f g (0 : Int32).toNatClampNeg (0 : Int32).toNatClampNeg (113 : Int32).toNatClampNeg
theorem cpyA_lt (f g : Nat → Int32) {j : Nat} (h : j < 113) : cpyA f g j = f j := by
  unfold cpyA va_cpy
  have e0 : (0 : Int32).toNatClampNeg = 0 := by decide
  have e1 : (113 : Int32).toNatClampNeg = 113 := by decide
  rw [e0, e1, if_pos ⟨Nat.zero_le _, by omega⟩, Nat.zero_add, Nat.sub_zero]
section CPY
variable {p : Program} {l : Launch} {e : Env} {R : Room} {s : State} {m : MethodId} {args : Array Value} {below : List Frame} {meth : Method} {c : Code} {H : Heap} {locs : List Loc} {cells slots : Nat} {Q : State → Prop}
variable {cc : ByteArray} {pc nL : Nat} {ls : Array Slot} {rest : List Value} {G : Gt} {σ : St}
set_option maxRecDepth 20000 in
theorem cp_keep (S : CallFix p m c cc nL s args AL RX4) (hI : Iv G σ s H locs) {th np : Int32} {mk lf nw kp : Nat → Int32} (hm : gM σ = (th, np, mk, lf, nw, kp)) (hsz : ls.size = nL) (hR : 1 ≤ R.frames ∧ (rest.map fun v => v.category).sum + (nativeFrameWords "java/lang/System" "arraycopy" 5 + 11) ≤ R.locals) (hdg : decode cc pc = .ok (.invokestatic 40, 3))
    (kk : ∀ (σ' : St) (H1 : Heap) (locs1 : List Loc), σ' = setM σ (th, np, mk, lf, nw, cpyA nw kp) → gM σ' = (th, np, mk, lf, nw, cpyA nw kp) → Iv G σ' s H1 locs1 → W p l e R s m args below meth c H1 locs1 cells slots Q (F0 m (pc + 3) ls rest)) : W p l e R s m args below meth c H locs cells slots Q (F0 m pc ls (.int 113 :: .int 0 :: .ref (gB G 7) :: .int 0 :: .ref (gB G 6) :: rest)) := by
  refine va_copyi S.1 S.2.1 (S.2.2.1.trans hsz.symm) S.2.2.2.1 (S.2.2.2.2 _ (al (List.mem_of_getElem? (i := 865) rfl) rfl)) (S.2.2.2.2 _ (al (List.mem_of_getElem? (i := 867) rfl) rfl)) (S.2.2.2.2 _ (al (List.mem_of_getElem? (i := 866) rfl) rfl)) (S.2.2.2.2 _ (al (List.mem_of_getElem? (i := 64) rfl) rfl)) hI.K hI.2.1 hI.D hI.2.2 6 7 4 5 (f := nw) (g := kp) (n0 := 113) (n1 := 113) (c0 := gC G 6) (c1 := gC G 7) (ty := .int) (by rw [wl_at G σ (by decide), ent, show σ.2.1 = _ from hm]) (by rw [wl_at G σ (by decide), ent, show σ.2.1 = _ from hm]) rfl rfl rfl (by decide) (by decide) (by decide) (by decide) (by decide) (fun _ _ => rfl) hR.1 hR.2 hdg (fun H1 locs1 hP _ hS => kk _ H1 locs1 rfl rfl ⟨hI.1, ?_, hS⟩)
  rw [← setM_k G σ _ 7 (by omega) (fun i h1 h2 h3 => by
    rcases (show i = 3 ∨ i = 4 ∨ i = 5 ∨ i = 6 by omega) with rfl | rfl | rfl | rfl <;> simp only [ent, setM, show σ.2.1 = _ from hm])]
  exact hP
set_option maxRecDepth 20000 in
theorem cp_back (S : CallFix p m c cc nL s args AL RX4) (hI : Iv G σ s H locs) {th np : Int32} {mk lf nw kp : Nat → Int32} (hm : gM σ = (th, np, mk, lf, nw, kp)) (hsz : ls.size = nL) (hR : 1 ≤ R.frames ∧ (rest.map fun v => v.category).sum + (nativeFrameWords "java/lang/System" "arraycopy" 5 + 11) ≤ R.locals) (hdg : decode cc pc = .ok (.invokestatic 40, 3))
    (kk : ∀ (σ' : St) (H1 : Heap) (locs1 : List Loc), σ' = setM σ (th, np, mk, lf, cpyA kp nw, kp) → gM σ' = (th, np, mk, lf, cpyA kp nw, kp) → Iv G σ' s H1 locs1 → W p l e R s m args below meth c H1 locs1 cells slots Q (F0 m (pc + 3) ls rest)) : W p l e R s m args below meth c H locs cells slots Q (F0 m pc ls (.int 113 :: .int 0 :: .ref (gB G 6) :: .int 0 :: .ref (gB G 7) :: rest)) := by
  refine va_copyi S.1 S.2.1 (S.2.2.1.trans hsz.symm) S.2.2.2.1 (S.2.2.2.2 _ (al (List.mem_of_getElem? (i := 865) rfl) rfl)) (S.2.2.2.2 _ (al (List.mem_of_getElem? (i := 867) rfl) rfl)) (S.2.2.2.2 _ (al (List.mem_of_getElem? (i := 866) rfl) rfl)) (S.2.2.2.2 _ (al (List.mem_of_getElem? (i := 64) rfl) rfl)) hI.K hI.2.1 hI.D hI.2.2 7 6 5 4 (f := kp) (g := nw) (n0 := 113) (n1 := 113) (c0 := gC G 7) (c1 := gC G 6) (ty := .int) (by rw [wl_at G σ (by decide), ent, show σ.2.1 = _ from hm]) (by rw [wl_at G σ (by decide), ent, show σ.2.1 = _ from hm]) rfl rfl rfl (by decide) (by decide) (by decide) (by decide) (by decide) (fun _ _ => rfl) hR.1 hR.2 hdg (fun H1 locs1 hP _ hS => kk _ H1 locs1 rfl rfl ⟨hI.1, ?_, hS⟩)
  rw [← setM_k G σ _ 6 (by omega) (fun i h1 h2 h3 => by
    rcases (show i = 3 ∨ i = 4 ∨ i = 5 ∨ i = 7 by omega) with rfl | rfl | rfl | rfl <;> simp only [ent, setM, show σ.2.1 = _ from hm])]
  exact hP
end CPY
set_option maxRecDepth 100000 in
set_option maxHeartbeats 4000000 in
theorem c_keepAll (l : Launch) (G : Gt) (σ : St) {th np : Int32} {mk lf nw kp : Nat → Int32} (hm : gM σ = (th, np, mk, lf, nw, kp)) : Ct l G yX4_keepAll cX4_keepAll 1 none 1 0 0 [.ref (gB G 3)] σ (Qv G (fun σ' => σ' = setM σ (th, np, mk, lf, nw, cpyA nw kp))) := by
  refine mt_intro (by decide +kernel) (Nat.le_of_ble_eq_true rfl) ?_
  intro p e s m below meth c S hr hlk hnm hI ls hl
  have hl : lv_has ls 1 [(0, .ref (gB G 3))] := hl
  refine lv_aload_n S.1 S.2.1 dX4_keepAll_0 rfl (lv_at hl 0 rfl) ?_
  refine g_X4_M_now S hI dX4_keepAll_1 ?_
  refine lv_iconst (v := 0) S.1 S.2.1 dX4_keepAll_4 (by decide) ?_
  refine lv_aload_n S.1 S.2.1 dX4_keepAll_5 rfl (lv_at hl 0 rfl) ?_
  refine g_X4_M_kept S hI dX4_keepAll_6 ?_
  refine lv_iconst (v := 0) S.1 S.2.1 dX4_keepAll_9 (by decide) ?_
  refine lv_bipush (v := 113) S.1 S.2.1 dX4_keepAll_10 (by decide) ?_
  refine cp_keep S hI hm hl.1 ⟨Nat.le_of_ble_eq_true rfl, by decide +kernel⟩ dX4_keepAll_12 (fun σ1 H locs ey1 hz1 hI => ?_)
  exact xt_v S hI hr hlk (by rw [ey1]; try rfl) (by decide) (by decide) dX4_keepAll_15
set_option maxRecDepth 100000 in
set_option maxHeartbeats 4000000 in
theorem c_bringBack (l : Launch) (G : Gt) (σ : St) {th np : Int32} {mk lf nw kp : Nat → Int32} (hm : gM σ = (th, np, mk, lf, nw, kp)) : Ct l G yX4_bringBack cX4_bringBack 1 none 1 0 0 [.ref (gB G 3)] σ (Qv G (fun σ' => σ' = setM σ (th, np, mk, lf, cpyA kp nw, kp))) := by
  refine mt_intro (by decide +kernel) (Nat.le_of_ble_eq_true rfl) ?_
  intro p e s m below meth c S hr hlk hnm hI ls hl
  have hl : lv_has ls 1 [(0, .ref (gB G 3))] := hl
  refine lv_aload_n S.1 S.2.1 dX4_bringBack_0 rfl (lv_at hl 0 rfl) ?_
  refine g_X4_M_kept S hI dX4_bringBack_1 ?_
  refine lv_iconst (v := 0) S.1 S.2.1 dX4_bringBack_4 (by decide) ?_
  refine lv_aload_n S.1 S.2.1 dX4_bringBack_5 rfl (lv_at hl 0 rfl) ?_
  refine g_X4_M_now S hI dX4_bringBack_6 ?_
  refine lv_iconst (v := 0) S.1 S.2.1 dX4_bringBack_9 (by decide) ?_
  refine lv_bipush (v := 113) S.1 S.2.1 dX4_bringBack_10 (by decide) ?_
  refine cp_back S hI hm hl.1 ⟨Nat.le_of_ble_eq_true rfl, by decide +kernel⟩ dX4_bringBack_12 (fun σ1 H locs ey1 hz1 hI => ?_)
  exact xt_v S hI hr hlk (by rw [ey1]; try rfl) (by decide) (by decide) dX4_bringBack_15
set_option maxRecDepth 100000 in
set_option maxHeartbeats 4000000 in
theorem c_lay (l : Launch) (G : Gt) (σ : St) {th : Int32} {n k : Nat} (hn : n < 20) (hk : k < 5) {mk lf nw kp : Nat → Int32} {a b c1 d1 e1 : Int32} (hm : gM σ = (th, nI n, mk, lf, putZ nw n (a, b, c1, d1, e1), kp)) (who life : Int32) : Ct l G yX4_lay cX4_lay 4 none 3 0 0 [.ref (gB G 3), .int who, .int life, .int (nI k)] σ (Qv G (fun σ' => σ' = setM σ (th, nI (n + 1), va_up mk n who, va_up lf n life, va_up (putZ nw n (nI k, 20, 0, 0, 0)) (3 + 2 * k + 1) (openH (putZ nw n (nI k, 20, 0, 0, 0) (3 + 2 * k + 1))), kp))) := by
  refine mt_intro (by decide +kernel) (Nat.le_of_ble_eq_true rfl) ?_
  intro p e s m below meth c S hr hlk hnm hI ls hl
  have hl : lv_has ls 4 [(0, .ref (gB G 3)), (1, .int who), (2, .int life), (3, .int (nI k))] := hl
  refine lv_aload_n S.1 S.2.1 dX4_lay_0 rfl (lv_at hl 0 rfl) ?_
  refine g_X4_M_maker S hI dX4_lay_1 ?_
  refine lv_aload_n S.1 S.2.1 dX4_lay_4 rfl (lv_at hl 0 rfl) ?_
  refine g_X4_M_promises S hI hm dX4_lay_5 ?_
  refine lv_iload_n S.1 S.2.1 dX4_lay_8 rfl (lv_at hl 1 rfl) ?_
  refine s_mk S hI hm (j := n) (by omega) dX4_lay_9 (fun σ1 H locs ey1 hz1 hI => ?_)
  refine lv_aload_n S.1 S.2.1 dX4_lay_10 rfl (lv_at hl 0 rfl) ?_
  refine g_X4_M_life S hI dX4_lay_11 ?_
  refine lv_aload_n S.1 S.2.1 dX4_lay_14 rfl (lv_at hl 0 rfl) ?_
  refine g_X4_M_promises S hI hz1 dX4_lay_15 ?_
  refine lv_iload_n S.1 S.2.1 dX4_lay_18 rfl (lv_at hl 2 rfl) ?_
  refine s_lf S hI hz1 (j := n) (by omega) dX4_lay_19 (fun σ2 H locs ey2 hz2 hI => ?_)
  refine lv_aload_n S.1 S.2.1 dX4_lay_20 rfl (lv_at hl 0 rfl) ?_
  refine g_X4_M_now S hI dX4_lay_21 ?_
  refine lv_aload_n S.1 S.2.1 dX4_lay_24 rfl (lv_at hl 0 rfl) ?_
  refine g_X4_M_promises S hI hz2 dX4_lay_25 ?_
  refine lv_iconst (v := 0) S.1 S.2.1 dX4_lay_28 (by decide) ?_
  refine cl_i hI (rnS (As := [.int (nI n), .int 0]) (rest := [.ref (gB G 6)]) S hI (c_of l G _ n 0) (cw_X4_X4_of S.2.2.2.2 ⟨Nat.le_of_ble_eq_true rfl, Nat.le_of_ble_eq_true rfl⟩) rfl hl.1 (Nat.le_of_ble_eq_true rfl) dX4_lay_29 ⟨Nat.le_of_ble_eq_true rfl, Nat.le_of_ble_eq_true rfl⟩) (fun r3 σ3 H locs hq3 hI => ?_)
  obtain ⟨hr3, hs3⟩ := hq3
  rw [hs3] at hI
  rw [hr3]
  refine lv_iload_n S.1 S.2.1 dX4_lay_32 rfl (lv_at hl 3 rfl) ?_
  refine s_nw S hI hz2 (j := (13 + 5 * n + 0)) (by omega) dX4_lay_33 (fun σ4 H locs ey4 hz4 hI => ?_)
  rw [upZ_0] at hz4
  refine lv_aload_n S.1 S.2.1 dX4_lay_34 rfl (lv_at hl 0 rfl) ?_
  refine g_X4_M_now S hI dX4_lay_35 ?_
  refine lv_aload_n S.1 S.2.1 dX4_lay_38 rfl (lv_at hl 0 rfl) ?_
  refine g_X4_M_promises S hI hz4 dX4_lay_39 ?_
  refine lv_iconst (v := 1) S.1 S.2.1 dX4_lay_42 (by decide) ?_
  refine cl_i hI (rnS (As := [.int (nI n), .int 1]) (rest := [.ref (gB G 6)]) S hI (c_of l G _ n 1) (cw_X4_X4_of S.2.2.2.2 ⟨Nat.le_of_ble_eq_true rfl, Nat.le_of_ble_eq_true rfl⟩) rfl hl.1 (Nat.le_of_ble_eq_true rfl) dX4_lay_43 ⟨Nat.le_of_ble_eq_true rfl, Nat.le_of_ble_eq_true rfl⟩) (fun r5 σ5 H locs hq5 hI => ?_)
  obtain ⟨hr5, hs5⟩ := hq5
  rw [hs5] at hI
  rw [hr5]
  refine lv_bipush (v := 20) S.1 S.2.1 dX4_lay_46 (by decide) ?_
  refine s_nw S hI hz4 (j := (13 + 5 * n + 1)) (by omega) dX4_lay_48 (fun σ6 H locs ey6 hz6 hI => ?_)
  rw [upZ_1] at hz6
  refine lv_aload_n S.1 S.2.1 dX4_lay_49 rfl (lv_at hl 0 rfl) ?_
  refine g_X4_M_now S hI dX4_lay_50 ?_
  refine lv_aload_n S.1 S.2.1 dX4_lay_53 rfl (lv_at hl 0 rfl) ?_
  refine g_X4_M_promises S hI hz6 dX4_lay_54 ?_
  refine lv_iconst (v := 2) S.1 S.2.1 dX4_lay_57 (by decide) ?_
  refine cl_i hI (rnS (As := [.int (nI n), .int 2]) (rest := [.ref (gB G 6)]) S hI (c_of l G _ n 2) (cw_X4_X4_of S.2.2.2.2 ⟨Nat.le_of_ble_eq_true rfl, Nat.le_of_ble_eq_true rfl⟩) rfl hl.1 (Nat.le_of_ble_eq_true rfl) dX4_lay_58 ⟨Nat.le_of_ble_eq_true rfl, Nat.le_of_ble_eq_true rfl⟩) (fun r7 σ7 H locs hq7 hI => ?_)
  obtain ⟨hr7, hs7⟩ := hq7
  rw [hs7] at hI
  rw [hr7]
  refine lv_iconst (v := 0) S.1 S.2.1 dX4_lay_61 (by decide) ?_
  refine s_nw S hI hz6 (j := (13 + 5 * n + 2)) (by omega) dX4_lay_62 (fun σ8 H locs ey8 hz8 hI => ?_)
  rw [upZ_2] at hz8
  refine lv_aload_n S.1 S.2.1 dX4_lay_63 rfl (lv_at hl 0 rfl) ?_
  refine g_X4_M_now S hI dX4_lay_64 ?_
  refine lv_aload_n S.1 S.2.1 dX4_lay_67 rfl (lv_at hl 0 rfl) ?_
  refine g_X4_M_promises S hI hz8 dX4_lay_68 ?_
  refine lv_iconst (v := 3) S.1 S.2.1 dX4_lay_71 (by decide) ?_
  refine cl_i hI (rnS (As := [.int (nI n), .int 3]) (rest := [.ref (gB G 6)]) S hI (c_of l G _ n 3) (cw_X4_X4_of S.2.2.2.2 ⟨Nat.le_of_ble_eq_true rfl, Nat.le_of_ble_eq_true rfl⟩) rfl hl.1 (Nat.le_of_ble_eq_true rfl) dX4_lay_72 ⟨Nat.le_of_ble_eq_true rfl, Nat.le_of_ble_eq_true rfl⟩) (fun r9 σ9 H locs hq9 hI => ?_)
  obtain ⟨hr9, hs9⟩ := hq9
  rw [hs9] at hI
  rw [hr9]
  refine lv_iconst (v := 0) S.1 S.2.1 dX4_lay_75 (by decide) ?_
  refine s_nw S hI hz8 (j := (13 + 5 * n + 3)) (by omega) dX4_lay_76 (fun σ10 H locs ey10 hz10 hI => ?_)
  rw [upZ_3] at hz10
  refine lv_aload_n S.1 S.2.1 dX4_lay_77 rfl (lv_at hl 0 rfl) ?_
  refine g_X4_M_now S hI dX4_lay_78 ?_
  refine lv_aload_n S.1 S.2.1 dX4_lay_81 rfl (lv_at hl 0 rfl) ?_
  refine g_X4_M_promises S hI hz10 dX4_lay_82 ?_
  refine lv_iconst (v := 4) S.1 S.2.1 dX4_lay_85 (by decide) ?_
  refine cl_i hI (rnS (As := [.int (nI n), .int 4]) (rest := [.ref (gB G 6)]) S hI (c_of l G _ n 4) (cw_X4_X4_of S.2.2.2.2 ⟨Nat.le_of_ble_eq_true rfl, Nat.le_of_ble_eq_true rfl⟩) rfl hl.1 (Nat.le_of_ble_eq_true rfl) dX4_lay_86 ⟨Nat.le_of_ble_eq_true rfl, Nat.le_of_ble_eq_true rfl⟩) (fun r11 σ11 H locs hq11 hI => ?_)
  obtain ⟨hr11, hs11⟩ := hq11
  rw [hs11] at hI
  rw [hr11]
  refine lv_iconst (v := 0) S.1 S.2.1 dX4_lay_89 (by decide) ?_
  refine s_nw S hI hz10 (j := (13 + 5 * n + 4)) (by omega) dX4_lay_90 (fun σ12 H locs ey12 hz12 hI => ?_)
  rw [upZ_4] at hz12
  refine lv_aload_n S.1 S.2.1 dX4_lay_91 rfl (lv_at hl 0 rfl) ?_
  refine lv_dup S.1 S.2.1 dX4_lay_92 rfl ?_
  refine g_X4_M_promises S hI hz12 dX4_lay_93 ?_
  refine lv_iconst (v := 1) S.1 S.2.1 dX4_lay_96 (by decide) ?_
  refine lv_iadd S.1 S.2.1 dX4_lay_97 ?_
  rw [show ((nI n) + 1) = (nI (n + 1)) from nI_1 n]
  refine p_X4_M_promises S hI hz12 dX4_lay_98 (fun σ13 H locs ey13 hz13 hI => ?_)
  refine lv_aload_n S.1 S.2.1 dX4_lay_101 rfl (lv_at hl 0 rfl) ?_
  refine lv_iload_n S.1 S.2.1 dX4_lay_102 rfl (lv_at hl 3 rfl) ?_
  refine cl_v hI (rnV (As := [.int (nI k)]) (rest := []) S hI (c_open l G _ hz13 (k := k) hk) (cw_X4_X4_open S.2.2.2.2 ⟨Nat.le_of_ble_eq_true rfl, Nat.le_of_ble_eq_true rfl⟩) (rcM hI) rfl hl.1 (Nat.le_of_ble_eq_true rfl) dX4_lay_103 ⟨Nat.le_of_ble_eq_true rfl, Nat.le_of_ble_eq_true rfl⟩) (fun σ14 H locs hq14 hI => ?_)
  have ez14 := hq14
  exact xt_v S hI hr hlk (by rw [ez14, ey13, ey12, ey10, ey8, ey6, ey4, ey2, ey1]; try rfl) (by decide) (by decide) dX4_lay_106
theorem Pic.lay {α : St} {n k : Nat} {mk lf nw : Nat → Int32} (h : Pic α n mk lf nw) (hn : n < 20) (hk : k < 5) (who life : Int32) : Pic (layS α n who life k) (n + 1) (va_up mk n who) (va_up lf n life) (va_up (putZ nw n (nI k, 20, 0, 0, 0)) (3 + 2 * k + 1) (openH (putZ nw n (nI k, 20, 0, 0, 0) (3 + 2 * k + 1)))) := by
  have h1 : Pic (setP α n (1, k, who, life, 0, 20)) (n + 1) (va_up mk n who) (va_up lf n life) (putZ nw n (nI k, 20, 0, 0, 0)) := by
    obtain ⟨h0, hh, h2, h3, h4, h5⟩ := h
    refine ⟨by omega, ?_, h2, fun i hi => ?_, fun i hi => ?_, fun i hi hi2 => by rw [gP_setP_ne _ _ (by omega)]; exact h5 i (by omega) hi2⟩
    · rw [putZ_lt _ _ _ (by omega), putZ_lt _ _ _ (by omega), putZ_lt _ _ _ (by omega)]; exact hh
    · rw [putZ_lt _ _ _ (by omega), putZ_lt _ _ _ (by omega)]; exact h3 i hi
    · by_cases e : i = n
      · subst e
        rw [getZ_putZ, gP_setP, va_up_self, va_up_self]
        exact ⟨rfl, rfl, rfl, rfl, ⟨(by decide : (-30 : Int32) ≤ 20), (by decide : (20 : Int32) ≤ 20)⟩, Or.inl ⟨hk, Or.inl rfl, rfl, rfl, rfl⟩⟩
      · rw [getZ_ne _ _ e, gP_setP_ne _ _ e, va_up_ne _ _ e, va_up_ne _ _ e]
        exact h4 i (by omega)
  have hS := h.2.2.2.1 k hk
  have e1 : putZ nw n (nI k, 20, 0, 0, 0) (3 + 2 * k + 1) = (gS α k).2 := by rw [putZ_lt _ _ _ (by omega)]; exact hS.2.1
  rw [e1]
  exact h1.S hk (y := ((gS α k).1, openH (gS α k).2)) ⟨hS.2.2.1, hS.2.2.2.1, openH_in hS.2.2.2.2⟩ rfl
theorem layS_P (α : St) {n k : Nat} (a b : Int32) : gP (layS α n a b k) n = (1, k, a, b, 0, 20) := gP_setP _ _ _
theorem putZ_self (nw : Nat → Int32) (q : Nat) : putZ nw q (nw (13 + 5 * q + 0), nw (13 + 5 * q + 1), nw (13 + 5 * q + 2), nw (13 + 5 * q + 3), nw (13 + 5 * q + 4)) = nw := putZ_getZ nw q
/-- the reference behind a look: its rows still show α -/
def Mq (σ : St) (α : St) (th : Int32) (n : Nat) (σ' : St) : Prop := ∃ mk lf nw kp, σ' = setM σ (th, nI n, mk, lf, nw, kp) ∧ Pic α n mk lf nw
theorem sumN_tail {f : Nat → Int32} {n : Nat} (hn : n ≤ 20) (h : ∀ i, n ≤ i → i < 20 → f i = 0) : sumN f 20 = sumN f n := by
  have key : ∀ m1, n ≤ m1 → m1 ≤ 20 → sumN f m1 = sumN f n := by
    intro m1 h1
    induction h1 with
    | refl => intro _; rfl
    | @step m2 h3 ih =>
      intro h4
      rw [sumN_s, ih (by omega), h m2 h3 (by omega), Int32.add_zero]
  exact key 20 hn (Nat.le_refl 20)
theorem sumN_sub (f g : Nat → Int32) (n : Nat) : sumN f n - sumN g n = sumN (fun i => f i - g i) n := by
  induction n with
  | zero => exact Int32.sub_self 0
  | succ n ih =>
    rw [sumN_s, sumN_s, sumN_s, ← ih]
    simp only [Int32.sub_eq_add_neg, Int32.neg_add]
    ac_rfl
theorem Pic.on {α : St} {n : Nat} {mk lf nw : Nat → Int32} (h : Pic α n mk lf nw) {k : Nat} (hk : k < 5) : onF α k = sumN (fun q => if nw (13 + 5 * q + 0) = nI k then 1 else 0) n := by
  unfold onF
  rw [sumN_tail h.1 (fun i h1 h2 => if_neg (by have := (h.2.2.2.2.2 i h1 h2).2; omega))]
  refine sumN_congr (fun i hi => ?_)
  obtain ⟨-, -, -, -, -, h6⟩ := h.2.2.2.2.1 i hi
  have hn := h.1
  rcases h6 with ⟨a, -, b, -⟩ | ⟨a, b, -⟩
  · have e : (nw (13 + 5 * i + 0) = nI k) ↔ (gP α i).2.1 = k := by
      rw [show nw (13 + 5 * i + 0) = nI (gP α i).2.1 from b]
      exact nI_eq (by omega) (by omega)
    simp only [e]
  · rw [if_neg (by omega), if_neg (by rw [show nw (13 + 5 * i + 0) = -1 from b]; exact fun q => nI_m1 (by omega) q.symm)]
theorem Pic.lieI {α : St} {n : Nat} {mk lf nw : Nat → Int32} (h : Pic α n mk lf nw) {q : Nat} (hq : q < n) : (if nw (13 + 5 * q + 0) = -1 then (0 : Int32) else 1) = if (gP α q).2.1 < 6 then 1 else 0 := by
  obtain ⟨-, -, -, -, -, h6⟩ := h.2.2.2.2.1 q hq
  rcases h6 with ⟨a, -, b, -⟩ | ⟨a, b, -⟩
  · rw [if_neg (by rw [show nw (13 + 5 * q + 0) = nI (gP α q).2.1 from b]; exact nI_m1 (by omega)), if_pos (by omega)]
  · rw [if_pos (show nw (13 + 5 * q + 0) = -1 from b), if_neg (by omega)]
theorem Pic.isI {α : St} {n : Nat} {mk lf nw : Nat → Int32} (h : Pic α n mk lf nw) {q : Nat} (hq : q < n) {g : Nat} (hg : g = 2 ∨ g = 3) : (if (gP α q).2.1 < 6 ∧ nw (13 + 5 * q + 3) = nI (g - 1) then (1 : Int32) else 0) = if (gP α q).1 = g then 1 else 0 := by
  obtain ⟨-, -, -, -, -, h6⟩ := h.2.2.2.2.1 q hq
  rcases h6 with ⟨a, b, -, d, -⟩ | ⟨a, -, b⟩
  · have e : (nw (13 + 5 * q + 3) = nI (g - 1)) ↔ (gP α q).1 = g := by
      rw [show nw (13 + 5 * q + 3) = nI ((gP α q).1 - 1) from d, nI_eq (by omega) (by omega)]
      omega
    have e6 : (gP α q).2.1 < 6 := by omega
    simp only [e, e6, true_and]
  · rw [if_neg (fun z => by omega), if_neg (by omega)]
theorem Pic.endI {α : St} {n : Nat} {mk lf nw : Nat → Int32} (h : Pic α n mk lf nw) {q : Nat} (hq : q < n) : (nw (13 + 5 * q + 4) = 1 ↔ (gP α q).1 = 4) ∧ (nw (13 + 5 * q + 4) = 2 ↔ (gP α q).1 = 5) := by
  obtain ⟨-, -, -, -, -, h6⟩ := h.2.2.2.2.1 q hq
  have k01 : ¬ (0 : Int32) = 1 := by decide
  have k02 : ¬ (0 : Int32) = 2 := by decide
  have k12 : ¬ (1 : Int32) = 2 := by decide
  have k21 : ¬ (2 : Int32) = 1 := by decide
  rcases h6 with ⟨-, b, -, -, d⟩ | ⟨-, -, ⟨b, d⟩ | ⟨b, d⟩⟩
  · rw [show nw (13 + 5 * q + 4) = 0 from d]
    exact ⟨⟨fun z => absurd z k01, fun z => by omega⟩, ⟨fun z => absurd z k02, fun z => by omega⟩⟩
  · rw [show nw (13 + 5 * q + 4) = 1 from d]
    exact ⟨⟨fun _ => b, fun _ => rfl⟩, ⟨fun z => absurd z k12, fun z => by omega⟩⟩
  · rw [show nw (13 + 5 * q + 4) = 2 from d]
    exact ⟨⟨fun z => absurd z k21, fun z => by omega⟩, ⟨fun _ => b, fun _ => rfl⟩⟩
theorem Pic.ow {α : St} {n : Nat} {mk lf nw : Nat → Int32} (h : Pic α n mk lf nw) (a : Int32) : owF α a = sumN (fun q => if mk q = a ∧ (gP α q).2.1 < 6 then 1 else 0) n := by
  unfold owF
  rw [sumN_tail h.1 (fun i h1 h2 => if_neg (fun z => by have := (h.2.2.2.2.2 i h1 h2).2; omega))]
  refine sumN_congr (fun i hi => ?_)
  rw [(h.2.2.2.2.1 i hi).1]
  simp only [and_comm]
def honT (x : Pr) (a : Int32) : Int32 := if x.2.2.1 = a then (if x.1 = 4 then 1 else if x.1 = 5 then -1 else 0) else 0
theorem Pic.hon {α : St} {n : Nat} {mk lf nw : Nat → Int32} (h : Pic α n mk lf nw) (a : Nat) : honF α a = sumN (fun q => honT (gP α q) (nI a)) n := by
  unfold honF cntF
  rw [sumN_sub, sumN_tail h.1 (fun i h1 h2 => by
    have := (h.2.2.2.2.2 i h1 h2).1
    rw [if_neg (fun z => by omega), if_neg (fun z => by omega)]
    rfl)]
  refine sumN_congr (fun i hi => ?_)
  unfold honT
  by_cases e : (gP α i).2.2.1 = nI a
  · by_cases e4 : (gP α i).1 = 4
    · simp only [e, e4]; decide
    · by_cases e5 : (gP α i).1 = 5
      · simp only [e, e5]; decide
      · simp only [e, e4, e5]; decide
  · simp only [e, and_false, if_false]; decide
