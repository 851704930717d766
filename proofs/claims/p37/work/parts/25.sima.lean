theorem yl0 {Y : va_W} {x : Nat × va_E} : (Y ++ [x])[Y.length]? = some x := by
  rw [List.getElem?_append_right (Nat.le_refl _), Nat.sub_self]
  rfl
theorem yl1 {Y : va_W} {x y : Nat × va_E} : (Y ++ [x, y])[Y.length]? = some x := by
  rw [List.getElem?_append_right (Nat.le_refl _), Nat.sub_self]
  rfl
theorem yl2 {Y : va_W} {x y : Nat × va_E} : (Y ++ [x, y])[Y.length + 1]? = some y := by
  rw [List.getElem?_append_right (by omega), Nat.add_sub_cancel_left]
  rfl
theorem ys0 {Y : va_W} {x z : Nat × va_E} : (Y ++ [x]).set Y.length z = Y ++ [z] := by
  rw [List.set_append, if_neg (by omega), Nat.sub_self]
  rfl
theorem ys1 {Y : va_W} {x y z : Nat × va_E} : (Y ++ [x, y]).set Y.length z = Y ++ [z, y] := by
  rw [List.set_append, if_neg (by omega), Nat.sub_self]
  rfl
theorem ys2 {Y : va_W} {x y z : Nat × va_E} : (Y ++ [x, y]).set (Y.length + 1) z = Y ++ [x, z] := by
  rw [List.set_append, if_neg (by omega), Nat.add_sub_cancel_left]
  rfl
theorem yp {Y : va_W} {x y : Nat × va_E} : (Y ++ [x]) ++ [y] = Y ++ [x, y] := by rw [List.append_assoc]; rfl
theorem wz {G : Gt} {σ : St} {Z : va_W} {k : Nat} {x : Nat × va_E} (h : Z[k]? = some x) : (wl G σ ++ Z)[30 + k]? = some x := by
  rw [List.getElem?_append_right (by rw [wl_len]; omega), wl_len, Nat.add_sub_cancel_left]
  exact h
theorem wz_set {G : Gt} {σ : St} {Z : va_W} {k : Nat} {x : Nat × va_E} : (wl G σ ++ Z).set (30 + k) x = wl G σ ++ Z.set k x := by
  rw [List.set_append, if_neg (by rw [wl_len]; omega), wl_len, Nat.add_sub_cancel_left]
theorem fr7 {z0 z1 z2 z3 z4 z5 z6 : Int32} : va_up (va_up (va_up (va_up (va_up (va_up (va_up (fun _ => 0) 0 z0) 1 z1) 2 z2) 3 z3) 4 z4) 5 z5) 6 z6 = fr (z0, z1, z2, z3, z4, z5, z6) := by
  funext t
  rcases (show t = 0 ∨ t = 1 ∨ t = 2 ∨ t = 3 ∨ t = 4 ∨ t = 5 ∨ t = 6 ∨ 7 ≤ t by omega) with rfl | rfl | rfl | rfl | rfl | rfl | rfl | h7
  all_goals first | rfl | skip
  repeat rw [va_up_ne _ _ (by omega)]
  obtain ⟨t, rfl⟩ := Nat.exists_eq_add_of_le h7
  rw [Nat.add_comm]
  rfl
def s18 : Nat → Int32 := fun j => if j < 5 then -18 else 0
theorem s18_up : va_up (va_up (va_up (va_up (va_up (fun _ => 0) 0 (-18)) 1 (-18)) 2 (-18)) 3 (-18)) 4 (-18) = s18 := by
  funext t
  rcases (show t = 0 ∨ t = 1 ∨ t = 2 ∨ t = 3 ∨ t = 4 ∨ 5 ≤ t by omega) with rfl | rfl | rfl | rfl | rfl | h7
  all_goals first | rfl | skip
  repeat rw [va_up_ne _ _ (by omega)]
  exact (if_neg (by omega)).symm
theorem al_cl20 : Cond.classLink RX4 20 (FieldType.array .int).toString ∈ AL := al (by decide +kernel) rfl
/-- the new row and the new array of rows take their places -/
theorem fw_add {G : Gt} {σ : St} {q0 q1 q2 q3 qm qr : Nat} {aR : Nat → Nat} {hh pw ar : Int32} {st ht : Nat → Int32} {n : Nat} {row : Nat → Z7} {Y : va_W} {z : Z7} {s : State} {H : Heap} {locs : List Loc}
    (hJ : Jw G (wl G σ ++ ((q0, .inr (3, [.int hh, .int pw, .int ar, .ref q1, .ref q2, .ref qm])) :: (q1, .inl (gC G 4, 5, .inl st)) :: (q2, .inl (gC G 4, 5, .inl ht)) :: (q3, .inl (gC G 5, n, .inr (.inr (.inr (.inr (fS aR n)))))) :: (sRows G aR n row ++ (Y ++ [(qm, .inl (gC G 5, n + 1, .inr (.inr (.inr (.inr (fS (va_up aR n qr) (n + 1))))))), (qr, .inl (gC G 4, 7, .inl (fr z)))])))) s H locs) :
    Jw G (fw G σ ((q0, q1, q2, qm), va_up aR n qr) (hh, pw, ar, st, ht, n + 1, va_up row n z) Y) s H locs := by
  refine hJ.perm (w1 := wl G σ ++ ((q0, .inr (3, [.int hh, .int pw, .int ar, .ref q1, .ref q2, .ref qm])) :: (q1, .inl (gC G 4, 5, .inl st)) :: (q2, .inl (gC G 4, 5, .inl ht)) :: (q3, .inl (gC G 5, n, .inr (.inr (.inr (.inr (fS aR n)))))) :: (qm, .inl (gC G 5, n + 1, .inr (.inr (.inr (.inr (fS (va_up aR n qr) (n + 1))))))) :: ((sRows G aR n row ++ [(qr, .inl (gC G 4, 7, .inl (fr z)))]) ++ Y))) ?_ ?_
  · refine List.Perm.append_left _ (List.Perm.cons _ (List.Perm.cons _ (List.Perm.cons _ (List.Perm.cons _ ?_))))
    refine (List.Perm.append_left _ List.perm_append_comm).trans ?_
    refine List.perm_middle.trans (List.Perm.cons _ ?_)
    rw [List.append_assoc]
    exact List.Perm.refl _
  · refine List.Sublist.append_left ?_ _
    show List.Sublist (_ :: _ :: _ :: _ :: (sRows G (va_up aR n qr) (n + 1) (va_up row n z) ++ Y)) _
    rw [sr_snoc]
    exact List.Sublist.cons₂ _ (List.Sublist.cons₂ _ (List.Sublist.cons₂ _ (List.Sublist.cons _ (List.Sublist.refl _))))
set_option maxRecDepth 100000 in
set_option maxHeartbeats 4000000 in
theorem k_add (l : Launch) (G : Gt) {σ : St} {q0 q1 q2 q3 : Nat} {aR : Nat → Nat} {hh pw ar : Int32} {st ht : Nat → Int32} {n : Nat} {row : Nat → Z7} {Y : va_W} (hn : n < 20) (mk lf : Int32) {k : Nat} (hk : k < 5) : Cw l G yX4_add cX4_add 6 none 2 2 27 [.ref q0, .int mk, .int lf, .int (nI k)] (fw G σ ((q0, q1, q2, q3), aR) (hh, pw, ar, st, ht, n, row) Y) (Uv G (fun ws' => ∃ qm qr, ws' = fw G σ ((q0, q1, q2, qm), va_up aR n qr) (hh, pw, ar, st, va_up ht k (if 18 < ht k then 20 else ht k + 2), n + 1, va_up row n (mk, lf, nI k, 20, 0, 0, 0)) Y)) := by
  refine mw_intro (by decide +kernel) (Nat.le_of_ble_eq_true rfl) ?_
  intro p e s m below meth c S hr hlk hnm hJ ls hl
  have hl : lv_has ls 6 [(0, .ref q0), (1, .int mk), (2, .int lf), (3, .int (nI k))] := hl
  have loop : ∀ (qm n9 i : Nat), i + n9 = n → ∀ (H : Heap) (locs : List Loc), Jw G (fw G σ ((q0, q1, q2, q3), aR) (hh, pw, ar, st, ht, n, row) (Y ++ [(qm, .inl (gC G 5, n + 1, .inr (.inr (.inr (.inr (fS aR i))))))])) s H locs → ∀ ls : Array Slot, lv_has ls 6 [(0, .ref q0), (1, .int mk), (2, .int lf), (3, .int (nI k)), (4, .ref qm), (5, .int (nI i))] → W p l e (rm 2 2 27) s m ([.ref q0, .int mk, .int lf, .int (nI k)] : List Value).toArray below meth c H locs 1 (n + 1) (MQ below (Uv G (fun ws' => ∃ qm qr, ws' = fw G σ ((q0, q1, q2, qm), va_up aR n qr) (hh, pw, ar, st, va_up ht k (if 18 < ht k then 20 else ht k + 2), n + 1, va_up row n (mk, lf, nI k, 20, 0, 0, 0)) Y)) ([.ref q0, .int mk, .int lf, .int (nI k)] : List Value).toArray s 2 27 (gA G)) (F0 m 15 ls []) := by
    intro qm n9
    induction n9 with
    | zero =>
      intro i hi0 H locs hJ ls hl
      obtain rfl : i = n := by omega
      refine lv_iload S.1 S.2.1 dX4_add_15 (lv_at hl 5 rfl) ?_
      refine lv_aload_n S.1 S.2.1 dX4_add_17 rfl (lv_at hl 0 rfl) ?_
      refine q_X4_all S hJ dX4_add_18 ?_
      refine l_all S hJ dX4_add_21 ?_
      refine lv_icmp_ge (tgt := 43) S.1 S.2.1 dX4_add_22 (by decide) (fun _ => ?_) (fun c9 => absurd (nI_le (Nat.le_refl i) (by omega)) c9)
      refine lv_aload S.1 S.2.1 dX4_add_43 (lv_at hl 4 rfl) ?_
      refine lv_aload_n S.1 S.2.1 dX4_add_45 rfl (lv_at hl 0 rfl) ?_
      refine q_X4_all S hJ dX4_add_46 ?_
      refine l_all S hJ dX4_add_49 ?_
      refine lv_bipush (v := 7) S.1 S.2.1 dX4_add_50 (by decide) ?_
      refine w_newi S hJ (N := 7) (by decide) (by decide) (by decide) (Nat.le_of_ble_eq_true rfl) (by show _ ≤ 27; omega) dX4_add_52 (fun qr H hJ => ?_)
      rw [fw_push, yp] at hJ
      refine lv_dup S.1 S.2.1 dX4_add_54 rfl ?_
      refine lv_iconst (v := (nI 0)) S.1 S.2.1 dX4_add_55 (by rfl) ?_
      refine lv_iload_n S.1 S.2.1 dX4_add_56 rfl (lv_at hl 1 rfl) ?_
      refine o_y S hJ (Y.length + 1) yl2 (j := 0) (by decide) (by decide) dX4_add_57 (fun H locs hJ => ?_)
      rw [ys2] at hJ
      refine lv_dup S.1 S.2.1 dX4_add_58 rfl ?_
      refine lv_iconst (v := (nI 1)) S.1 S.2.1 dX4_add_59 (by rfl) ?_
      refine lv_iload_n S.1 S.2.1 dX4_add_60 rfl (lv_at hl 2 rfl) ?_
      refine o_y S hJ (Y.length + 1) yl2 (j := 1) (by decide) (by decide) dX4_add_61 (fun H locs hJ => ?_)
      rw [ys2] at hJ
      refine lv_dup S.1 S.2.1 dX4_add_62 rfl ?_
      refine lv_iconst (v := (nI 2)) S.1 S.2.1 dX4_add_63 (by rfl) ?_
      refine lv_iload_n S.1 S.2.1 dX4_add_64 rfl (lv_at hl 3 rfl) ?_
      refine o_y S hJ (Y.length + 1) yl2 (j := 2) (by decide) (by decide) dX4_add_65 (fun H locs hJ => ?_)
      rw [ys2] at hJ
      refine lv_dup S.1 S.2.1 dX4_add_66 rfl ?_
      refine lv_iconst (v := (nI 3)) S.1 S.2.1 dX4_add_67 (by rfl) ?_
      refine lv_bipush (v := 20) S.1 S.2.1 dX4_add_68 (by decide) ?_
      refine o_y S hJ (Y.length + 1) yl2 (j := 3) (by decide) (by decide) dX4_add_70 (fun H locs hJ => ?_)
      rw [ys2] at hJ
      refine lv_dup S.1 S.2.1 dX4_add_71 rfl ?_
      refine lv_iconst (v := (nI 4)) S.1 S.2.1 dX4_add_72 (by rfl) ?_
      refine lv_iconst (v := 0) S.1 S.2.1 dX4_add_73 (by decide) ?_
      refine o_y S hJ (Y.length + 1) yl2 (j := 4) (by decide) (by decide) dX4_add_74 (fun H locs hJ => ?_)
      rw [ys2] at hJ
      refine lv_dup S.1 S.2.1 dX4_add_75 rfl ?_
      refine lv_iconst (v := (nI 5)) S.1 S.2.1 dX4_add_76 (by rfl) ?_
      refine lv_iconst (v := 0) S.1 S.2.1 dX4_add_77 (by decide) ?_
      refine o_y S hJ (Y.length + 1) yl2 (j := 5) (by decide) (by decide) dX4_add_78 (fun H locs hJ => ?_)
      rw [ys2] at hJ
      refine lv_dup S.1 S.2.1 dX4_add_79 rfl ?_
      refine lv_bipush (v := (nI 6)) S.1 S.2.1 dX4_add_80 (by rfl) ?_
      refine lv_iconst (v := 0) S.1 S.2.1 dX4_add_82 (by decide) ?_
      refine o_y S hJ (Y.length + 1) yl2 (j := 6) (by decide) (by decide) dX4_add_83 (fun H locs hJ => ?_)
      rw [ys2] at hJ
      rw [fr7] at hJ
      refine w_ast S hJ _ _ (fw_y yl1) (fw_y yl2) (j := i) (by omega) (by omega) dX4_add_84 (fun H locs hJ => ?_)
      rw [fw_sety, ys1, fS_up] at hJ
      refine lv_aload_n S.1 S.2.1 dX4_add_85 rfl (lv_at hl 0 rfl) ?_
      refine lv_aload S.1 S.2.1 dX4_add_86 (lv_at hl 4 rfl) ?_
      refine va_put (D := gD G) (ci := 3) (C := RX4) (T := TX4) (N := 6) (v := .ref qm) S.1 S.2.1 S.2.2.2.2 alX4 tyX4 tyX4_ok nmX4 S.2.2.2.1 hJ.K hJ.2.1 hJ.2.2.1 hJ.2.2.2 (30 + 0) (fw_s rfl) rfl 5 (by decide) (S.2.2.2.2 _ (al (List.mem_of_getElem? (i := 584) rfl) rfl)) (fun _ h9 => h9) rfl (ty := .array (.array .int)) rfl rfl rfl (Nat.le_of_ble_eq_true rfl) dX4_add_88 (fun H locs hP hD hS => ?_)
      rw [wz_set] at hP hD
      have hJ := fw_add (G := G) (σ := σ) (q3 := q3) (row := row) (Y := Y) (z := (mk, lf, nI k, 20, 0, 0, 0)) (s := s) ⟨hJ.1, hP, hD, hS⟩
      refine lv_aload_n S.1 S.2.1 dX4_add_91 rfl (lv_at hl 0 rfl) ?_
      refine lv_iload_n S.1 S.2.1 dX4_add_92 rfl (lv_at hl 3 rfl) ?_
      refine dw_v hJ (rwV (As := [.int (nI k)]) (rest := []) S hJ (k_open l G (a := ((q0, q1, q2, qm), va_up aR i qr)) hk) (cw_X4_X4_open S.2.2.2.2 ⟨Nat.le_of_ble_eq_true rfl, Nat.le_of_ble_eq_true rfl⟩) (rcSim hJ) rfl hl.1 (Nat.le_of_ble_eq_true rfl) dX4_add_93 ⟨Nat.le_of_ble_eq_true rfl, by show _ ≤ 27; omega⟩) (fun ws1 H locs hq1 hJ => ?_)
      exact yt_v S hJ hr hlk ⟨qm, qr, hq1⟩ (by omega) (by omega) dX4_add_96
    | succ n9 ih =>
      intro i hi0 H locs hJ ls hl
      have hi2 : i < n := by omega
      refine lv_iload S.1 S.2.1 dX4_add_15 (lv_at hl 5 rfl) ?_
      refine lv_aload_n S.1 S.2.1 dX4_add_17 rfl (lv_at hl 0 rfl) ?_
      refine q_X4_all S hJ dX4_add_18 ?_
      refine l_all S hJ dX4_add_21 ?_
      refine lv_icmp_ge (tgt := 43) S.1 S.2.1 dX4_add_22 (by decide) (fun c9 => absurd c9 (nI_ge hi2 (by omega))) (fun _ => ?_)
      refine lv_aload S.1 S.2.1 dX4_add_25 (lv_at hl 4 rfl) ?_
      refine lv_iload S.1 S.2.1 dX4_add_27 (lv_at hl 5 rfl) ?_
      refine lv_aload_n S.1 S.2.1 dX4_add_29 rfl (lv_at hl 0 rfl) ?_
      refine q_X4_all S hJ dX4_add_30 ?_
      refine lv_iload S.1 S.2.1 dX4_add_33 (lv_at hl 5 rfl) ?_
      refine i_all S hJ (i := i) hi2 (by omega) dX4_add_35 ?_
      refine w_ast S hJ _ (30 + (4 + i)) (fw_y yl0) (fw_s (sw_r (v := (hh, pw, ar, st, ht, n, row)) hi2)) (j := i) (by omega) (by omega) dX4_add_36 (fun H locs hJ => ?_)
      rw [fw_sety, ys0, fS_up] at hJ
      have e9 : va_up aR i (aR i) = aR := va_up_same aR i
      have hJ : Jw G (fw G σ ((q0, q1, q2, q3), aR) (hh, pw, ar, st, ht, n, row) (Y ++ [(qm, .inl (gC G 5, n + 1, .inr (.inr (.inr (.inr (fS aR (i + 1)))))))])) s H locs := by rw [← e9]; rw [e9] at hJ ⊢; exact hJ
      refine lv_iinc (v := (nI (i + 1))) (lv' := [(5, .int (nI (i + 1))), (0, .ref q0), (1, .int mk), (2, .int lf), (3, .int (nI k)), (4, .ref qm)]) S.1 S.2.1 dX4_add_37 hl (k := 5) rfl (nI_1 i) (by decide) rfl (fun ls hl => ?_)
      refine lv_goto (tgt := 15) S.1 S.2.1 dX4_add_40 (by decide) ?_
      exact ih (i + 1) (by omega) _ _ hJ ls (lv_sub hl [1, 2, 3, 4, 5, 0] rfl)
  refine lv_aload_n S.1 S.2.1 dX4_add_0 rfl (lv_at hl 0 rfl) ?_
  refine q_X4_all S hJ dX4_add_1 ?_
  refine l_all S hJ dX4_add_4 ?_
  refine lv_iconst (v := 1) S.1 S.2.1 dX4_add_5 (by decide) ?_
  refine lv_iadd S.1 S.2.1 dX4_add_6 ?_
  rw [nI_1 n]
  refine w_newq S hJ (N := n + 1) (nI_pos (by omega)) (nI_clamp (by omega)) (by omega) (Nat.le_of_ble_eq_true rfl) (by show _ ≤ 27; omega) al_cl20 dX4_add_7 (fun qm H hJ => ?_)
  rw [fw_push, fS_0 aR] at hJ
  refine lv_astore (lv' := [(4, .ref qm), (0, .ref q0), (1, .int mk), (2, .int lf), (3, .int (nI k))]) S.1 S.2.1 dX4_add_10 hl (by decide) rfl (fun ls hl => ?_)
  refine lv_iconst (v := (nI 0)) S.1 S.2.1 dX4_add_12 (by rfl) ?_
  refine lv_istore (lv' := [(5, .int (nI 0)), (4, .ref qm), (0, .ref q0), (1, .int mk), (2, .int lf), (3, .int (nI k))]) S.1 S.2.1 dX4_add_13 hl (by decide) rfl (fun ls hl => ?_)
  refine W.widen (k := 1) (n := n + 1) (by omega) (by omega) ?_
  exact loop qm n 0 (by omega) _ _ hJ ls (lv_sub hl [2, 3, 4, 5, 1, 0] rfl)
set_option maxRecDepth 100000 in
set_option maxHeartbeats 4000000 in
theorem k_init (l : Launch) (G : Gt) {σ : St} (q0 : Nat) : Cw l G yX4_init cX4_init 1 none 1 3 10 [.ref q0] (wl G σ ++ [(q0, .inr (3, [.int 0, .int 0, .int 0, .null, .null, .null]))]) (Uv G (fun ws' => ∃ q1 q2 q3, ws' = fw G σ ((q0, q1, q2, q3), fun _ => 0) (0, 1, 0, s18, s18, 0, fun _ => (0, 0, 0, 0, 0, 0, 0)) [])) := by
  refine mw_intro (by decide +kernel) (Nat.le_of_ble_eq_true rfl) ?_
  intro p e s m below meth c S hr hlk hnm hJ ls hl
  have hl : lv_has ls 1 [(0, .ref q0)] := hl
  refine lv_aload_n S.1 S.2.1 dX4_init_0 rfl (lv_at hl 0 rfl) ?_
  refine W.objInit S.1 S.2.1 S.2.2.2.1 (S.2.2.2.2 _ (al (List.mem_of_getElem? (i := 576) rfl) rfl)) (S.2.2.2.2 _ (al (List.mem_of_getElem? (i := 43) rfl) rfl)) (S.2.2.2.2 _ (al (List.mem_of_getElem? (i := 44) rfl) rfl)) rfl (by rw [S.2.2.1]; exact hl.1) rfl dX4_init_1 (Nat.le_of_ble_eq_true rfl) (Nat.le_of_ble_eq_true rfl) ?_
  refine W.eq (g2 := F0 m 4 ls []) rfl ?_
  refine lv_aload_n S.1 S.2.1 dX4_init_4 rfl (lv_at hl 0 rfl) ?_
  refine lv_iconst (v := 1) S.1 S.2.1 dX4_init_5 (by decide) ?_
  refine va_put (D := gD G) (ci := 3) (C := RX4) (T := TX4) (N := 6) (v := .int 1) S.1 S.2.1 S.2.2.2.2 alX4 tyX4 tyX4_ok nmX4 S.2.2.2.1 hJ.K hJ.2.1 hJ.2.2.1 hJ.2.2.2 (30 + 0) (wz rfl) rfl 1 (by decide) (S.2.2.2.2 _ (al (List.mem_of_getElem? (i := 578) rfl) rfl)) (fun _ h9 => h9) rfl (ty := .boolean) rfl rfl rfl (Nat.le_of_ble_eq_true rfl) dX4_init_6 (fun H locs hP hD hS => ?_)
  rw [wz_set] at hP hD
  have hJ : Jw G (wl G σ ++ [(q0, .inr (3, [.int 0, .int 1, .int 0, .null, .null, .null]))]) s H locs := ⟨hJ.1, hP, hD, hS⟩
  refine lv_aload_n S.1 S.2.1 dX4_init_9 rfl (lv_at hl 0 rfl) ?_
  refine lv_iconst (v := 5) S.1 S.2.1 dX4_init_10 (by decide) ?_
  refine w_newi S hJ (N := 5) (by decide) (by decide) (by decide) (Nat.le_of_ble_eq_true rfl) (Nat.le_of_ble_eq_true rfl) dX4_init_11 (fun q1 H hJ => ?_)
  have hJ : Jw G (wl G σ ++ [(q0, .inr (3, [.int 0, .int 1, .int 0, .null, .null, .null])), (q1, .inl (gC G 4, 5, .inl (fun _ => 0)))]) s H locs := by rw [List.append_assoc] at hJ; exact hJ
  refine lv_dup S.1 S.2.1 dX4_init_13 rfl ?_
  refine lv_iconst (v := (nI 0)) S.1 S.2.1 dX4_init_14 (by rfl) ?_
  refine lv_bipush (v := (-18)) S.1 S.2.1 dX4_init_15 (by decide) ?_
  refine w_ist S hJ (30 + 1) (wz rfl) (j := 0) (by decide) (by decide) dX4_init_17 (fun H locs hJ => ?_)
  rw [wz_set] at hJ
  have hJ : Jw G (wl G σ ++ [(q0, .inr (3, [.int 0, .int 1, .int 0, .null, .null, .null])), (q1, .inl (gC G 4, 5, .inl (va_up (fun _ => 0) 0 (-18))))]) s H locs := hJ
  refine lv_dup S.1 S.2.1 dX4_init_18 rfl ?_
  refine lv_iconst (v := (nI 1)) S.1 S.2.1 dX4_init_19 (by rfl) ?_
  refine lv_bipush (v := (-18)) S.1 S.2.1 dX4_init_20 (by decide) ?_
  refine w_ist S hJ (30 + 1) (wz rfl) (j := 1) (by decide) (by decide) dX4_init_22 (fun H locs hJ => ?_)
  rw [wz_set] at hJ
  have hJ : Jw G (wl G σ ++ [(q0, .inr (3, [.int 0, .int 1, .int 0, .null, .null, .null])), (q1, .inl (gC G 4, 5, .inl (va_up (va_up (fun _ => 0) 0 (-18)) 1 (-18))))]) s H locs := hJ
  refine lv_dup S.1 S.2.1 dX4_init_23 rfl ?_
  refine lv_iconst (v := (nI 2)) S.1 S.2.1 dX4_init_24 (by rfl) ?_
  refine lv_bipush (v := (-18)) S.1 S.2.1 dX4_init_25 (by decide) ?_
  refine w_ist S hJ (30 + 1) (wz rfl) (j := 2) (by decide) (by decide) dX4_init_27 (fun H locs hJ => ?_)
  rw [wz_set] at hJ
  have hJ : Jw G (wl G σ ++ [(q0, .inr (3, [.int 0, .int 1, .int 0, .null, .null, .null])), (q1, .inl (gC G 4, 5, .inl (va_up (va_up (va_up (fun _ => 0) 0 (-18)) 1 (-18)) 2 (-18))))]) s H locs := hJ
  refine lv_dup S.1 S.2.1 dX4_init_28 rfl ?_
  refine lv_iconst (v := (nI 3)) S.1 S.2.1 dX4_init_29 (by rfl) ?_
  refine lv_bipush (v := (-18)) S.1 S.2.1 dX4_init_30 (by decide) ?_
  refine w_ist S hJ (30 + 1) (wz rfl) (j := 3) (by decide) (by decide) dX4_init_32 (fun H locs hJ => ?_)
  rw [wz_set] at hJ
  have hJ : Jw G (wl G σ ++ [(q0, .inr (3, [.int 0, .int 1, .int 0, .null, .null, .null])), (q1, .inl (gC G 4, 5, .inl (va_up (va_up (va_up (va_up (fun _ => 0) 0 (-18)) 1 (-18)) 2 (-18)) 3 (-18))))]) s H locs := hJ
  refine lv_dup S.1 S.2.1 dX4_init_33 rfl ?_
  refine lv_iconst (v := (nI 4)) S.1 S.2.1 dX4_init_34 (by rfl) ?_
  refine lv_bipush (v := (-18)) S.1 S.2.1 dX4_init_35 (by decide) ?_
  refine w_ist S hJ (30 + 1) (wz rfl) (j := 4) (by decide) (by decide) dX4_init_37 (fun H locs hJ => ?_)
  rw [wz_set] at hJ
  have hJ : Jw G (wl G σ ++ [(q0, .inr (3, [.int 0, .int 1, .int 0, .null, .null, .null])), (q1, .inl (gC G 4, 5, .inl (va_up (va_up (va_up (va_up (va_up (fun _ => 0) 0 (-18)) 1 (-18)) 2 (-18)) 3 (-18)) 4 (-18))))]) s H locs := hJ
  rw [s18_up] at hJ
  refine va_put (D := gD G) (ci := 3) (C := RX4) (T := TX4) (N := 6) (v := .ref q1) S.1 S.2.1 S.2.2.2.2 alX4 tyX4 tyX4_ok nmX4 S.2.2.2.1 hJ.K hJ.2.1 hJ.2.2.1 hJ.2.2.2 (30 + 0) (wz rfl) rfl 3 (by decide) (S.2.2.2.2 _ (al (List.mem_of_getElem? (i := 581) rfl) rfl)) (fun _ h9 => h9) rfl (ty := .array .int) rfl rfl rfl (Nat.le_of_ble_eq_true rfl) dX4_init_38 (fun H locs hP hD hS => ?_)
  rw [wz_set] at hP hD
  have hJ : Jw G (wl G σ ++ [(q0, .inr (3, [.int 0, .int 1, .int 0, .ref q1, .null, .null])), (q1, .inl (gC G 4, 5, .inl s18))]) s H locs := ⟨hJ.1, hP, hD, hS⟩
  refine lv_aload_n S.1 S.2.1 dX4_init_41 rfl (lv_at hl 0 rfl) ?_
  refine lv_iconst (v := 5) S.1 S.2.1 dX4_init_42 (by decide) ?_
  refine w_newi S hJ (N := 5) (by decide) (by decide) (by decide) (Nat.le_of_ble_eq_true rfl) (Nat.le_of_ble_eq_true rfl) dX4_init_43 (fun q2 H hJ => ?_)
  have hJ : Jw G (wl G σ ++ [(q0, .inr (3, [.int 0, .int 1, .int 0, .ref q1, .null, .null])), (q1, .inl (gC G 4, 5, .inl s18)), (q2, .inl (gC G 4, 5, .inl (fun _ => 0)))]) s H locs := by rw [List.append_assoc] at hJ; exact hJ
  refine lv_dup S.1 S.2.1 dX4_init_45 rfl ?_
  refine lv_iconst (v := (nI 0)) S.1 S.2.1 dX4_init_46 (by rfl) ?_
  refine lv_bipush (v := (-18)) S.1 S.2.1 dX4_init_47 (by decide) ?_
  refine w_ist S hJ (30 + 2) (wz rfl) (j := 0) (by decide) (by decide) dX4_init_49 (fun H locs hJ => ?_)
  rw [wz_set] at hJ
  have hJ : Jw G (wl G σ ++ [(q0, .inr (3, [.int 0, .int 1, .int 0, .ref q1, .null, .null])), (q1, .inl (gC G 4, 5, .inl s18)), (q2, .inl (gC G 4, 5, .inl (va_up (fun _ => 0) 0 (-18))))]) s H locs := hJ
  refine lv_dup S.1 S.2.1 dX4_init_50 rfl ?_
  refine lv_iconst (v := (nI 1)) S.1 S.2.1 dX4_init_51 (by rfl) ?_
  refine lv_bipush (v := (-18)) S.1 S.2.1 dX4_init_52 (by decide) ?_
  refine w_ist S hJ (30 + 2) (wz rfl) (j := 1) (by decide) (by decide) dX4_init_54 (fun H locs hJ => ?_)
  rw [wz_set] at hJ
  have hJ : Jw G (wl G σ ++ [(q0, .inr (3, [.int 0, .int 1, .int 0, .ref q1, .null, .null])), (q1, .inl (gC G 4, 5, .inl s18)), (q2, .inl (gC G 4, 5, .inl (va_up (va_up (fun _ => 0) 0 (-18)) 1 (-18))))]) s H locs := hJ
  refine lv_dup S.1 S.2.1 dX4_init_55 rfl ?_
  refine lv_iconst (v := (nI 2)) S.1 S.2.1 dX4_init_56 (by rfl) ?_
  refine lv_bipush (v := (-18)) S.1 S.2.1 dX4_init_57 (by decide) ?_
  refine w_ist S hJ (30 + 2) (wz rfl) (j := 2) (by decide) (by decide) dX4_init_59 (fun H locs hJ => ?_)
  rw [wz_set] at hJ
  have hJ : Jw G (wl G σ ++ [(q0, .inr (3, [.int 0, .int 1, .int 0, .ref q1, .null, .null])), (q1, .inl (gC G 4, 5, .inl s18)), (q2, .inl (gC G 4, 5, .inl (va_up (va_up (va_up (fun _ => 0) 0 (-18)) 1 (-18)) 2 (-18))))]) s H locs := hJ
  refine lv_dup S.1 S.2.1 dX4_init_60 rfl ?_
  refine lv_iconst (v := (nI 3)) S.1 S.2.1 dX4_init_61 (by rfl) ?_
  refine lv_bipush (v := (-18)) S.1 S.2.1 dX4_init_62 (by decide) ?_
  refine w_ist S hJ (30 + 2) (wz rfl) (j := 3) (by decide) (by decide) dX4_init_64 (fun H locs hJ => ?_)
  rw [wz_set] at hJ
  have hJ : Jw G (wl G σ ++ [(q0, .inr (3, [.int 0, .int 1, .int 0, .ref q1, .null, .null])), (q1, .inl (gC G 4, 5, .inl s18)), (q2, .inl (gC G 4, 5, .inl (va_up (va_up (va_up (va_up (fun _ => 0) 0 (-18)) 1 (-18)) 2 (-18)) 3 (-18))))]) s H locs := hJ
  refine lv_dup S.1 S.2.1 dX4_init_65 rfl ?_
  refine lv_iconst (v := (nI 4)) S.1 S.2.1 dX4_init_66 (by rfl) ?_
  refine lv_bipush (v := (-18)) S.1 S.2.1 dX4_init_67 (by decide) ?_
  refine w_ist S hJ (30 + 2) (wz rfl) (j := 4) (by decide) (by decide) dX4_init_69 (fun H locs hJ => ?_)
  rw [wz_set] at hJ
  have hJ : Jw G (wl G σ ++ [(q0, .inr (3, [.int 0, .int 1, .int 0, .ref q1, .null, .null])), (q1, .inl (gC G 4, 5, .inl s18)), (q2, .inl (gC G 4, 5, .inl (va_up (va_up (va_up (va_up (va_up (fun _ => 0) 0 (-18)) 1 (-18)) 2 (-18)) 3 (-18)) 4 (-18))))]) s H locs := hJ
  rw [s18_up] at hJ
  refine va_put (D := gD G) (ci := 3) (C := RX4) (T := TX4) (N := 6) (v := .ref q2) S.1 S.2.1 S.2.2.2.2 alX4 tyX4 tyX4_ok nmX4 S.2.2.2.1 hJ.K hJ.2.1 hJ.2.2.1 hJ.2.2.2 (30 + 0) (wz rfl) rfl 4 (by decide) (S.2.2.2.2 _ (al (List.mem_of_getElem? (i := 583) rfl) rfl)) (fun _ h9 => h9) rfl (ty := .array .int) rfl rfl rfl (Nat.le_of_ble_eq_true rfl) dX4_init_70 (fun H locs hP hD hS => ?_)
  rw [wz_set] at hP hD
  have hJ : Jw G (wl G σ ++ [(q0, .inr (3, [.int 0, .int 1, .int 0, .ref q1, .ref q2, .null])), (q1, .inl (gC G 4, 5, .inl s18)), (q2, .inl (gC G 4, 5, .inl s18))]) s H locs := ⟨hJ.1, hP, hD, hS⟩
  refine lv_aload_n S.1 S.2.1 dX4_init_73 rfl (lv_at hl 0 rfl) ?_
  refine lv_iconst (v := 0) S.1 S.2.1 dX4_init_74 (by decide) ?_
  refine w_newq S hJ (N := 0) (by decide) (by decide) (by decide) (Nat.le_of_ble_eq_true rfl) (Nat.le_of_ble_eq_true rfl) al_cl20 dX4_init_75 (fun q3 H hJ => ?_)
  have hJ : Jw G (wl G σ ++ [(q0, .inr (3, [.int 0, .int 1, .int 0, .ref q1, .ref q2, .null])), (q1, .inl (gC G 4, 5, .inl s18)), (q2, .inl (gC G 4, 5, .inl s18)), (q3, .inl (gC G 5, 0, .inr (.inr (.inr (.inr (fS (fun _ => 0) 0))))))]) s H locs := by rw [List.append_assoc, fS_0 (fun _ => 0)] at hJ; exact hJ
  refine va_put (D := gD G) (ci := 3) (C := RX4) (T := TX4) (N := 6) (v := .ref q3) S.1 S.2.1 S.2.2.2.2 alX4 tyX4 tyX4_ok nmX4 S.2.2.2.1 hJ.K hJ.2.1 hJ.2.2.1 hJ.2.2.2 (30 + 0) (wz rfl) rfl 5 (by decide) (S.2.2.2.2 _ (al (List.mem_of_getElem? (i := 584) rfl) rfl)) (fun _ h9 => h9) rfl (ty := .array (.array .int)) rfl rfl rfl (Nat.le_of_ble_eq_true rfl) dX4_init_78 (fun H locs hP hD hS => ?_)
  rw [wz_set] at hP hD
  have hJ : Jw G (wl G σ ++ [(q0, .inr (3, [.int 0, .int 1, .int 0, .ref q1, .ref q2, .ref q3])), (q1, .inl (gC G 4, 5, .inl s18)), (q2, .inl (gC G 4, 5, .inl s18)), (q3, .inl (gC G 5, 0, .inr (.inr (.inr (.inr (fS (fun _ => 0) 0))))))]) s H locs := ⟨hJ.1, hP, hD, hS⟩
  exact yt_v S hJ hr hlk ⟨q1, q2, q3, rfl⟩ (by omega) (by omega) dX4_init_81
