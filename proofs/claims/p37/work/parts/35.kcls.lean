/-! the class's cells, in the order of their making -/
def xe (h0 e0 : Nat) (cS cP : ClassId) (q1 q2 q3 q4 : Nat) (aS aP : Nat → Nat) (nS nP : Nat) : Nat → Nat × va_E
  | 0 => (h0, xX q1 q2 q3 q4)
  | 1 => (q1, rfs cS 5 (fS aS nS))
  | 2 => (q2, rfs cP 20 (fS aP nP))
  | 3 => (q3, shN (-1))
  | 4 => (q4, prN e0)
  | k + 5 => if k < 5 then (aS k, shN (nI k)) else (aP (k - 5), prN e0)
def xl (h0 e0 : Nat) (cS cP : ClassId) (q1 q2 q3 q4 : Nat) (aS aP : Nat → Nat) (nS nP n : Nat) : va_W := (List.range n).map (xe h0 e0 cS cP q1 q2 q3 q4 aS aP nS nP)
section XL
variable {h0 e0 : Nat} {cS cP : ClassId} {q1 q2 q3 q4 q : Nat} {aS aP : Nat → Nat} {nS nP n k j : Nat}
theorem xl_len : (xl h0 e0 cS cP q1 q2 q3 q4 aS aP nS nP n).length = n := by simp [xl]
theorem xl_at (h : j < n) : (xl h0 e0 cS cP q1 q2 q3 q4 aS aP nS nP n)[j]? = some (xe h0 e0 cS cP q1 q2 q3 q4 aS aP nS nP j) := by
  simp [xl, List.getElem?_map, List.getElem?_range h]
theorem xl_no (h : n ≤ j) : (xl h0 e0 cS cP q1 q2 q3 q4 aS aP nS nP n)[j]? = none := by
  rw [List.getElem?_eq_none_iff, xl_len]
  exact h
theorem xl_0 (h : 0 < n) : (xl h0 e0 cS cP q1 q2 q3 q4 aS aP nS nP n)[0]? = some (h0, xX q1 q2 q3 q4) := xl_at h
theorem xl_1 (h : 1 < n) : (xl h0 e0 cS cP q1 q2 q3 q4 aS aP nS nP n)[1]? = some (q1, rfs cS 5 (fS aS nS)) := xl_at h
theorem xl_2 (h : 2 < n) : (xl h0 e0 cS cP q1 q2 q3 q4 aS aP nS nP n)[2]? = some (q2, rfs cP 20 (fS aP nP)) := xl_at h
theorem app_l {ws : va_W} {y z : Nat × va_E} (h : ws[j]? = some y) : (ws ++ [z])[j]? = some y := by
  rw [List.getElem?_append_left (List.getElem?_eq_some_iff.mp h).1]
  exact h
theorem app_r {ws : va_W} {z : Nat × va_E} (h : ws.length = j) : (ws ++ [z])[j]? = some z := by
  rw [List.getElem?_append_right (by omega), h, Nat.sub_self]
  rfl
theorem app_no {ws : va_W} {z : Nat × va_E} (h : ws.length < j) : (ws ++ [z])[j]? = none := by
  rw [List.getElem?_eq_none_iff, List.length_append]
  exact h
theorem xe_S (h1 : j ≠ 1) (h2 : j < 5 + k) : xe h0 e0 cS cP q1 q2 q3 q4 aS aP k 0 j = xe h0 e0 cS cP q1 q2 q3 q4 (va_up aS k q) aP (k + 1) 0 j := by
  match j, h1, h2 with
  | 0, _, _ => rfl
  | 1, h, _ => exact absurd rfl h
  | 2, _, _ => rfl
  | 3, _, _ => rfl
  | 4, _, _ => rfl
  | i + 5, _, h =>
    show (if i < 5 then (aS i, shN (nI i)) else (aP (i - 5), prN e0)) = (if i < 5 then (va_up aS k q i, shN (nI i)) else (aP (i - 5), prN e0))
    rw [va_up_ne _ _ (by omega)]
theorem xe_P (h1 : j ≠ 2) (h2 : j < 10 + k) : xe h0 e0 cS cP q1 q2 q3 q4 aS aP 5 k j = xe h0 e0 cS cP q1 q2 q3 q4 aS (va_up aP k q) 5 (k + 1) j := by
  match j, h1, h2 with
  | 0, _, _ => rfl
  | 1, _, _ => rfl
  | 2, h, _ => exact absurd rfl h
  | 3, _, _ => rfl
  | 4, _, _ => rfl
  | i + 5, _, h =>
    show (if i < 5 then (aS i, shN (nI i)) else (aP (i - 5), prN e0)) = (if i < 5 then (aS i, shN (nI i)) else (va_up aP k q (i - 5), prN e0))
    by_cases h5 : i < 5
    · rw [if_pos h5, if_pos h5]
    · rw [if_neg h5, if_neg h5, va_up_ne _ _ (by omega)]
theorem xl_S (hk : k < 5) : ((xl h0 e0 cS cP q1 q2 q3 q4 aS aP k 0 (5 + k)) ++ [(q, shN (nI k))]).set 1 (q1, rfs cS 5 (va_up (fS aS k) k (some q))) = xl h0 e0 cS cP q1 q2 q3 q4 (va_up aS k q) aP (k + 1) 0 (5 + (k + 1)) := by
  apply List.ext_getElem?
  intro j
  by_cases h1 : j = 1
  · subst h1
    rw [List.getElem?_set_self (by rw [List.length_append, xl_len]; simp; omega), xl_1 (by omega), fS_up]
  · rw [List.getElem?_set_ne (Ne.symm h1)]
    by_cases h2 : j < 5 + k
    · rw [List.getElem?_append_left (by rw [xl_len]; exact h2), xl_at h2, xl_at (by omega), xe_S h1 h2]
    · by_cases h3 : j = 5 + k
      · subst h3
        rw [app_r xl_len, xl_at (by omega), Nat.add_comm 5 k]
        show _ = some (if k < 5 then (va_up aS k q k, shN (nI k)) else (aP (k - 5), prN e0))
        rw [if_pos hk, va_up_self]
      · rw [app_no (by rw [xl_len]; omega), xl_no (by omega)]
theorem xl_P (hk : k < 20) : ((xl h0 e0 cS cP q1 q2 q3 q4 aS aP 5 k (10 + k)) ++ [(q, prN e0)]).set 2 (q2, rfs cP 20 (va_up (fS aP k) k (some q))) = xl h0 e0 cS cP q1 q2 q3 q4 aS (va_up aP k q) 5 (k + 1) (10 + (k + 1)) := by
  apply List.ext_getElem?
  intro j
  by_cases h1 : j = 2
  · subst h1
    rw [List.getElem?_set_self (by rw [List.length_append, xl_len]; simp; omega), xl_2 (by omega), fS_up]
  · rw [List.getElem?_set_ne (Ne.symm h1)]
    by_cases h2 : j < 10 + k
    · rw [List.getElem?_append_left (by rw [xl_len]; exact h2), xl_at h2, xl_at (by omega), xe_P h1 h2]
    · by_cases h3 : j = 10 + k
      · subst h3
        rw [app_r xl_len, xl_at (by omega), show 10 + k = (5 + k) + 5 by omega]
        show _ = some (if 5 + k < 5 then (aS (5 + k), shN (nI (5 + k))) else (va_up aP k q (5 + k - 5), prN e0))
        rw [if_neg (by omega), show 5 + k - 5 = k by omega, va_up_self]
      · rw [app_no (by rw [xl_len]; omega), xl_no (by omega)]
end XL
/-- what the constructor finds: tables, the first of the stages -/
def X0 (D : va_G) (e0 : Nat) (A : Nat → Prop) (U : State) : Prop := va_K D vwCl [] U ∧ va_Z RX2 "UNMADE" enD (.ref e0) A U U.heap ∧ (va_AO "PromiseShelves$Shelf" U ∧ va_AO "PromiseShelves$Promise" U) ∧ ∀ w ∈ NW, va_Nw w U
abbrev KX : Type := (ClassId × ClassId) × (Nat × Nat × Nat × Nat) × (Nat → Nat) × (Nat → Nat)
def KXB (D : va_G) (h0 e0 : Nat) (A : Nat → Prop) (u : KX) (t : State) : Prop :=
  va_P D vwCl (xl h0 e0 u.1.1 u.1.2 u.2.1.1 u.2.1.2.1 u.2.1.2.2.1 u.2.1.2.2.2 u.2.2.1 u.2.2.2 5 20 30) t.heap ∧ va_D A (xl h0 e0 u.1.1 u.1.2 u.2.1.1 u.2.1.2.1 u.2.1.2.2.1 u.2.1.2.2.2 u.2.2.1 u.2.2.2 5 20 30) ∧ va_K D vwCl [(u.1.1, .object "PromiseShelves$Shelf"), (u.1.2, .object "PromiseShelves$Promise")] t
abbrev QX (D : va_G) (h0 e0 : Nat) (A : Nat → Prop) := va_Qv (fun _ : KX => True) (KXB D h0 e0 A) A
theorem k_S_pc {D : va_G} {q : Nat} {v : Int32} : FrameBlind (va_Pc [.ref q, .int v] (fun U => va_K D vwCl [] U ∧ va_P D vwCl [(q, .inr (1, [.int 0, .int 0, .int 0]))] U.heap)) := fun _ U _ _ h => ⟨h.1, va_K.moved (u := U) (Vm.Alike.refl U.vm) h.2.1, h.2.2⟩
theorem k_P_pc {D : va_G} {q e0 : Nat} : FrameBlind (va_Pc [.ref q] (fun U => va_K D vwCl [] U ∧ va_P D vwCl [(q, .inr (0, [.null, .null, .int 0, .int 0, .int 0, .int 0]))] U.heap ∧ va_Z RX2 "UNMADE" enD (.ref e0) (oneA q) U U.heap)) := fun _ U _ _ h => ⟨h.1, va_K.moved (u := U) (Vm.Alike.refl U.vm) h.2.1, h.2.2.1, va_Z.moved (u := U) (Vm.Alike.refl U.vm) h.2.2.2⟩
theorem k_own {A : Nat → Prop} {ws : va_W} {q : Nat} {e1 : va_E} (hD : va_D A (ws ++ [(q, e1)])) : ∀ z, oneA q z → A z := fun z h => by
  rw [show z = q from h]
  exact hD.2 _ _ (app_r rfl)
section KX
variable {p : Program} {l : Launch} {e : Env} {s : State} {m : MethodId} {below : List Frame} {meth : Method} {c : Code}
variable {D : va_G} {h0 e0 : Nat} {A : Nat → Prop} {cS cP : ClassId} {q1 q2 q3 q4 : Nat} {aS : Nat → Nat}
set_option maxRecDepth 100000 in
set_option maxHeartbeats 4000000 in
theorem kx_P (S : CallFix p m c cX3_init 2 s ([.ref h0] : List Value).toArray AL RX3) (hr : meth.sig.returnType = none) (hlk : meth.locks = false) (hK : va_K D vwCl [(cS, .object "PromiseShelves$Shelf"), (cP, .object "PromiseShelves$Promise")] s) (hZ : va_Z RX2 "UNMADE" enD (.ref e0) A s s.heap) (hN : ∀ w ∈ NW, va_Nw w s) (hA : ∀ z : Nat, s.heap.size ≤ z → A z) : ∀ (n9 k : Nat), k + n9 = 20 → ∀ (aP : Nat → Nat) (H : Heap) (locs : List Loc), va_P D vwCl (xl h0 e0 cS cP q1 q2 q3 q4 aS aP 5 k (10 + k)) H → va_D A (xl h0 e0 cS cP q1 q2 q3 q4 aS aP 5 k (10 + k)) → va_S A s.heap H locs → ∀ ls : Array Slot, lv_has ls 2 [(0, .ref h0), (1, .int (nI k))] → W p l e (rm 2 29 169) s m ([.ref h0] : List Value).toArray below meth c H locs (9 + k) (49 + 6 * k) (MQ below (QX D h0 e0 A) ([.ref h0] : List Value).toArray s 29 169 A) (F0 m 93 ls []) := by
  intro n9
  induction n9 with
  | zero =>
    intro k hk0 aP H locs hP hD hS ls hl
    obtain rfl : k = 20 := by omega
    refine lv_iload_n S.1 S.2.1 dX3_init_93 rfl (lv_at hl 1 rfl) ?_
    refine lv_bipush (v := 20) S.1 S.2.1 dX3_init_94 (by decide) ?_
    refine lv_icmp_ge (tgt := 118) S.1 S.2.1 dX3_init_96 (by decide) (fun cz_96 => ?_) (fun c9 => absurd (nI_le (a := 20) (b := 20) (Nat.le_refl 20) (by omega)) c9)
    refine W.widen (k := 29) (n := 169) (by omega) (by omega) ?_
    exact W.vret S.1 S.2.1 hr (fun t ht hW => ⟨⟨((cS, cP), (q1, q2, q3, q4), aS, aP), rfl, trivial, (by show va_P D vwCl _ t.heap; rw [ht]; exact hP), hD, va_K.moved hW.alike hK⟩, hS.F ht⟩) hS.2.2 dX3_init_118 hlk
  | succ n9 ih =>
    intro k hk0 aP H locs hP hD hS ls hl
    have hk2 : k < 20 := by omega
    refine lv_iload_n S.1 S.2.1 dX3_init_93 rfl (lv_at hl 1 rfl) ?_
    refine lv_bipush (v := 20) S.1 S.2.1 dX3_init_94 (by decide) ?_
    refine lv_icmp_ge (tgt := 118) S.1 S.2.1 dX3_init_96 (by decide) (fun c9 => absurd c9 (nI_ge (b := 20) hk2 (by omega))) (fun cz_96 => ?_)
    refine lv_aload_n S.1 S.2.1 dX3_init_99 rfl (lv_at hl 0 rfl) ?_
    refine va_get (D := D) (ci := 2) (v := .ref q2) (C := RX3) (T := TX3) (N := 8) S.1 S.2.1 S.2.2.2.2 alX3 S.2.2.2.1 hK hP 0 (xl_0 (by omega)) rfl 1 (by decide) (S.2.2.2.2 _ (al (List.mem_of_getElem? (i := 101) rfl) rfl)) (fun _ h9 => h9) rfl dX3_init_100 ?_
    refine lv_iload_n S.1 S.2.1 dX3_init_103 rfl (lv_at hl 1 rfl) ?_
    refine va_new (D := D) (ci := 0) (fs := [.null, .null, .int 0, .int 0, .int 0, .int 0]) (C := RX0) (T := TX0) (N := 6) S.1 S.2.1 S.2.2.2.2 alX0 tyX0 tyX0_ok S.2.2.2.1 (S.2.2.2.2 _ (al (List.mem_of_getElem? (i := 47) rfl) rfl)) (S.2.2.2.2 _ (al (List.mem_of_getElem? (i := 68) rfl) rfl)) (S.2.2.2.2 _ (al (List.mem_of_getElem? (i := 26) rfl) rfl)) hK hP hD hS hA rfl (fun j hj => by rcases (show j = 0 ∨ j = 1 ∨ j = 2 ∨ j = 3 ∨ j = 4 ∨ j = 5 by omega) with rfl | rfl | rfl | rfl | rfl | rfl <;> rfl) (by show _ ≤ 29; omega) (by show _ ≤ 169; omega) dX3_init_104 (fun q H hP hD hS => ?_)
    refine lv_dup S.1 S.2.1 dX3_init_107 rfl ?_
    refine va_callv (va_runIN (As := []) (rest := [.ref q, .int (nI k), .ref q2]) S (k_P l D q e0) ⟨va_cnB 0 S.2.2.2.2 (g_C (al (List.mem_of_getElem? (i := 71) rfl) rfl)) rfl rfl rfl (hN _ (List.mem_filter.mpr ⟨List.mem_of_getElem? (i := 69) rfl, rfl⟩)) (S.2.2.2.2 _ (al (List.mem_of_getElem? (i := 26) rfl) rfl)) (by decide +kernel) ⟨Nat.le_of_ble_eq_true rfl, Nat.le_of_ble_eq_true rfl⟩, rfl, (S.2.2.2.2 _ (al (List.mem_of_getElem? (i := 70) rfl) rfl))⟩ ⟨k_P_pc, fun U hU hW => ⟨rfl, va_K.moved hW.alike (hK.sub (tys' := []) [] rfl), by rw [hU]; exact k_sub (A := A) hP, by rw [hU]; exact ((va_Z.kept hZ hS.2.1).moved hW.alike).narrow (k_own hD)⟩⟩ rfl rfl hl.1 rfl (lv_room (Nat.le_of_ble_eq_true rfl)) dX3_init_108 ⟨(by show _ ≤ 29; omega), (by show _ ≤ 169; omega)⟩) hS (fun z _ h => k_own hD z h) (k_own hD) (fun u9 t H1 locs ht hvm hw hB hz1 hk1 hS => ?_)
    obtain ⟨hP, hD⟩ := k_join (e2 := prN e0) hP hD hk1 (by have hB9 : va_P D vwCl _ t.heap := hB; rw [ht] at hB9; exact hB9)
    refine va_astq S.1 S.2.1 hK hP hD hS 2 1 (10 + k) 0 (n := 20) (app_l (xl_2 (by omega))) rfl (app_r xl_len) rfl (vp_nI hk2 (by omega)) dX3_init_111 (fun H locs hP hD hS => ?_)
    rw [nI_clamp (by omega), xl_P hk2] at hP hD
    refine lv_iinc (v := (nI (k + 1))) (lv' := [(1, .int (nI (k + 1))), (0, .ref h0)]) S.1 S.2.1 dX3_init_112 hl (k := 1) rfl (nI_1 k) (by decide) rfl (fun ls hl => ?_)
    refine lv_goto (tgt := 93) S.1 S.2.1 dX3_init_115 (by decide) ?_
    refine W.widen (k := 9 + (k + 1)) (n := 49 + 6 * (k + 1)) (by omega) (by omega) ?_
    exact ih (k + 1) (by omega) _ _ _ hP hD hS ls (lv_sub hl [1, 0] rfl)
set_option maxRecDepth 100000 in
set_option maxHeartbeats 4000000 in
theorem kx_S (S : CallFix p m c cX3_init 2 s ([.ref h0] : List Value).toArray AL RX3) (hr : meth.sig.returnType = none) (hlk : meth.locks = false) (hK : va_K D vwCl [(cS, .object "PromiseShelves$Shelf"), (cP, .object "PromiseShelves$Promise")] s) (hZ : va_Z RX2 "UNMADE" enD (.ref e0) A s s.heap) (hN : ∀ w ∈ NW, va_Nw w s) (hA : ∀ z : Nat, s.heap.size ≤ z → A z) (aP : Nat → Nat) : ∀ (n9 k : Nat), k + n9 = 5 → ∀ (aS : Nat → Nat) (H : Heap) (locs : List Loc), va_P D vwCl (xl h0 e0 cS cP q1 q2 q3 q4 aS aP k 0 (5 + k)) H → va_D A (xl h0 e0 cS cP q1 q2 q3 q4 aS aP k 0 (5 + k)) → va_S A s.heap H locs → ∀ ls : Array Slot, lv_has ls 2 [(0, .ref h0), (1, .int (nI k))] → W p l e (rm 2 29 169) s m ([.ref h0] : List Value).toArray below meth c H locs (4 + k) (34 + 3 * k) (MQ below (QX D h0 e0 A) ([.ref h0] : List Value).toArray s 29 169 A) (F0 m 66 ls []) := by
  intro n9
  induction n9 with
  | zero =>
    intro k hk0 aS H locs hP hD hS ls hl
    obtain rfl : k = 5 := by omega
    refine lv_iload_n S.1 S.2.1 dX3_init_66 rfl (lv_at hl 1 rfl) ?_
    refine lv_iconst (v := 5) S.1 S.2.1 dX3_init_67 (by decide) ?_
    refine lv_icmp_ge (tgt := 91) S.1 S.2.1 dX3_init_68 (by decide) (fun cz_68 => ?_) (fun c9 => absurd (nI_le (a := 5) (b := 5) (Nat.le_refl 5) (by omega)) c9)
    refine lv_iconst (v := (nI 0)) S.1 S.2.1 dX3_init_91 (by rfl) ?_
    refine lv_istore_n (lv' := [(1, .int (nI 0)), (0, .ref h0)]) S.1 S.2.1 dX3_init_92 rfl hl (by decide) rfl (fun ls hl => ?_)
    exact kx_P S hr hlk hK hZ hN hA 20 0 (by omega) aP _ _ hP hD hS ls (lv_sub hl [1, 0] rfl)
  | succ n9 ih =>
    intro k hk0 aS H locs hP hD hS ls hl
    have hk2 : k < 5 := by omega
    refine lv_iload_n S.1 S.2.1 dX3_init_66 rfl (lv_at hl 1 rfl) ?_
    refine lv_iconst (v := 5) S.1 S.2.1 dX3_init_67 (by decide) ?_
    refine lv_icmp_ge (tgt := 91) S.1 S.2.1 dX3_init_68 (by decide) (fun c9 => absurd c9 (nI_ge (b := 5) hk2 (by omega))) (fun cz_68 => ?_)
    refine lv_aload_n S.1 S.2.1 dX3_init_71 rfl (lv_at hl 0 rfl) ?_
    refine va_get (D := D) (ci := 2) (v := .ref q1) (C := RX3) (T := TX3) (N := 8) S.1 S.2.1 S.2.2.2.2 alX3 S.2.2.2.1 hK hP 0 (xl_0 (by omega)) rfl 0 (by decide) (S.2.2.2.2 _ (al (List.mem_of_getElem? (i := 100) rfl) rfl)) (fun _ h9 => h9) rfl dX3_init_72 ?_
    refine lv_iload_n S.1 S.2.1 dX3_init_75 rfl (lv_at hl 1 rfl) ?_
    refine va_new (D := D) (ci := 1) (fs := [.int 0, .int 0, .int 0]) (C := RX1) (T := TX1) (N := 3) S.1 S.2.1 S.2.2.2.2 alX1 tyX1 tyX1_ok S.2.2.2.1 (S.2.2.2.2 _ (al (List.mem_of_getElem? (i := 45) rfl) rfl)) (S.2.2.2.2 _ (al (List.mem_of_getElem? (i := 49) rfl) rfl)) (S.2.2.2.2 _ (al (List.mem_of_getElem? (i := 25) rfl) rfl)) hK hP hD hS hA rfl (fun j hj => by rcases (show j = 0 ∨ j = 1 ∨ j = 2 by omega) with rfl | rfl | rfl <;> rfl) (by show _ ≤ 29; omega) (by show _ ≤ 169; omega) dX3_init_76 (fun q H hP hD hS => ?_)
    refine lv_dup S.1 S.2.1 dX3_init_79 rfl ?_
    refine lv_iload_n S.1 S.2.1 dX3_init_80 rfl (lv_at hl 1 rfl) ?_
    refine va_callv (va_runIN (As := [.int (nI k)]) (rest := [.ref q, .int (nI k), .ref q1]) S (k_S l D q (nI k)) ⟨va_cnB 1 S.2.2.2.2 (g_C (al (List.mem_of_getElem? (i := 52) rfl) rfl)) rfl rfl rfl (hN _ (List.mem_filter.mpr ⟨List.mem_of_getElem? (i := 50) rfl, rfl⟩)) (S.2.2.2.2 _ (al (List.mem_of_getElem? (i := 25) rfl) rfl)) (by decide +kernel) ⟨Nat.le_of_ble_eq_true rfl, Nat.le_of_ble_eq_true rfl⟩, rfl, (S.2.2.2.2 _ (al (List.mem_of_getElem? (i := 51) rfl) rfl))⟩ ⟨k_S_pc, fun U hU hW => ⟨rfl, va_K.moved hW.alike (hK.sub (tys' := []) [] rfl), by rw [hU]; exact k_sub (A := A) hP⟩⟩ rfl rfl hl.1 rfl (lv_room (Nat.le_of_ble_eq_true rfl)) dX3_init_81 ⟨(by show _ ≤ 29; omega), (by show _ ≤ 169; omega)⟩) hS (fun z _ h => k_own hD z h) (k_own hD) (fun u9 t H1 locs ht hvm hw hB hz1 hk1 hS => ?_)
    obtain ⟨hP, hD⟩ := k_join (e2 := shN (nI k)) hP hD hk1 (by have hB9 : va_P D vwCl _ t.heap := hB; rw [ht] at hB9; exact hB9)
    refine va_astq S.1 S.2.1 hK hP hD hS 1 0 (5 + k) 1 (n := 5) (app_l (xl_1 (by omega))) rfl (app_r xl_len) rfl (vp_nI hk2 (by omega)) dX3_init_84 (fun H locs hP hD hS => ?_)
    rw [nI_clamp (by omega), xl_S hk2] at hP hD
    refine lv_iinc (v := (nI (k + 1))) (lv' := [(1, .int (nI (k + 1))), (0, .ref h0)]) S.1 S.2.1 dX3_init_85 hl (k := 1) rfl (nI_1 k) (by decide) rfl (fun ls hl => ?_)
    refine lv_goto (tgt := 66) S.1 S.2.1 dX3_init_88 (by decide) ?_
    refine W.widen (k := 4 + (k + 1)) (n := 34 + 3 * (k + 1)) (by omega) (by omega) ?_
    exact ih (k + 1) (by omega) _ _ _ hP hD hS ls (lv_sub hl [1, 0] rfl)
end KX
set_option maxRecDepth 100000 in
set_option maxHeartbeats 4000000 in
theorem k_X (l : Launch) (D : va_G) (h0 e0 : Nat) (A : Nat → Prop) : Met l yX3_init (.code yX3_init cX3_init 2 none :: AL) (rm 2 29 169) (va_Pc [.ref h0] (fun U => X0 D e0 A U ∧ va_P D vwCl [(h0, .inr (2, [.null, .null, .int 0, .int 0, .int 0, .int 0, .null, .null]))] U.heap ∧ A h0 ∧ ∀ z : Nat, U.heap.size ≤ z → A z)) (QX D h0 e0 A) 29 169 A := by
  refine mt_raw (by decide +kernel) (Nat.le_of_ble_eq_true rfl) ?_
  intro p e s m below meth c S hr hlk hnm hPw ls hl
  obtain ⟨⟨hK, hZ, ⟨hO1, hO2⟩, hN⟩, hP, hA0, hA⟩ := hPw
  have hl : lv_has ls 2 [(0, .ref h0)] := hl
  have hS : va_S A s.heap s.heap [] := va_S.rf
  have hD : va_D A [(h0, (.inr (2, [.null, .null, .int 0, .int 0, .int 0, .int 0, .null, .null]) : va_E))] := ⟨fun i j x y hx hy _ => by rw [(one_at hx).1, (one_at hy).1], fun k x hx => by rw [(one_at hx).2]; exact hA0⟩
  refine lv_aload_n S.1 S.2.1 dX3_init_0 rfl (lv_at hl 0 rfl) ?_
  refine W.objInit S.1 S.2.1 S.2.2.2.1 (S.2.2.2.2 _ (al (List.mem_of_getElem? (i := 42) rfl) rfl)) (S.2.2.2.2 _ (al (List.mem_of_getElem? (i := 43) rfl) rfl)) (S.2.2.2.2 _ (al (List.mem_of_getElem? (i := 44) rfl) rfl)) rfl (by rw [S.2.2.1]; exact hl.1) rfl dX3_init_1 (Nat.le_of_ble_eq_true rfl) (Nat.le_of_ble_eq_true rfl) ?_
  refine W.eq (g2 := F0 m 4 ls []) rfl ?_
  refine lv_aload_n S.1 S.2.1 dX3_init_4 rfl (lv_at hl 0 rfl) ?_
  refine lv_iconst (v := 5) S.1 S.2.1 dX3_init_5 (by decide) ?_
  refine va_newq (C := "PromiseShelves$Shelf") S.1 S.2.1 S.2.2.2.1 (S.2.2.2.2 _ (al (List.mem_of_getElem? (i := 45) rfl) rfl)) hO1 hK hP hD hS hA (by decide) (N' := 5) (by decide +kernel) (by decide) (Nat.le_of_ble_eq_true rfl) (Nat.le_of_ble_eq_true rfl) dX3_init_6 (fun q1 cS H hK hP hD hS => ?_)
  have hP : va_P D vwCl [(h0, .inr (2, [.null, .null, .int 0, .int 0, .int 0, .int 0, .null, .null])), (q1, rfs cS 5 (fun _ => none))] H := hP
  have hD : va_D A [(h0, .inr (2, [.null, .null, .int 0, .int 0, .int 0, .int 0, .null, .null])), (q1, rfs cS 5 (fun _ => none))] := hD
  refine va_putF (D := D) (ci := 2) (v := .ref q1) (ty := .array (.object "PromiseShelves$Shelf")) (C := RX3) (T := TX3) (N := 8) S.1 S.2.1 S.2.2.2.2 alX3 tyX3 tyX3_ok nmX3 S.2.2.2.1 hK hP hD hS 0 rfl rfl 0 (by decide) (S.2.2.2.2 _ (al (List.mem_of_getElem? (i := 100) rfl) rfl)) (fun _ h9 => h9) rfl hnm rfl (by decide +kernel) rfl rfl (Nat.le_of_ble_eq_true rfl) dX3_init_9 (fun H locs hP hD hS => ?_)
  have hP : va_P D vwCl [(h0, .inr (2, [.ref q1, .null, .int 0, .int 0, .int 0, .int 0, .null, .null])), (q1, rfs cS 5 (fun _ => none))] H := hP
  have hD : va_D A [(h0, .inr (2, [.ref q1, .null, .int 0, .int 0, .int 0, .int 0, .null, .null])), (q1, rfs cS 5 (fun _ => none))] := hD
  refine lv_aload_n S.1 S.2.1 dX3_init_12 rfl (lv_at hl 0 rfl) ?_
  refine lv_bipush (v := 20) S.1 S.2.1 dX3_init_13 (by decide) ?_
  refine va_newq (C := "PromiseShelves$Promise") S.1 S.2.1 S.2.2.2.1 (S.2.2.2.2 _ (al (List.mem_of_getElem? (i := 47) rfl) rfl)) hO2 hK hP hD hS hA (by decide) (N' := 20) (by decide +kernel) (by decide) (Nat.le_of_ble_eq_true rfl) (Nat.le_of_ble_eq_true rfl) dX3_init_15 (fun q2 cP H hK hP hD hS => ?_)
  have hK : va_K D vwCl [(cS, .object "PromiseShelves$Shelf"), (cP, .object "PromiseShelves$Promise")] s := hK
  have hP : va_P D vwCl [(h0, .inr (2, [.ref q1, .null, .int 0, .int 0, .int 0, .int 0, .null, .null])), (q1, rfs cS 5 (fun _ => none)), (q2, rfs cP 20 (fun _ => none))] H := hP
  have hD : va_D A [(h0, .inr (2, [.ref q1, .null, .int 0, .int 0, .int 0, .int 0, .null, .null])), (q1, rfs cS 5 (fun _ => none)), (q2, rfs cP 20 (fun _ => none))] := hD
  refine va_putF (D := D) (ci := 2) (v := .ref q2) (ty := .array (.object "PromiseShelves$Promise")) (C := RX3) (T := TX3) (N := 8) S.1 S.2.1 S.2.2.2.2 alX3 tyX3 tyX3_ok nmX3 S.2.2.2.1 hK hP hD hS 0 rfl rfl 1 (by decide) (S.2.2.2.2 _ (al (List.mem_of_getElem? (i := 101) rfl) rfl)) (fun _ h9 => h9) rfl hnm rfl (by decide +kernel) rfl rfl (Nat.le_of_ble_eq_true rfl) dX3_init_18 (fun H locs hP hD hS => ?_)
  have hP : va_P D vwCl [(h0, .inr (2, [.ref q1, .ref q2, .int 0, .int 0, .int 0, .int 0, .null, .null])), (q1, rfs cS 5 (fun _ => none)), (q2, rfs cP 20 (fun _ => none))] H := hP
  have hD : va_D A [(h0, .inr (2, [.ref q1, .ref q2, .int 0, .int 0, .int 0, .int 0, .null, .null])), (q1, rfs cS 5 (fun _ => none)), (q2, rfs cP 20 (fun _ => none))] := hD
  refine lv_aload_n S.1 S.2.1 dX3_init_21 rfl (lv_at hl 0 rfl) ?_
  refine lv_iconst (v := 0) S.1 S.2.1 dX3_init_22 (by decide) ?_
  refine va_put (D := D) (ci := 2) (v := .int 0) (ty := .int) (C := RX3) (T := TX3) (N := 8) S.1 S.2.1 S.2.2.2.2 alX3 tyX3 tyX3_ok nmX3 S.2.2.2.1 hK hP hD hS 0 rfl rfl 2 (by decide) (S.2.2.2.2 _ (al (List.mem_of_getElem? (i := 102) rfl) rfl)) (fun _ h9 => h9) rfl (by decide +kernel) rfl rfl (Nat.le_of_ble_eq_true rfl) dX3_init_23 (fun H locs hP hD hS => ?_)
  have hP : va_P D vwCl [(h0, .inr (2, [.ref q1, .ref q2, .int 0, .int 0, .int 0, .int 0, .null, .null])), (q1, rfs cS 5 (fun _ => none)), (q2, rfs cP 20 (fun _ => none))] H := hP
  have hD : va_D A [(h0, .inr (2, [.ref q1, .ref q2, .int 0, .int 0, .int 0, .int 0, .null, .null])), (q1, rfs cS 5 (fun _ => none)), (q2, rfs cP 20 (fun _ => none))] := hD
  refine lv_aload_n S.1 S.2.1 dX3_init_26 rfl (lv_at hl 0 rfl) ?_
  refine lv_iconst (v := 0) S.1 S.2.1 dX3_init_27 (by decide) ?_
  refine va_put (D := D) (ci := 2) (v := .int 0) (ty := .int) (C := RX3) (T := TX3) (N := 8) S.1 S.2.1 S.2.2.2.2 alX3 tyX3 tyX3_ok nmX3 S.2.2.2.1 hK hP hD hS 0 rfl rfl 3 (by decide) (S.2.2.2.2 _ (al (List.mem_of_getElem? (i := 103) rfl) rfl)) (fun _ h9 => h9) rfl (by decide +kernel) rfl rfl (Nat.le_of_ble_eq_true rfl) dX3_init_28 (fun H locs hP hD hS => ?_)
  have hP : va_P D vwCl [(h0, .inr (2, [.ref q1, .ref q2, .int 0, .int 0, .int 0, .int 0, .null, .null])), (q1, rfs cS 5 (fun _ => none)), (q2, rfs cP 20 (fun _ => none))] H := hP
  have hD : va_D A [(h0, .inr (2, [.ref q1, .ref q2, .int 0, .int 0, .int 0, .int 0, .null, .null])), (q1, rfs cS 5 (fun _ => none)), (q2, rfs cP 20 (fun _ => none))] := hD
  refine lv_aload_n S.1 S.2.1 dX3_init_31 rfl (lv_at hl 0 rfl) ?_
  refine lv_iconst (v := 0) S.1 S.2.1 dX3_init_32 (by decide) ?_
  refine va_put (D := D) (ci := 2) (v := .int 0) (ty := .int) (C := RX3) (T := TX3) (N := 8) S.1 S.2.1 S.2.2.2.2 alX3 tyX3 tyX3_ok nmX3 S.2.2.2.1 hK hP hD hS 0 rfl rfl 4 (by decide) (S.2.2.2.2 _ (al (List.mem_of_getElem? (i := 104) rfl) rfl)) (fun _ h9 => h9) rfl (by decide +kernel) rfl rfl (Nat.le_of_ble_eq_true rfl) dX3_init_33 (fun H locs hP hD hS => ?_)
  have hP : va_P D vwCl [(h0, .inr (2, [.ref q1, .ref q2, .int 0, .int 0, .int 0, .int 0, .null, .null])), (q1, rfs cS 5 (fun _ => none)), (q2, rfs cP 20 (fun _ => none))] H := hP
  have hD : va_D A [(h0, .inr (2, [.ref q1, .ref q2, .int 0, .int 0, .int 0, .int 0, .null, .null])), (q1, rfs cS 5 (fun _ => none)), (q2, rfs cP 20 (fun _ => none))] := hD
  refine lv_aload_n S.1 S.2.1 dX3_init_36 rfl (lv_at hl 0 rfl) ?_
  refine lv_iconst (v := 1) S.1 S.2.1 dX3_init_37 (by decide) ?_
  refine va_put (D := D) (ci := 2) (v := .int 1) (ty := .boolean) (C := RX3) (T := TX3) (N := 8) S.1 S.2.1 S.2.2.2.2 alX3 tyX3 tyX3_ok nmX3 S.2.2.2.1 hK hP hD hS 0 rfl rfl 5 (by decide) (S.2.2.2.2 _ (al (List.mem_of_getElem? (i := 105) rfl) rfl)) (fun _ h9 => h9) rfl (by decide +kernel) rfl rfl (Nat.le_of_ble_eq_true rfl) dX3_init_38 (fun H locs hP hD hS => ?_)
  have hP : va_P D vwCl [(h0, .inr (2, [.ref q1, .ref q2, .int 0, .int 0, .int 0, .int 1, .null, .null])), (q1, rfs cS 5 (fun _ => none)), (q2, rfs cP 20 (fun _ => none))] H := hP
  have hD : va_D A [(h0, .inr (2, [.ref q1, .ref q2, .int 0, .int 0, .int 0, .int 1, .null, .null])), (q1, rfs cS 5 (fun _ => none)), (q2, rfs cP 20 (fun _ => none))] := hD
  refine lv_aload_n S.1 S.2.1 dX3_init_41 rfl (lv_at hl 0 rfl) ?_
  refine va_new (D := D) (ci := 1) (fs := [.int 0, .int 0, .int 0]) (C := RX1) (T := TX1) (N := 3) S.1 S.2.1 S.2.2.2.2 alX1 tyX1 tyX1_ok S.2.2.2.1 (S.2.2.2.2 _ (al (List.mem_of_getElem? (i := 45) rfl) rfl)) (S.2.2.2.2 _ (al (List.mem_of_getElem? (i := 49) rfl) rfl)) (S.2.2.2.2 _ (al (List.mem_of_getElem? (i := 25) rfl) rfl)) hK hP hD hS hA rfl (fun j hj => by rcases (show j = 0 ∨ j = 1 ∨ j = 2 by omega) with rfl | rfl | rfl <;> rfl) (Nat.le_of_ble_eq_true rfl) (Nat.le_of_ble_eq_true rfl) dX3_init_42 (fun q3 H hP hD hS => ?_)
  refine lv_dup S.1 S.2.1 dX3_init_45 rfl ?_
  refine lv_iconst (v := (-1)) S.1 S.2.1 dX3_init_46 (by decide) ?_
  refine va_callv (va_runIN (As := [.int (-1)]) (rest := [.ref q3, .ref h0]) S (k_S l D q3 (-1)) ⟨va_cnB 1 S.2.2.2.2 (g_C (al (List.mem_of_getElem? (i := 52) rfl) rfl)) rfl rfl rfl (hN _ (List.mem_filter.mpr ⟨List.mem_of_getElem? (i := 50) rfl, rfl⟩)) (S.2.2.2.2 _ (al (List.mem_of_getElem? (i := 25) rfl) rfl)) (by decide +kernel) ⟨Nat.le_of_ble_eq_true rfl, Nat.le_of_ble_eq_true rfl⟩, rfl, (S.2.2.2.2 _ (al (List.mem_of_getElem? (i := 51) rfl) rfl))⟩ ⟨k_S_pc, fun U hU hW => ⟨rfl, va_K.moved hW.alike (hK.sub (tys' := []) [] rfl), by rw [hU]; exact k_sub (A := A) hP⟩⟩ rfl rfl hl.1 rfl (lv_room (Nat.le_of_ble_eq_true rfl)) dX3_init_47 ⟨Nat.le_of_ble_eq_true rfl, Nat.le_of_ble_eq_true rfl⟩) hS (fun z _ h => k_own hD z h) (k_own hD) (fun u9 t H1 locs ht hvm hw hB hz1 hk1 hS => ?_)
  obtain ⟨hP, hD⟩ := k_join (e2 := shN (-1)) hP hD hk1 (by have hB9 : va_P D vwCl _ t.heap := hB; rw [ht] at hB9; exact hB9)
  have hP : va_P D vwCl [(h0, .inr (2, [.ref q1, .ref q2, .int 0, .int 0, .int 0, .int 1, .null, .null])), (q1, rfs cS 5 (fun _ => none)), (q2, rfs cP 20 (fun _ => none)), (q3, shN (-1))] H1 := hP
  have hD : va_D A [(h0, .inr (2, [.ref q1, .ref q2, .int 0, .int 0, .int 0, .int 1, .null, .null])), (q1, rfs cS 5 (fun _ => none)), (q2, rfs cP 20 (fun _ => none)), (q3, shN (-1))] := hD
  refine va_putF (D := D) (ci := 2) (v := .ref q3) (ty := .object "PromiseShelves$Shelf") (C := RX3) (T := TX3) (N := 8) S.1 S.2.1 S.2.2.2.2 alX3 tyX3 tyX3_ok nmX3 S.2.2.2.1 hK hP hD hS 0 rfl rfl 6 (by decide) (S.2.2.2.2 _ (al (List.mem_of_getElem? (i := 106) rfl) rfl)) (fun _ h9 => h9) rfl hnm rfl (by decide +kernel) rfl rfl (Nat.le_of_ble_eq_true rfl) dX3_init_50 (fun H locs hP hD hS => ?_)
  have hP : va_P D vwCl [(h0, .inr (2, [.ref q1, .ref q2, .int 0, .int 0, .int 0, .int 1, .ref q3, .null])), (q1, rfs cS 5 (fun _ => none)), (q2, rfs cP 20 (fun _ => none)), (q3, shN (-1))] H := hP
  have hD : va_D A [(h0, .inr (2, [.ref q1, .ref q2, .int 0, .int 0, .int 0, .int 1, .ref q3, .null])), (q1, rfs cS 5 (fun _ => none)), (q2, rfs cP 20 (fun _ => none)), (q3, shN (-1))] := hD
  refine lv_aload_n S.1 S.2.1 dX3_init_53 rfl (lv_at hl 0 rfl) ?_
  refine va_new (D := D) (ci := 0) (fs := [.null, .null, .int 0, .int 0, .int 0, .int 0]) (C := RX0) (T := TX0) (N := 6) S.1 S.2.1 S.2.2.2.2 alX0 tyX0 tyX0_ok S.2.2.2.1 (S.2.2.2.2 _ (al (List.mem_of_getElem? (i := 47) rfl) rfl)) (S.2.2.2.2 _ (al (List.mem_of_getElem? (i := 68) rfl) rfl)) (S.2.2.2.2 _ (al (List.mem_of_getElem? (i := 26) rfl) rfl)) hK hP hD hS hA rfl (fun j hj => by rcases (show j = 0 ∨ j = 1 ∨ j = 2 ∨ j = 3 ∨ j = 4 ∨ j = 5 by omega) with rfl | rfl | rfl | rfl | rfl | rfl <;> rfl) (Nat.le_of_ble_eq_true rfl) (Nat.le_of_ble_eq_true rfl) dX3_init_54 (fun q4 H hP hD hS => ?_)
  refine lv_dup S.1 S.2.1 dX3_init_57 rfl ?_
  refine va_callv (va_runIN (As := []) (rest := [.ref q4, .ref h0]) S (k_P l D q4 e0) ⟨va_cnB 0 S.2.2.2.2 (g_C (al (List.mem_of_getElem? (i := 71) rfl) rfl)) rfl rfl rfl (hN _ (List.mem_filter.mpr ⟨List.mem_of_getElem? (i := 69) rfl, rfl⟩)) (S.2.2.2.2 _ (al (List.mem_of_getElem? (i := 26) rfl) rfl)) (by decide +kernel) ⟨Nat.le_of_ble_eq_true rfl, Nat.le_of_ble_eq_true rfl⟩, rfl, (S.2.2.2.2 _ (al (List.mem_of_getElem? (i := 70) rfl) rfl))⟩ ⟨k_P_pc, fun U hU hW => ⟨rfl, va_K.moved hW.alike (hK.sub (tys' := []) [] rfl), by rw [hU]; exact k_sub (A := A) hP, by rw [hU]; exact ((va_Z.kept hZ hS.2.1).moved hW.alike).narrow (k_own hD)⟩⟩ rfl rfl hl.1 rfl (lv_room (Nat.le_of_ble_eq_true rfl)) dX3_init_58 ⟨Nat.le_of_ble_eq_true rfl, Nat.le_of_ble_eq_true rfl⟩) hS (fun z _ h => k_own hD z h) (k_own hD) (fun u9 t H1 locs ht hvm hw hB hz1 hk1 hS => ?_)
  obtain ⟨hP, hD⟩ := k_join (e2 := prN e0) hP hD hk1 (by have hB9 : va_P D vwCl _ t.heap := hB; rw [ht] at hB9; exact hB9)
  have hP : va_P D vwCl [(h0, .inr (2, [.ref q1, .ref q2, .int 0, .int 0, .int 0, .int 1, .ref q3, .null])), (q1, rfs cS 5 (fun _ => none)), (q2, rfs cP 20 (fun _ => none)), (q3, shN (-1)), (q4, prN e0)] H1 := hP
  have hD : va_D A [(h0, .inr (2, [.ref q1, .ref q2, .int 0, .int 0, .int 0, .int 1, .ref q3, .null])), (q1, rfs cS 5 (fun _ => none)), (q2, rfs cP 20 (fun _ => none)), (q3, shN (-1)), (q4, prN e0)] := hD
  refine va_putF (D := D) (ci := 2) (v := .ref q4) (ty := .object "PromiseShelves$Promise") (C := RX3) (T := TX3) (N := 8) S.1 S.2.1 S.2.2.2.2 alX3 tyX3 tyX3_ok nmX3 S.2.2.2.1 hK hP hD hS 0 rfl rfl 7 (by decide) (S.2.2.2.2 _ (al (List.mem_of_getElem? (i := 107) rfl) rfl)) (fun _ h9 => h9) rfl hnm rfl (by decide +kernel) rfl rfl (Nat.le_of_ble_eq_true rfl) dX3_init_61 (fun H locs hP hD hS => ?_)
  have hP : va_P D vwCl [(h0, .inr (2, [.ref q1, .ref q2, .int 0, .int 0, .int 0, .int 1, .ref q3, .ref q4])), (q1, rfs cS 5 (fun _ => none)), (q2, rfs cP 20 (fun _ => none)), (q3, shN (-1)), (q4, prN e0)] H := hP
  have hD : va_D A [(h0, .inr (2, [.ref q1, .ref q2, .int 0, .int 0, .int 0, .int 1, .ref q3, .ref q4])), (q1, rfs cS 5 (fun _ => none)), (q2, rfs cP 20 (fun _ => none)), (q3, shN (-1)), (q4, prN e0)] := hD
  refine lv_iconst (v := (nI 0)) S.1 S.2.1 dX3_init_64 (by rfl) ?_
  refine lv_istore_n (lv' := [(1, .int (nI 0)), (0, .ref h0)]) S.1 S.2.1 dX3_init_65 rfl hl (by decide) rfl (fun ls hl => ?_)
  have e9 : ([(h0, .inr (2, [.ref q1, .ref q2, .int 0, .int 0, .int 0, .int 1, .ref q3, .ref q4])), (q1, rfs cS 5 (fun _ => none)), (q2, rfs cP 20 (fun _ => none)), (q3, shN (-1)), (q4, prN e0)] : va_W) = xl h0 e0 cS cP q1 q2 q3 q4 (fun _ => 0) (fun _ => 0) 0 0 (5 + 0) := by rw [fS_0 (fun _ => 0)]; rfl
  rw [e9] at hP hD
  refine W.widen (k := 4 + 0) (n := 34 + 3 * 0) (Nat.le_of_ble_eq_true rfl) (Nat.le_of_ble_eq_true rfl) ?_
  exact kx_S S hr hlk hK hZ hN hA (fun _ => 0) 5 0 (by omega) _ _ _ hP hD hS ls (lv_sub hl [1, 0] rfl)
