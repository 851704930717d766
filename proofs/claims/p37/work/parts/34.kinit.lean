theorem one_at {a : Nat} {e : va_E} {k : Nat} {q : Nat × va_E} (h : ([(a, e)] : va_W)[k]? = some q) : k = 0 ∧ q = (a, e) := by
  have hk : k < 1 := (List.getElem?_eq_some_iff.mp h).1
  obtain rfl : k = 0 := by omega
  cases h
  exact ⟨rfl, rfl⟩
theorem mt_raw {l : Launch} {y : MethodName} {cc : ByteArray} {maxL : Nat} {ret : Option FieldType} {d mc ms : Nat} {av : List Value} {Pw : State → Prop} {Qc : Array Value → State → Outcome → State → Prop} {free : Addr → Prop} (hy : plainName y.cls = true) (hn : (lg_sl av).length ≤ maxL)
    (body : ∀ (p : Program) (e : Env) (s : State) (m : MethodId) (below : List Frame) (meth : Method) (c : Code), CallFix p m c cc maxL s av.toArray AL y.cls → meth.sig.returnType = ret → meth.locks = false → meth.name = y.name → Pw s →
      ∀ ls : Array Slot, lv_has ls maxL (lv_args 0 av) → W p l e (rm d mc ms) s m av.toArray below meth c s.heap [] 0 0 (MQ below Qc av.toArray s mc ms free) (F0 m 0 ls [])) : Met l y (.code y cc maxL ret :: AL) (rm d mc ms) (va_Pc av Pw) Qc mc ms free := by
  refine Met.ofW (cc := cc) (maxL := maxL) (ret := ret) hy rfl ?_
  intro p e s m args below meth c s₁ B hml hv
  obtain ⟨rfl, hE⟩ := hv
  have hts := atoms_spec (ws := .code y cc maxL ret :: AL) B.pre
  rw [lg_entry_eq]
  exact body p e s m below meth c ⟨B.exec, B.bytes, hml, findClass_of_methodNamed B.named, fun w h => hts w (List.mem_cons_of_mem _ h)⟩ B.returns B.notSynchronized (name_of_methodNamed B.named B.method).1 hE _ (lv_entry av hn)
abbrev oneA (q : Nat) : Nat → Prop := fun z => z = q
theorem oneD (q : Nat) (e : va_E) : va_D (oneA q) [(q, e)] :=
  ⟨fun i j x y hx hy _ => by rw [(one_at hx).1, (one_at hy).1], fun k x hx => by rw [(one_at hx).2]⟩
abbrev shN (v : Int32) : va_E := .inr (1, [.int v, .int (-18), .int (-18)])
abbrev prN (e0 : Nat) : va_E := .inr (0, [.ref e0, .null, .int 0, .int 0, .int 0, .int 0])
abbrev xX (a1 a2 a3 a4 : Nat) : va_E := .inr (2, [.ref a1, .ref a2, .int 0, .int 0, .int 0, .int 1, .ref a3, .ref a4])
abbrev rfs (cA : ClassId) (n : Nat) (f : Nat → Option Nat) : va_E := .inl (cA, n, .inr (.inr (.inr (.inr f))))
/-- an object's cell behind its constructor; the others are as they were -/
theorem k_join {D : va_G} {A : Nat → Prop} {ws : va_W} {q : Nat} {e1 e2 : va_E} {H H1 : Heap} (hP : va_P D vwCl (ws ++ [(q, e1)]) H) (hD : va_D A (ws ++ [(q, e1)])) (hk : ∀ z : Nat, z < H.size → ¬ oneA q z → H1[z]? = H[z]?) (h1 : va_P D vwCl [(q, e2)] H1) : va_P D vwCl (ws ++ [(q, e2)]) H1 ∧ va_D A (ws ++ [(q, e2)]) := by
  have hw : ∀ (k : Nat) (x : Nat × va_E), ws[k]? = some x → (ws ++ [(q, e1)])[k]? = some x := fun k x hx => by
    rw [List.getElem?_append_left (List.getElem?_eq_some_iff.mp hx).1]; exact hx
  have hl : (ws ++ [(q, e1)])[ws.length]? = some (q, e1) := by
    rw [List.getElem?_append_right (Nat.le_refl _), Nat.sub_self]; rfl
  have hne : ∀ (k : Nat) (x : Nat × va_E), ws[k]? = some x → x.1 ≠ q := fun k x hx e9 => by
    have h5 := hD.1 k ws.length x (q, e1) (hw k x hx) hl e9
    have h6 := (List.getElem?_eq_some_iff.mp hx).1
    omega
  have hP0 : va_P D vwCl ws H := fun k x hx => hP k x (hw k x hx)
  have hD0 : va_D A ws := ⟨fun i j x y hx hy e9 => hD.1 i j x y (hw i x hx) (hw j y hy) e9, fun k x hx => hD.2 k x (hw k x hx)⟩
  refine ⟨(hP0.kept (fun k x hx => hk x.1 ((hP0 k x hx).lt) (hne k x hx))).app h1, hD0.app ⟨fun i j x y hx hy _ => by rw [(one_at hx).1, (one_at hy).1], fun k x hx => ?_⟩ (fun i j x y hx hy e9 => ?_)⟩
  · rw [(one_at hx).2]
    show A q
    exact hD.2 ws.length (q, e1) hl
  · rw [(one_at hy).2] at e9
    exact hne i x hx e9
theorem k_sub {D : va_G} {A : Nat → Prop} {ws : va_W} {q : Nat} {e1 : va_E} {H : Heap} (hP : va_P D vwCl (ws ++ [(q, e1)]) H) : va_P D vwCl [(q, e1)] H := fun k x hx => by
  have hl : (ws ++ [(q, e1)])[ws.length]? = some (q, e1) := by
    rw [List.getElem?_append_right (Nat.le_refl _), Nat.sub_self]; rfl
  rw [(one_at hx).2]
  exact hP _ _ hl
set_option maxRecDepth 100000 in
set_option maxHeartbeats 4000000 in
theorem k_S (l : Launch) (D : va_G) (q : Nat) (v : Int32) : Met l yX1_init (.code yX1_init cX1_init 2 none :: AL) (rm 1 0 0) (va_Pc [.ref q, .int v] (fun U => va_K D vwCl [] U ∧ va_P D vwCl [(q, .inr (1, [.int 0, .int 0, .int 0]))] U.heap)) (va_Qv (fun _ : Unit => True) (fun _ t => va_P D vwCl [(q, shN v)] t.heap) (oneA q)) 0 0 (oneA q) := by
  refine mt_raw (by decide +kernel) (Nat.le_of_ble_eq_true rfl) ?_
  intro p e s m below meth c S hr hlk hnm hPw ls hl
  obtain ⟨hK, hP⟩ := hPw
  have hl : lv_has ls 2 [(0, .ref q), (1, .int v)] := hl
  have hS : va_S (oneA q) s.heap s.heap [] := va_S.rf
  have hD := oneD q (.inr (1, [.int 0, .int 0, .int 0]))
  refine lv_aload_n S.1 S.2.1 dX1_init_0 rfl (lv_at hl 0 rfl) ?_
  refine W.objInit S.1 S.2.1 S.2.2.2.1 (S.2.2.2.2 _ (al (List.mem_of_getElem? (i := 53) rfl) rfl)) (S.2.2.2.2 _ (al (List.mem_of_getElem? (i := 43) rfl) rfl)) (S.2.2.2.2 _ (al (List.mem_of_getElem? (i := 44) rfl) rfl)) rfl (by rw [S.2.2.1]; exact hl.1) rfl dX1_init_1 (Nat.le_of_ble_eq_true rfl) (Nat.le_of_ble_eq_true rfl) ?_
  refine W.eq (g2 := F0 m 4 ls []) rfl ?_
  refine lv_aload_n S.1 S.2.1 dX1_init_4 rfl (lv_at hl 0 rfl) ?_
  refine lv_bipush (v := (-18)) S.1 S.2.1 dX1_init_5 (by decide) ?_
  refine va_put (D := D) (ci := 1) (v := .int (-18)) (ty := .int) (C := RX1) (T := TX1) (N := 3) S.1 S.2.1 S.2.2.2.2 alX1 tyX1 tyX1_ok nmX1 S.2.2.2.1 hK hP hD hS 0 rfl rfl 1 (by decide) (S.2.2.2.2 _ (al (List.mem_of_getElem? (i := 56) rfl) rfl)) (fun _ h9 => h9) rfl (by decide +kernel) rfl rfl (Nat.le_of_ble_eq_true rfl) dX1_init_7 (fun H locs hP hD hS => ?_)
  refine lv_aload_n S.1 S.2.1 dX1_init_10 rfl (lv_at hl 0 rfl) ?_
  refine lv_bipush (v := (-18)) S.1 S.2.1 dX1_init_11 (by decide) ?_
  refine va_put (D := D) (ci := 1) (v := .int (-18)) (ty := .int) (C := RX1) (T := TX1) (N := 3) S.1 S.2.1 S.2.2.2.2 alX1 tyX1 tyX1_ok nmX1 S.2.2.2.1 hK hP hD hS 0 rfl rfl 2 (by decide) (S.2.2.2.2 _ (al (List.mem_of_getElem? (i := 58) rfl) rfl)) (fun _ h9 => h9) rfl (by decide +kernel) rfl rfl (Nat.le_of_ble_eq_true rfl) dX1_init_13 (fun H locs hP hD hS => ?_)
  refine lv_aload_n S.1 S.2.1 dX1_init_16 rfl (lv_at hl 0 rfl) ?_
  refine lv_iload_n S.1 S.2.1 dX1_init_17 rfl (lv_at hl 1 rfl) ?_
  refine va_putF (D := D) (ci := 1) (v := .int v) (ty := .int) (C := RX1) (T := TX1) (N := 3) S.1 S.2.1 S.2.2.2.2 alX1 tyX1 tyX1_ok nmX1 S.2.2.2.1 hK hP hD hS 0 rfl rfl 0 (by decide) (S.2.2.2.2 _ (al (List.mem_of_getElem? (i := 54) rfl) rfl)) (fun _ h9 => h9) rfl hnm rfl (by decide +kernel) rfl rfl (Nat.le_of_ble_eq_true rfl) dX1_init_18 (fun H locs hP hD hS => ?_)
  exact W.vret S.1 S.2.1 hr (fun t ht _ => ⟨⟨(), rfl, trivial, (by show va_P D vwCl _ t.heap; rw [ht]; exact hP)⟩, hS.F ht⟩) hS.2.2 dX1_init_21 hlk
set_option maxRecDepth 100000 in
set_option maxHeartbeats 4000000 in
theorem k_P (l : Launch) (D : va_G) (q e0 : Nat) : Met l yX0_init (.code yX0_init cX0_init 1 none :: AL) (rm 1 0 0) (va_Pc [.ref q] (fun U => va_K D vwCl [] U ∧ va_P D vwCl [(q, .inr (0, [.null, .null, .int 0, .int 0, .int 0, .int 0]))] U.heap ∧ va_Z RX2 "UNMADE" enD (.ref e0) (oneA q) U U.heap)) (va_Qv (fun _ : Unit => True) (fun _ t => va_P D vwCl [(q, prN e0)] t.heap) (oneA q)) 0 0 (oneA q) := by
  refine mt_raw (by decide +kernel) (Nat.le_of_ble_eq_true rfl) ?_
  intro p e s m below meth c S hr hlk hnm hPw ls hl
  obtain ⟨hK, hP, hZ⟩ := hPw
  have hl : lv_has ls 1 [(0, .ref q)] := hl
  have hS : va_S (oneA q) s.heap s.heap [] := va_S.rf
  have hD := oneD q (.inr (0, [.null, .null, .int 0, .int 0, .int 0, .int 0]))
  refine lv_aload_n S.1 S.2.1 dX0_init_0 rfl (lv_at hl 0 rfl) ?_
  refine W.objInit S.1 S.2.1 S.2.2.2.1 (S.2.2.2.2 _ (al (List.mem_of_getElem? (i := 72) rfl) rfl)) (S.2.2.2.2 _ (al (List.mem_of_getElem? (i := 43) rfl) rfl)) (S.2.2.2.2 _ (al (List.mem_of_getElem? (i := 44) rfl) rfl)) rfl (by rw [S.2.2.1]; exact hl.1) rfl dX0_init_1 (Nat.le_of_ble_eq_true rfl) (Nat.le_of_ble_eq_true rfl) ?_
  refine W.eq (g2 := F0 m 4 ls []) rfl ?_
  refine lv_aload_n S.1 S.2.1 dX0_init_4 rfl (lv_at hl 0 rfl) ?_
  refine va_gets (A := oneA q) S.1 S.2.1 hZ hS S.2.2.2.1 (S.2.2.2.2 _ (al (List.mem_of_getElem? (i := 73) rfl) rfl)) (fun _ h => h) dX0_init_5 ?_
  refine va_put (D := D) (ci := 0) (v := .ref e0) (ty := .object "PromiseShelves$Stage") (C := RX0) (T := TX0) (N := 6) S.1 S.2.1 S.2.2.2.2 alX0 tyX0 tyX0_ok nmX0 S.2.2.2.1 hK hP hD hS 0 rfl rfl 0 (by decide) (S.2.2.2.2 _ (al (List.mem_of_getElem? (i := 75) rfl) rfl)) (fun _ h9 => h9) rfl (by decide +kernel) rfl rfl (Nat.le_of_ble_eq_true rfl) dX0_init_8 (fun H locs hP hD hS => ?_)
  refine lv_aload_n S.1 S.2.1 dX0_init_11 rfl (lv_at hl 0 rfl) ?_
  refine lv_null S.1 S.2.1 dX0_init_12 ?_
  refine va_put (D := D) (ci := 0) (v := .null) (ty := .object "PromiseShelves$Shelf") (C := RX0) (T := TX0) (N := 6) S.1 S.2.1 S.2.2.2.2 alX0 tyX0 tyX0_ok nmX0 S.2.2.2.1 hK hP hD hS 0 rfl rfl 1 (by decide) (S.2.2.2.2 _ (al (List.mem_of_getElem? (i := 77) rfl) rfl)) (fun _ h9 => h9) rfl (by decide +kernel) rfl rfl (Nat.le_of_ble_eq_true rfl) dX0_init_13 (fun H locs hP hD hS => ?_)
  refine lv_aload_n S.1 S.2.1 dX0_init_16 rfl (lv_at hl 0 rfl) ?_
  refine lv_iconst (v := 0) S.1 S.2.1 dX0_init_17 (by decide) ?_
  refine va_put (D := D) (ci := 0) (v := .int 0) (ty := .int) (C := RX0) (T := TX0) (N := 6) S.1 S.2.1 S.2.2.2.2 alX0 tyX0 tyX0_ok nmX0 S.2.2.2.1 hK hP hD hS 0 rfl rfl 2 (by decide) (S.2.2.2.2 _ (al (List.mem_of_getElem? (i := 79) rfl) rfl)) (fun _ h9 => h9) rfl (by decide +kernel) rfl rfl (Nat.le_of_ble_eq_true rfl) dX0_init_18 (fun H locs hP hD hS => ?_)
  refine lv_aload_n S.1 S.2.1 dX0_init_21 rfl (lv_at hl 0 rfl) ?_
  refine lv_iconst (v := 0) S.1 S.2.1 dX0_init_22 (by decide) ?_
  refine va_put (D := D) (ci := 0) (v := .int 0) (ty := .int) (C := RX0) (T := TX0) (N := 6) S.1 S.2.1 S.2.2.2.2 alX0 tyX0 tyX0_ok nmX0 S.2.2.2.1 hK hP hD hS 0 rfl rfl 3 (by decide) (S.2.2.2.2 _ (al (List.mem_of_getElem? (i := 81) rfl) rfl)) (fun _ h9 => h9) rfl (by decide +kernel) rfl rfl (Nat.le_of_ble_eq_true rfl) dX0_init_23 (fun H locs hP hD hS => ?_)
  refine lv_aload_n S.1 S.2.1 dX0_init_26 rfl (lv_at hl 0 rfl) ?_
  refine lv_iconst (v := 0) S.1 S.2.1 dX0_init_27 (by decide) ?_
  refine va_put (D := D) (ci := 0) (v := .int 0) (ty := .int) (C := RX0) (T := TX0) (N := 6) S.1 S.2.1 S.2.2.2.2 alX0 tyX0 tyX0_ok nmX0 S.2.2.2.1 hK hP hD hS 0 rfl rfl 4 (by decide) (S.2.2.2.2 _ (al (List.mem_of_getElem? (i := 83) rfl) rfl)) (fun _ h9 => h9) rfl (by decide +kernel) rfl rfl (Nat.le_of_ble_eq_true rfl) dX0_init_28 (fun H locs hP hD hS => ?_)
  refine lv_aload_n S.1 S.2.1 dX0_init_31 rfl (lv_at hl 0 rfl) ?_
  refine lv_iconst (v := 0) S.1 S.2.1 dX0_init_32 (by decide) ?_
  refine va_put (D := D) (ci := 0) (v := .int 0) (ty := .int) (C := RX0) (T := TX0) (N := 6) S.1 S.2.1 S.2.2.2.2 alX0 tyX0 tyX0_ok nmX0 S.2.2.2.1 hK hP hD hS 0 rfl rfl 5 (by decide) (S.2.2.2.2 _ (al (List.mem_of_getElem? (i := 85) rfl) rfl)) (fun _ h9 => h9) rfl (by decide +kernel) rfl rfl (Nat.le_of_ble_eq_true rfl) dX0_init_33 (fun H locs hP hD hS => ?_)
  exact W.vret S.1 S.2.1 hr (fun t ht _ => ⟨⟨(), rfl, trivial, (by show va_P D vwCl _ t.heap; rw [ht]; exact hP)⟩, hS.F ht⟩) hS.2.2 dX0_init_36 hlk
