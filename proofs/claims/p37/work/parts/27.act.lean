theorem nI_eq9 {a b : Nat} (ha : a < 1000) (hb : b < 1000) (h : nI a = nI b) : a = b := by
  have := congrArg Int32.toInt h
  rw [nI_toInt (by omega), nI_toInt (by omega)] at this
  omega
theorem lw_k61 : Cond.classLink RL 61 isX ∈ AL := al (by decide +kernel) rfl
theorem lw_cIS : Cond.castable isX isX ∈ NW := List.mem_filter.mpr ⟨by decide +kernel, rfl⟩
theorem tab_set : ∀ i, i < 26 → ¬ nI i - 30 < -30 ∧ nI i - 30 ≤ -5 ∧ -30 ≤ nI i - 30 := by decide +kernel
/-- what an act leaves -/
def actP (G : Gt) (q0 q1 q2 : Nat) (Y : va_W) : Int32 → va_W → Prop := fun r ws' => r = 1 ∧ ∃ (σ' : St) (q3' : Nat) (aR' : Nat → Nat) (hh' pw' ar' : Int32) (st' ht' : Nat → Int32) (n' : Nat) (row' : Nat → Z7), ws' = fw G σ' ((q0, q1, q2, q3'), aR') (hh', pw', ar', st', ht', n', row') Y ∧ Pct σ' (hh', pw', ar', st', ht', n', row')
def CwL (l : Launch) (G : Gt) (y : MethodName) (cc : ByteArray) (maxL : Nat) (ret : Option FieldType) (hx : List (Nat × Nat × Nat × Nat)) (d mc ms : Nat) (av : List Value) (ws : va_W) (Qc : Array Value → State → Outcome → State → Prop) : Prop :=
  Met l y (.codeWith y cc maxL ret hx :: AL) (rm d mc ms) (va_Pc av (fun U => Ww G ws U)) Qc mc ms (gA G)
theorem mwl_intro {l : Launch} {G : Gt} {y : MethodName} {cc : ByteArray} {maxL : Nat} {ret : Option FieldType} {hx : List (Nat × Nat × Nat × Nat)} {d mc ms : Nat} {av : List Value} {ws : va_W} {Qc : Array Value → State → Outcome → State → Prop} (hy : plainName y.cls = true) (hn : (lg_sl av).length ≤ maxL)
    (body : ∀ (p : Program) (e : Env) (s : State) (m : MethodId) (below : List Frame) (meth : Method) (c : Code), CallFix p m c cc maxL s av.toArray AL y.cls → meth.sig.returnType = ret → meth.locks = false → c.exceptionTable.toList = tableOf hx → Jw G ws s s.heap [] →
      ∀ ls : Array Slot, lv_has ls maxL (lv_args 0 av) → W p l e (rm d mc ms) s m av.toArray below meth c s.heap [] 0 0 (MQ below Qc av.toArray s mc ms (gA G)) (F0 m 0 ls [])) : CwL l G y cc maxL ret hx d mc ms av ws Qc := by
  unfold CwL Met
  refine MetFree.of_bodyS (code := cc) (maxLocals := maxL) (ret := ret) hy ?_ ?_
  · intro args s m h hn
    obtain ⟨m9, meth, c, hn9, h1, h2, h3, h4, -, h5, h6, -⟩ := Cond.codeWith_spec (atoms_spec (ws := .codeWith y cc maxL ret hx :: AL) h _ List.mem_cons_self)
    cases hn.symm.trans hn9
    exact ⟨meth, c, h1, h2, h3, h4, h5, h6⟩
  · intro p e s m args below meth c s₁ B hml hP _
    have hh0 : s₁.heap = s.heap := by rw [B.state]; rfl
    obtain ⟨rfl, hE, hPp, hD⟩ := hP
    have hts := atoms_spec (ws := .codeWith y cc maxL ret hx :: AL) B.pre
    have hb := body p e s m below meth c ⟨B.exec, B.bytes, hml, findClass_of_methodNamed B.named, fun w h => hts w (List.mem_cons_of_mem _ h)⟩ B.returns B.notSynchronized (vx_table (x := y) B (hts _ List.mem_cons_self)) ⟨hE, hPp, hD, va_S.rf⟩ _ (lv_entry av hn)
    rw [← lg_entry_eq] at hb
    obtain ⟨t, a1, o, b1, b2, b3⟩ := hb s₁ hh0 (Stand.of_body B)
    exact ⟨t, o, a1, b1, b2, b3⟩
theorem mv5 {z5 : Int32} {g : Nat} (hz5 : z5 = nI (g - 1)) (hg : g = 1 ∨ g = 2 ∨ g = 3) (hg3 : ¬ g = 3) : ¬ z5 = 2 := by
  rcases hg with rfl | rfl | rfl
  · rw [hz5]; decide
  · rw [hz5]; decide
  · exact absurd rfl hg3
set_option maxRecDepth 100000 in
set_option maxHeartbeats 4000000 in
theorem ac_make {p : Program} {l : Launch} {e : Env} {s : State} {m : MethodId} {below : List Frame} {meth : Method} {c : Code} {H : Heap} {locs : List Loc} {ls : Array Slot} {G : Gt} {σ : St} {q0 q1 q2 q3 : Nat} {aR : Nat → Nat} {hh pw ar : Int32} {st ht : Nat → Int32} {n : Nat} {row : Nat → Z7} {Y : va_W} {x : Int32} {k : Nat} {pp : Nat} (hst9 : l.stackTraces = false) (S : CallFix p m c cL_act 9 s ([.ref (gB G 0), .ref q0, .int x] : List Value).toArray AL RL) (hr : meth.sig.returnType = some .boolean) (hlk : meth.locks = false) (hxt : c.exceptionTable.toList = tableOf [(36, 194, 498, 61), (195, 287, 498, 61), (288, 363, 498, 61), (364, 415, 498, 61), (416, 448, 498, 61), (449, 497, 498, 61)]) (hJ : Jw G (fw G σ ((q0, q1, q2, q3), aR) (hh, pw, ar, st, ht, n, row) Y) s H locs) (hp : Pct σ (hh, pw, ar, st, ht, n, row)) (hk : k < 5) (hl : lv_has ls 9 [(0, .ref (gB G 0)), (1, .ref q0), (2, .int x), (3, .int (nI n)), (4, .int (nI k)), (5, .int (nI pp)), (6, .int 1)]) : W p l e (rm 8 2 27) s m ([.ref (gB G 0), .ref q0, .int x] : List Value).toArray below meth c H locs 0 0 (MQ below (Ui G (actP G q0 q1 q2 Y)) ([.ref (gB G 0), .ref q0, .int x] : List Value).toArray s 2 27 (gA G)) (F0 m 104 ls []) := by
  by_cases hn2 : n < 20
  · refine lv_iload_n S.1 S.2.1 dL_act_104 rfl (lv_at hl 3 rfl) ?_
    refine lv_bipush (v := (nI 20)) S.1 S.2.1 dL_act_105 (by rfl) ?_
    refine lv_icmp_ge (tgt := 114) S.1 S.2.1 dL_act_107 (by decide) (fun c9 => absurd c9 (nI_ge (b := 20) hn2 (by omega))) (fun cz_107 => ?_)
    refine lv_iconst (v := 1) S.1 S.2.1 dL_act_110 (by decide) ?_
    refine lv_goto (tgt := 115) S.1 S.2.1 dL_act_111 (by decide) ?_
    refine lv_istore (lv' := [(6, .int 1), (0, .ref (gB G 0)), (1, .ref q0), (2, .int x), (3, .int (nI n)), (4, .int (nI k)), (5, .int (nI pp))]) S.1 S.2.1 dL_act_115 hl (by decide) rfl (fun ls hl => ?_)
    refine lv_iconst (v := 1) S.1 S.2.1 dL_act_117 (by decide) ?_
    refine lv_iload_n S.1 S.2.1 dL_act_118 rfl (lv_at hl 3 rfl) ?_
    refine lv_bipush (v := 7) S.1 S.2.1 dL_act_119 (by decide) ?_
    refine lv_ishr S.1 S.2.1 dL_act_121 ?_
    refine lv_iload_n S.1 S.2.1 dL_act_122 rfl (lv_at hl 3 rfl) ?_
    refine lv_iconst (v := 3) S.1 S.2.1 dL_act_123 (by decide) ?_
    refine lv_ishr S.1 S.2.1 dL_act_124 ?_
    refine lv_iconst (v := (nI 2)) S.1 S.2.1 dL_act_125 (by rfl) ?_
    refine dw_i hJ (rwS (As := [.int (x >>> (3 &&& 31)), .int (nI 2)]) (rest := [.int (x >>> (7 &&& 31)), .int 1]) S hJ (k_below l G (x >>> (3 &&& 31)) (N := 2) (by decide) (by decide)) (cw_L_L_below S.2.2.2.2 ⟨Nat.le_of_ble_eq_true rfl, Nat.le_of_ble_eq_true rfl⟩) rfl hl.1 (Nat.le_of_ble_eq_true rfl) dL_act_126 ⟨Nat.le_of_ble_eq_true rfl, Nat.le_of_ble_eq_true rfl⟩) (fun r1 ws1 H locs hq1 hJ => ?_)
    obtain ⟨⟨kb, hkb, hr1⟩, hw1⟩ := hq1
    subst hw1
    rw [hr1]
    refine lv_if_ne (tgt := 137) S.1 S.2.1 dL_act_129 (by decide) (fun cz_129 => ?_) (fun cz_129 => ?_)
    · refine lv_bipush (v := (nI 12)) S.1 S.2.1 dL_act_137 (by rfl) ?_
      refine dw_i hJ (rwS (As := [.int (x >>> (7 &&& 31)), .int (nI 12)]) (rest := [.int 1]) S hJ (k_below l G (x >>> (7 &&& 31)) (N := 12) (by decide) (by decide)) (cw_L_L_below S.2.2.2.2 ⟨Nat.le_of_ble_eq_true rfl, Nat.le_of_ble_eq_true rfl⟩) rfl hl.1 (Nat.le_of_ble_eq_true rfl) dL_act_139 ⟨Nat.le_of_ble_eq_true rfl, Nat.le_of_ble_eq_true rfl⟩) (fun r2 ws2 H locs hq2 hJ => ?_)
      obtain ⟨⟨kl, hkl, hr2⟩, hw2⟩ := hq2
      subst hw2
      rw [hr2]
      refine lv_iadd S.1 S.2.1 dL_act_142 ?_
      rw [show (1 + (nI kl)) = (nI (1 + kl)) from nI_add 1 kl]
      refine lv_istore (lv' := [(7, .int (nI (1 + kl))), (6, .int 1), (0, .ref (gB G 0)), (1, .ref q0), (2, .int x), (3, .int (nI n)), (4, .int (nI k)), (5, .int (nI pp))]) S.1 S.2.1 dL_act_143 hl (by decide) rfl (fun ls hl => ?_)
      refine lv_iload_n S.1 S.2.1 dL_act_145 rfl (lv_at hl 4 rfl) ?_
      refine lv_iconst (v := 5) S.1 S.2.1 dL_act_146 (by decide) ?_
      refine lv_ishr S.1 S.2.1 dL_act_147 ?_
      refine lv_bipush (v := (nI 6)) S.1 S.2.1 dL_act_148 (by rfl) ?_
      refine dw_i hJ (rwS (As := [.int (x >>> (5 &&& 31)), .int (nI 6)]) (rest := []) S hJ (k_below l G (x >>> (5 &&& 31)) (N := 6) (by decide) (by decide)) (cw_L_L_below S.2.2.2.2 ⟨Nat.le_of_ble_eq_true rfl, Nat.le_of_ble_eq_true rfl⟩) rfl hl.1 (Nat.le_of_ble_eq_true rfl) dL_act_150 ⟨Nat.le_of_ble_eq_true rfl, Nat.le_of_ble_eq_true rfl⟩) (fun r3 ws3 H locs hq3 hJ => ?_)
      obtain ⟨⟨km, hkm, hr3⟩, hw3⟩ := hq3
      subst hw3
      rw [hr3]
      refine lv_istore (lv' := [(8, .int (nI km)), (7, .int (nI (1 + kl))), (6, .int 1), (0, .ref (gB G 0)), (1, .ref q0), (2, .int x), (3, .int (nI n)), (4, .int (nI k)), (5, .int (nI pp))]) S.1 S.2.1 dL_act_153 hl (by decide) rfl (fun ls hl => ?_)
      refine lv_iload S.1 S.2.1 dL_act_155 (lv_at hl 2 rfl) ?_
      refine lv_if_eq (tgt := 170) S.1 S.2.1 dL_act_157 (by decide) (fun c9 => absurd c9 (by decide)) (fun cz_157 => ?_)
      refine lv_aload_n S.1 S.2.1 dL_act_160 rfl (lv_at hl 4 rfl) ?_
      refine lv_iload S.1 S.2.1 dL_act_161 (lv_at hl 0 rfl) ?_
      refine lv_iload S.1 S.2.1 dL_act_163 (lv_at hl 1 rfl) ?_
      refine lv_iload S.1 S.2.1 dL_act_165 (lv_at hl 7 rfl) ?_
      refine dw_v hJ (rwV (As := [.int (nI km), .int (nI (1 + kl)), .int (nI k)]) (rest := []) S hJ (k_add l G hn2 (nI km) (nI (1 + kl)) hk) (cw_L_X4_add S.2.2.2.2 ⟨Nat.le_of_ble_eq_true rfl, Nat.le_of_ble_eq_true rfl⟩) (rcSim hJ) rfl hl.1 (Nat.le_of_ble_eq_true rfl) dL_act_167 ⟨Nat.le_of_ble_eq_true rfl, Nat.le_of_ble_eq_true rfl⟩) (fun ws4 H locs hq4 hJ => ?_)
      obtain ⟨qm, qr, hw4⟩ := hq4
      subst hw4
      refine lv_aload_n S.1 S.2.1 dL_act_170 rfl (lv_at hl 3 rfl) ?_
      refine lv_iload S.1 S.2.1 dL_act_171 (lv_at hl 0 rfl) ?_
      refine lv_iload S.1 S.2.1 dL_act_173 (lv_at hl 1 rfl) ?_
      refine lv_iload S.1 S.2.1 dL_act_175 (lv_at hl 7 rfl) ?_
      refine cz_i hJ (rzV (As := [.int (nI km), .int (nI (1 + kl)), .int (nI k)]) (rest := []) S hJ (c_make l _ σ (a := km) (b := 1 + kl) (k := k) (n := n) hkm (by omega) (by omega) hk hn2 hp.1.gx) (cw_L_X3_make S.2.2.2.2 ⟨Nat.le_of_ble_eq_true rfl, Nat.le_of_ble_eq_true rfl⟩) (rcX hJ.iv) rfl hl.1 (Nat.le_of_ble_eq_true rfl) dL_act_177 ⟨Nat.le_of_ble_eq_true rfl, Nat.le_of_ble_eq_true rfl⟩) (fun r5 σ5 H locs hq5 hJ => ?_)
      obtain ⟨hr5, hs5⟩ := hq5
      rw [hs5] at hJ
      rw [hr5]
      refine lv_iload_n S.1 S.2.1 dL_act_180 rfl (lv_at hl 6 rfl) ?_
      refine lv_icmp_ne (tgt := 193) S.1 S.2.1 dL_act_181 (by decide) (fun c9 => absurd rfl c9) (fun cz_181 => ?_)
      refine lv_iload S.1 S.2.1 dL_act_184 (lv_at hl 2 rfl) ?_
      refine lv_if_eq (tgt := 193) S.1 S.2.1 dL_act_186 (by decide) (fun c9 => absurd c9 (by decide)) (fun cz_186 => ?_)
      refine lv_iconst (v := 1) S.1 S.2.1 dL_act_189 (by decide) ?_
      refine lv_goto (tgt := 194) S.1 S.2.1 dL_act_190 (by decide) ?_
      exact yt_z S hJ hr hlk rfl (⟨rfl, _, _, _, _, _, _, _, _, _, _, rfl, hp.make hn2 hkm (by omega) (by omega) hk⟩) (Nat.le_of_ble_eq_true rfl) (Nat.le_of_ble_eq_true rfl) dL_act_194
    · refine lv_bipush (v := (nI 100)) S.1 S.2.1 dL_act_132 (by rfl) ?_
      refine lv_goto (tgt := 139) S.1 S.2.1 dL_act_134 (by decide) ?_
      refine dw_i hJ (rwS (As := [.int (x >>> (7 &&& 31)), .int (nI 100)]) (rest := [.int 1]) S hJ (k_below l G (x >>> (7 &&& 31)) (N := 100) (by decide) (by decide)) (cw_L_L_below S.2.2.2.2 ⟨Nat.le_of_ble_eq_true rfl, Nat.le_of_ble_eq_true rfl⟩) rfl hl.1 (Nat.le_of_ble_eq_true rfl) dL_act_139 ⟨Nat.le_of_ble_eq_true rfl, Nat.le_of_ble_eq_true rfl⟩) (fun r6 ws6 H locs hq6 hJ => ?_)
      obtain ⟨⟨kl, hkl, hr6⟩, hw6⟩ := hq6
      subst hw6
      rw [hr6]
      refine lv_iadd S.1 S.2.1 dL_act_142 ?_
      rw [show (1 + (nI kl)) = (nI (1 + kl)) from nI_add 1 kl]
      refine lv_istore (lv' := [(7, .int (nI (1 + kl))), (6, .int 1), (0, .ref (gB G 0)), (1, .ref q0), (2, .int x), (3, .int (nI n)), (4, .int (nI k)), (5, .int (nI pp))]) S.1 S.2.1 dL_act_143 hl (by decide) rfl (fun ls hl => ?_)
      refine lv_iload_n S.1 S.2.1 dL_act_145 rfl (lv_at hl 4 rfl) ?_
      refine lv_iconst (v := 5) S.1 S.2.1 dL_act_146 (by decide) ?_
      refine lv_ishr S.1 S.2.1 dL_act_147 ?_
      refine lv_bipush (v := (nI 6)) S.1 S.2.1 dL_act_148 (by rfl) ?_
      refine dw_i hJ (rwS (As := [.int (x >>> (5 &&& 31)), .int (nI 6)]) (rest := []) S hJ (k_below l G (x >>> (5 &&& 31)) (N := 6) (by decide) (by decide)) (cw_L_L_below S.2.2.2.2 ⟨Nat.le_of_ble_eq_true rfl, Nat.le_of_ble_eq_true rfl⟩) rfl hl.1 (Nat.le_of_ble_eq_true rfl) dL_act_150 ⟨Nat.le_of_ble_eq_true rfl, Nat.le_of_ble_eq_true rfl⟩) (fun r7 ws7 H locs hq7 hJ => ?_)
      obtain ⟨⟨km, hkm, hr7⟩, hw7⟩ := hq7
      subst hw7
      rw [hr7]
      refine lv_istore (lv' := [(8, .int (nI km)), (7, .int (nI (1 + kl))), (6, .int 1), (0, .ref (gB G 0)), (1, .ref q0), (2, .int x), (3, .int (nI n)), (4, .int (nI k)), (5, .int (nI pp))]) S.1 S.2.1 dL_act_153 hl (by decide) rfl (fun ls hl => ?_)
      refine lv_iload S.1 S.2.1 dL_act_155 (lv_at hl 2 rfl) ?_
      refine lv_if_eq (tgt := 170) S.1 S.2.1 dL_act_157 (by decide) (fun c9 => absurd c9 (by decide)) (fun cz_157 => ?_)
      refine lv_aload_n S.1 S.2.1 dL_act_160 rfl (lv_at hl 4 rfl) ?_
      refine lv_iload S.1 S.2.1 dL_act_161 (lv_at hl 0 rfl) ?_
      refine lv_iload S.1 S.2.1 dL_act_163 (lv_at hl 1 rfl) ?_
      refine lv_iload S.1 S.2.1 dL_act_165 (lv_at hl 7 rfl) ?_
      refine dw_v hJ (rwV (As := [.int (nI km), .int (nI (1 + kl)), .int (nI k)]) (rest := []) S hJ (k_add l G hn2 (nI km) (nI (1 + kl)) hk) (cw_L_X4_add S.2.2.2.2 ⟨Nat.le_of_ble_eq_true rfl, Nat.le_of_ble_eq_true rfl⟩) (rcSim hJ) rfl hl.1 (Nat.le_of_ble_eq_true rfl) dL_act_167 ⟨Nat.le_of_ble_eq_true rfl, Nat.le_of_ble_eq_true rfl⟩) (fun ws8 H locs hq8 hJ => ?_)
      obtain ⟨qm, qr, hw8⟩ := hq8
      subst hw8
      refine lv_aload_n S.1 S.2.1 dL_act_170 rfl (lv_at hl 3 rfl) ?_
      refine lv_iload S.1 S.2.1 dL_act_171 (lv_at hl 0 rfl) ?_
      refine lv_iload S.1 S.2.1 dL_act_173 (lv_at hl 1 rfl) ?_
      refine lv_iload S.1 S.2.1 dL_act_175 (lv_at hl 7 rfl) ?_
      refine cz_i hJ (rzV (As := [.int (nI km), .int (nI (1 + kl)), .int (nI k)]) (rest := []) S hJ (c_make l _ σ (a := km) (b := 1 + kl) (k := k) (n := n) hkm (by omega) (by omega) hk hn2 hp.1.gx) (cw_L_X3_make S.2.2.2.2 ⟨Nat.le_of_ble_eq_true rfl, Nat.le_of_ble_eq_true rfl⟩) (rcX hJ.iv) rfl hl.1 (Nat.le_of_ble_eq_true rfl) dL_act_177 ⟨Nat.le_of_ble_eq_true rfl, Nat.le_of_ble_eq_true rfl⟩) (fun r9 σ9 H locs hq9 hJ => ?_)
      obtain ⟨hr9, hs9⟩ := hq9
      rw [hs9] at hJ
      rw [hr9]
      refine lv_iload_n S.1 S.2.1 dL_act_180 rfl (lv_at hl 6 rfl) ?_
      refine lv_icmp_ne (tgt := 193) S.1 S.2.1 dL_act_181 (by decide) (fun c9 => absurd rfl c9) (fun cz_181 => ?_)
      refine lv_iload S.1 S.2.1 dL_act_184 (lv_at hl 2 rfl) ?_
      refine lv_if_eq (tgt := 193) S.1 S.2.1 dL_act_186 (by decide) (fun c9 => absurd c9 (by decide)) (fun cz_186 => ?_)
      refine lv_iconst (v := 1) S.1 S.2.1 dL_act_189 (by decide) ?_
      refine lv_goto (tgt := 194) S.1 S.2.1 dL_act_190 (by decide) ?_
      exact yt_z S hJ hr hlk rfl (⟨rfl, _, _, _, _, _, _, _, _, _, _, rfl, hp.make hn2 hkm (by omega) (by omega) hk⟩) (Nat.le_of_ble_eq_true rfl) (Nat.le_of_ble_eq_true rfl) dL_act_194
  · obtain rfl : n = 20 := by have h9 : n ≤ 20 := hp.1.1; omega
    refine lv_iload_n S.1 S.2.1 dL_act_104 rfl (lv_at hl 3 rfl) ?_
    refine lv_bipush (v := (nI 20)) S.1 S.2.1 dL_act_105 (by rfl) ?_
    refine lv_icmp_ge (tgt := 114) S.1 S.2.1 dL_act_107 (by decide) (fun cz_107 => ?_) (fun c9 => absurd (nI_le (a := 20) (b := 20) (Nat.le_refl 20) (by omega)) c9)
    refine lv_iconst (v := 0) S.1 S.2.1 dL_act_114 (by decide) ?_
    refine lv_istore (lv' := [(6, .int 0), (0, .ref (gB G 0)), (1, .ref q0), (2, .int x), (3, .int (nI 20)), (4, .int (nI k)), (5, .int (nI pp))]) S.1 S.2.1 dL_act_115 hl (by decide) rfl (fun ls hl => ?_)
    refine lv_iconst (v := 1) S.1 S.2.1 dL_act_117 (by decide) ?_
    refine lv_iload_n S.1 S.2.1 dL_act_118 rfl (lv_at hl 3 rfl) ?_
    refine lv_bipush (v := 7) S.1 S.2.1 dL_act_119 (by decide) ?_
    refine lv_ishr S.1 S.2.1 dL_act_121 ?_
    refine lv_iload_n S.1 S.2.1 dL_act_122 rfl (lv_at hl 3 rfl) ?_
    refine lv_iconst (v := 3) S.1 S.2.1 dL_act_123 (by decide) ?_
    refine lv_ishr S.1 S.2.1 dL_act_124 ?_
    refine lv_iconst (v := (nI 2)) S.1 S.2.1 dL_act_125 (by rfl) ?_
    refine dw_i hJ (rwS (As := [.int (x >>> (3 &&& 31)), .int (nI 2)]) (rest := [.int (x >>> (7 &&& 31)), .int 1]) S hJ (k_below l G (x >>> (3 &&& 31)) (N := 2) (by decide) (by decide)) (cw_L_L_below S.2.2.2.2 ⟨Nat.le_of_ble_eq_true rfl, Nat.le_of_ble_eq_true rfl⟩) rfl hl.1 (Nat.le_of_ble_eq_true rfl) dL_act_126 ⟨Nat.le_of_ble_eq_true rfl, Nat.le_of_ble_eq_true rfl⟩) (fun r10 ws10 H locs hq10 hJ => ?_)
    obtain ⟨⟨kb, hkb, hr10⟩, hw10⟩ := hq10
    subst hw10
    rw [hr10]
    refine lv_if_ne (tgt := 137) S.1 S.2.1 dL_act_129 (by decide) (fun cz_129 => ?_) (fun cz_129 => ?_)
    · refine lv_bipush (v := (nI 12)) S.1 S.2.1 dL_act_137 (by rfl) ?_
      refine dw_i hJ (rwS (As := [.int (x >>> (7 &&& 31)), .int (nI 12)]) (rest := [.int 1]) S hJ (k_below l G (x >>> (7 &&& 31)) (N := 12) (by decide) (by decide)) (cw_L_L_below S.2.2.2.2 ⟨Nat.le_of_ble_eq_true rfl, Nat.le_of_ble_eq_true rfl⟩) rfl hl.1 (Nat.le_of_ble_eq_true rfl) dL_act_139 ⟨Nat.le_of_ble_eq_true rfl, Nat.le_of_ble_eq_true rfl⟩) (fun r11 ws11 H locs hq11 hJ => ?_)
      obtain ⟨⟨kl, hkl, hr11⟩, hw11⟩ := hq11
      subst hw11
      rw [hr11]
      refine lv_iadd S.1 S.2.1 dL_act_142 ?_
      rw [show (1 + (nI kl)) = (nI (1 + kl)) from nI_add 1 kl]
      refine lv_istore (lv' := [(7, .int (nI (1 + kl))), (6, .int 0), (0, .ref (gB G 0)), (1, .ref q0), (2, .int x), (3, .int (nI 20)), (4, .int (nI k)), (5, .int (nI pp))]) S.1 S.2.1 dL_act_143 hl (by decide) rfl (fun ls hl => ?_)
      refine lv_iload_n S.1 S.2.1 dL_act_145 rfl (lv_at hl 4 rfl) ?_
      refine lv_iconst (v := 5) S.1 S.2.1 dL_act_146 (by decide) ?_
      refine lv_ishr S.1 S.2.1 dL_act_147 ?_
      refine lv_bipush (v := (nI 6)) S.1 S.2.1 dL_act_148 (by rfl) ?_
      refine dw_i hJ (rwS (As := [.int (x >>> (5 &&& 31)), .int (nI 6)]) (rest := []) S hJ (k_below l G (x >>> (5 &&& 31)) (N := 6) (by decide) (by decide)) (cw_L_L_below S.2.2.2.2 ⟨Nat.le_of_ble_eq_true rfl, Nat.le_of_ble_eq_true rfl⟩) rfl hl.1 (Nat.le_of_ble_eq_true rfl) dL_act_150 ⟨Nat.le_of_ble_eq_true rfl, Nat.le_of_ble_eq_true rfl⟩) (fun r12 ws12 H locs hq12 hJ => ?_)
      obtain ⟨⟨km, hkm, hr12⟩, hw12⟩ := hq12
      subst hw12
      rw [hr12]
      refine lv_istore (lv' := [(8, .int (nI km)), (7, .int (nI (1 + kl))), (6, .int 0), (0, .ref (gB G 0)), (1, .ref q0), (2, .int x), (3, .int (nI 20)), (4, .int (nI k)), (5, .int (nI pp))]) S.1 S.2.1 dL_act_153 hl (by decide) rfl (fun ls hl => ?_)
      refine lv_iload S.1 S.2.1 dL_act_155 (lv_at hl 2 rfl) ?_
      refine lv_if_eq (tgt := 170) S.1 S.2.1 dL_act_157 (by decide) (fun cz_157 => ?_) (fun c9 => absurd (by decide) c9)
      refine lv_aload_n S.1 S.2.1 dL_act_170 rfl (lv_at hl 3 rfl) ?_
      refine lv_iload S.1 S.2.1 dL_act_171 (lv_at hl 0 rfl) ?_
      refine lv_iload S.1 S.2.1 dL_act_173 (lv_at hl 1 rfl) ?_
      refine lv_iload S.1 S.2.1 dL_act_175 (lv_at hl 7 rfl) ?_
      refine cz_bad (As := [.int (nI km), .int (nI (1 + kl)), .int (nI k)]) (rest := []) S hJ (x_make_f l hst9 _ σ (a := km) (b := 1 + kl) (k := k) hkm (by omega) (by omega) hk hp.1.gx) (cw_L_X3_make S.2.2.2.2 ⟨Nat.le_of_ble_eq_true rfl, Nat.le_of_ble_eq_true rfl⟩) rfl hl.1 (Nat.le_of_ble_eq_true rfl) dL_act_177 ⟨Nat.le_of_ble_eq_true rfl, Nat.le_of_ble_eq_true rfl⟩ [] ⟨36, 194, 498, 61⟩ [⟨195, 287, 498, 61⟩, ⟨288, 363, 498, 61⟩, ⟨364, 415, 498, 61⟩, ⟨416, 448, 498, 61⟩, ⟨449, 497, 498, 61⟩] hxt (fun _ h9 => nomatch h9) (by decide) (by decide) lw_k61 lw_cIS (fun q9 H locs hJ => ?_)
      refine lv_astore (lv' := [(7, .ref q9), (8, .int (nI km)), (6, .int 0), (0, .ref (gB G 0)), (1, .ref q0), (2, .int x), (3, .int (nI 20)), (4, .int (nI k)), (5, .int (nI pp))]) S.1 S.2.1 dL_act_498 hl (by decide) rfl (fun ls hl => ?_)
      refine lv_iload S.1 S.2.1 dL_act_500 (lv_at hl 2 rfl) ?_
      refine lv_if_ne (tgt := 509) S.1 S.2.1 dL_act_502 (by decide) (fun c9 => absurd (by decide) c9) (fun cz_502 => ?_)
      refine lv_iconst (v := 1) S.1 S.2.1 dL_act_505 (by decide) ?_
      refine lv_goto (tgt := 510) S.1 S.2.1 dL_act_506 (by decide) ?_
      exact yt_z S hJ hr hlk rfl (⟨rfl, _, _, _, _, _, _, _, _, _, _, rfl, hp⟩) (Nat.le_of_ble_eq_true rfl) (Nat.le_of_ble_eq_true rfl) dL_act_510
    · refine lv_bipush (v := (nI 100)) S.1 S.2.1 dL_act_132 (by rfl) ?_
      refine lv_goto (tgt := 139) S.1 S.2.1 dL_act_134 (by decide) ?_
      refine dw_i hJ (rwS (As := [.int (x >>> (7 &&& 31)), .int (nI 100)]) (rest := [.int 1]) S hJ (k_below l G (x >>> (7 &&& 31)) (N := 100) (by decide) (by decide)) (cw_L_L_below S.2.2.2.2 ⟨Nat.le_of_ble_eq_true rfl, Nat.le_of_ble_eq_true rfl⟩) rfl hl.1 (Nat.le_of_ble_eq_true rfl) dL_act_139 ⟨Nat.le_of_ble_eq_true rfl, Nat.le_of_ble_eq_true rfl⟩) (fun r13 ws13 H locs hq13 hJ => ?_)
      obtain ⟨⟨kl, hkl, hr13⟩, hw13⟩ := hq13
      subst hw13
      rw [hr13]
      refine lv_iadd S.1 S.2.1 dL_act_142 ?_
      rw [show (1 + (nI kl)) = (nI (1 + kl)) from nI_add 1 kl]
      refine lv_istore (lv' := [(7, .int (nI (1 + kl))), (6, .int 0), (0, .ref (gB G 0)), (1, .ref q0), (2, .int x), (3, .int (nI 20)), (4, .int (nI k)), (5, .int (nI pp))]) S.1 S.2.1 dL_act_143 hl (by decide) rfl (fun ls hl => ?_)
      refine lv_iload_n S.1 S.2.1 dL_act_145 rfl (lv_at hl 4 rfl) ?_
      refine lv_iconst (v := 5) S.1 S.2.1 dL_act_146 (by decide) ?_
      refine lv_ishr S.1 S.2.1 dL_act_147 ?_
      refine lv_bipush (v := (nI 6)) S.1 S.2.1 dL_act_148 (by rfl) ?_
      refine dw_i hJ (rwS (As := [.int (x >>> (5 &&& 31)), .int (nI 6)]) (rest := []) S hJ (k_below l G (x >>> (5 &&& 31)) (N := 6) (by decide) (by decide)) (cw_L_L_below S.2.2.2.2 ⟨Nat.le_of_ble_eq_true rfl, Nat.le_of_ble_eq_true rfl⟩) rfl hl.1 (Nat.le_of_ble_eq_true rfl) dL_act_150 ⟨Nat.le_of_ble_eq_true rfl, Nat.le_of_ble_eq_true rfl⟩) (fun r14 ws14 H locs hq14 hJ => ?_)
      obtain ⟨⟨km, hkm, hr14⟩, hw14⟩ := hq14
      subst hw14
      rw [hr14]
      refine lv_istore (lv' := [(8, .int (nI km)), (7, .int (nI (1 + kl))), (6, .int 0), (0, .ref (gB G 0)), (1, .ref q0), (2, .int x), (3, .int (nI 20)), (4, .int (nI k)), (5, .int (nI pp))]) S.1 S.2.1 dL_act_153 hl (by decide) rfl (fun ls hl => ?_)
      refine lv_iload S.1 S.2.1 dL_act_155 (lv_at hl 2 rfl) ?_
      refine lv_if_eq (tgt := 170) S.1 S.2.1 dL_act_157 (by decide) (fun cz_157 => ?_) (fun c9 => absurd (by decide) c9)
      refine lv_aload_n S.1 S.2.1 dL_act_170 rfl (lv_at hl 3 rfl) ?_
      refine lv_iload S.1 S.2.1 dL_act_171 (lv_at hl 0 rfl) ?_
      refine lv_iload S.1 S.2.1 dL_act_173 (lv_at hl 1 rfl) ?_
      refine lv_iload S.1 S.2.1 dL_act_175 (lv_at hl 7 rfl) ?_
      refine cz_bad (As := [.int (nI km), .int (nI (1 + kl)), .int (nI k)]) (rest := []) S hJ (x_make_f l hst9 _ σ (a := km) (b := 1 + kl) (k := k) hkm (by omega) (by omega) hk hp.1.gx) (cw_L_X3_make S.2.2.2.2 ⟨Nat.le_of_ble_eq_true rfl, Nat.le_of_ble_eq_true rfl⟩) rfl hl.1 (Nat.le_of_ble_eq_true rfl) dL_act_177 ⟨Nat.le_of_ble_eq_true rfl, Nat.le_of_ble_eq_true rfl⟩ [] ⟨36, 194, 498, 61⟩ [⟨195, 287, 498, 61⟩, ⟨288, 363, 498, 61⟩, ⟨364, 415, 498, 61⟩, ⟨416, 448, 498, 61⟩, ⟨449, 497, 498, 61⟩] hxt (fun _ h9 => nomatch h9) (by decide) (by decide) lw_k61 lw_cIS (fun q9 H locs hJ => ?_)
      refine lv_astore (lv' := [(7, .ref q9), (8, .int (nI km)), (6, .int 0), (0, .ref (gB G 0)), (1, .ref q0), (2, .int x), (3, .int (nI 20)), (4, .int (nI k)), (5, .int (nI pp))]) S.1 S.2.1 dL_act_498 hl (by decide) rfl (fun ls hl => ?_)
      refine lv_iload S.1 S.2.1 dL_act_500 (lv_at hl 2 rfl) ?_
      refine lv_if_ne (tgt := 509) S.1 S.2.1 dL_act_502 (by decide) (fun c9 => absurd (by decide) c9) (fun cz_502 => ?_)
      refine lv_iconst (v := 1) S.1 S.2.1 dL_act_505 (by decide) ?_
      refine lv_goto (tgt := 510) S.1 S.2.1 dL_act_506 (by decide) ?_
      exact yt_z S hJ hr hlk rfl (⟨rfl, _, _, _, _, _, _, _, _, _, _, rfl, hp⟩) (Nat.le_of_ble_eq_true rfl) (Nat.le_of_ble_eq_true rfl) dL_act_510
set_option maxRecDepth 100000 in
set_option maxHeartbeats 4000000 in
theorem ac_move {p : Program} {l : Launch} {e : Env} {s : State} {m : MethodId} {below : List Frame} {meth : Method} {c : Code} {H : Heap} {locs : List Loc} {ls : Array Slot} {G : Gt} {σ : St} {q0 q1 q2 q3 : Nat} {aR : Nat → Nat} {hh pw ar : Int32} {st ht : Nat → Int32} {n : Nat} {row : Nat → Z7} {Y : va_W} {x : Int32} {k : Nat} {pp : Nat} (hst9 : l.stackTraces = false) (S : CallFix p m c cL_act 9 s ([.ref (gB G 0), .ref q0, .int x] : List Value).toArray AL RL) (hr : meth.sig.returnType = some .boolean) (hlk : meth.locks = false) (hxt : c.exceptionTable.toList = tableOf [(36, 194, 498, 61), (195, 287, 498, 61), (288, 363, 498, 61), (364, 415, 498, 61), (416, 448, 498, 61), (449, 497, 498, 61)]) (hJ : Jw G (fw G σ ((q0, q1, q2, q3), aR) (hh, pw, ar, st, ht, n, row) Y) s H locs) (hp : Pct σ (hh, pw, ar, st, ht, n, row)) (hk : k < 5) (hl : lv_has ls 9 [(0, .ref (gB G 0)), (1, .ref q0), (2, .int x), (3, .int (nI n)), (4, .int (nI k)), (5, .int (nI pp)), (6, .int 1)]) (hpp : pp < n) : W p l e (rm 8 2 27) s m ([.ref (gB G 0), .ref q0, .int x] : List Value).toArray below meth c H locs 0 0 (MQ below (Ui G (actP G q0 q1 q2 Y)) ([.ref (gB G 0), .ref q0, .int x] : List Value).toArray s 2 27 (gA G)) (F0 m 195 ls []) := by
  have hn : n ≤ 20 := hp.1.1
  obtain ⟨⟨z0, z1, z2, z3, z4, z5, z6⟩, hz⟩ : ∃ z, row pp = z := ⟨_, rfl⟩
  have hR : RowP (gP σ pp) (z0, z1, z2, z3, z4, z5, z6) := by rw [← hz]; exact hp.2.2.2 pp hpp
  have hO := hp.1.2.2.2.2.1 pp hpp
  by_cases h5 : (gP σ pp).2.1 < 5
  · have hzE := hR.lie h5
    obtain ⟨rfl, hz6⟩ : z2 = nI (gP σ pp).2.1 ∧ z6 = 0 := by cases hzE; exact ⟨rfl, rfl⟩
    have hz5 : z5 = nI ((gP σ pp).1 - 1) := by cases hzE; rfl
    have hg : (gP σ pp).1 = 1 ∨ (gP σ pp).1 = 2 ∨ (gP σ pp).1 = 3 := by obtain ⟨ma, lf, ag, -, -, -, -, -, -, -, h8⟩ := hO; omega
    by_cases hne : (gP σ pp).2.1 = k
    · refine lv_aload_n S.1 S.2.1 dL_act_195 rfl (lv_at hl 1 rfl) ?_
      refine q_L_all S hJ dL_act_196 ?_
      refine lv_iload S.1 S.2.1 dL_act_199 (lv_at hl 5 rfl) ?_
      have hJ : Jw G (fw G σ ((q0, q1, q2, q3), aR) (hh, pw, ar, st, ht, n, va_up row pp (z0, z1, (nI (gP σ pp).2.1), z3, z4, z5, z6)) Y) s H locs := by rw [← hz, va_up_same]; exact hJ
      refine i_all S hJ (i := pp) hpp hn dL_act_201 ?_
      refine lv_astore (lv' := [(7, .ref (aR pp)), (0, .ref (gB G 0)), (1, .ref q0), (2, .int x), (3, .int (nI n)), (4, .int (nI k)), (5, .int (nI pp)), (6, .int 1)]) S.1 S.2.1 dL_act_202 hl (by decide) rfl (fun ls hl => ?_)
      refine lv_aload S.1 S.2.1 dL_act_204 (lv_at hl 0 rfl) ?_
      refine lv_iconst (v := 2) S.1 S.2.1 dL_act_206 (by decide) ?_
      refine i_row2 S hJ hpp dL_act_207 ?_
      refine lv_if_lt (tgt := 232) S.1 S.2.1 dL_act_208 (by decide) (fun c9 => absurd c9 (nI_pos (by omega))) (fun cz_208 => ?_)
      refine lv_aload S.1 S.2.1 dL_act_211 (lv_at hl 0 rfl) ?_
      refine lv_iconst (v := 2) S.1 S.2.1 dL_act_213 (by decide) ?_
      refine i_row2 S hJ hpp dL_act_214 ?_
      refine lv_iload S.1 S.2.1 dL_act_215 (lv_at hl 5 rfl) ?_
      refine lv_icmp_eq (tgt := 232) S.1 S.2.1 dL_act_217 (by decide) (fun cz_217 => ?_) (fun c9 => absurd (by rw [hne]) c9)
      refine lv_iconst (v := 0) S.1 S.2.1 dL_act_232 (by decide) ?_
      refine lv_istore (lv' := [(6, .int 0), (7, .ref (aR pp)), (0, .ref (gB G 0)), (1, .ref q0), (2, .int x), (3, .int (nI n)), (4, .int (nI k)), (5, .int (nI pp))]) S.1 S.2.1 dL_act_233 hl (by decide) rfl (fun ls hl => ?_)
      refine lv_aload S.1 S.2.1 dL_act_235 (lv_at hl 1 rfl) ?_
      refine lv_iconst (v := 2) S.1 S.2.1 dL_act_237 (by decide) ?_
      refine i_row2 S hJ hpp dL_act_238 ?_
      refine lv_istore (lv' := [(8, .int (nI (gP σ pp).2.1)), (6, .int 0), (7, .ref (aR pp)), (0, .ref (gB G 0)), (1, .ref q0), (2, .int x), (3, .int (nI n)), (4, .int (nI k)), (5, .int (nI pp))]) S.1 S.2.1 dL_act_239 hl (by decide) rfl (fun ls hl => ?_)
      refine lv_iload S.1 S.2.1 dL_act_241 (lv_at hl 1 rfl) ?_
      refine lv_if_eq (tgt := 264) S.1 S.2.1 dL_act_243 (by decide) (fun cz_243 => ?_) (fun c9 => absurd (by decide) c9)
      refine lv_aload_n S.1 S.2.1 dL_act_264 rfl (lv_at hl 3 rfl) ?_
      refine lv_iload S.1 S.2.1 dL_act_265 (lv_at hl 8 rfl) ?_
      refine lv_iload S.1 S.2.1 dL_act_267 (lv_at hl 7 rfl) ?_
      refine cz_bad (As := [.int (nI pp), .int (nI k)]) (rest := []) S hJ (x_move_e l hst9 _ σ (i := pp) (k := k) (n := n) hpp hn hp.1.gx hk h5 hne) (cw_L_X3_move S.2.2.2.2 ⟨Nat.le_of_ble_eq_true rfl, Nat.le_of_ble_eq_true rfl⟩) rfl hl.1 (Nat.le_of_ble_eq_true rfl) dL_act_269 ⟨Nat.le_of_ble_eq_true rfl, Nat.le_of_ble_eq_true rfl⟩ [⟨36, 194, 498, 61⟩] ⟨195, 287, 498, 61⟩ [⟨288, 363, 498, 61⟩, ⟨364, 415, 498, 61⟩, ⟨416, 448, 498, 61⟩, ⟨449, 497, 498, 61⟩] hxt (List.forall_mem_cons.mpr ⟨rfl, fun _ h9 => nomatch h9⟩) (by decide) (by decide) lw_k61 lw_cIS (fun q9 H locs hJ => ?_)
      refine lv_astore (lv' := [(7, .ref q9), (8, .int (nI (gP σ pp).2.1)), (6, .int 0), (0, .ref (gB G 0)), (1, .ref q0), (2, .int x), (3, .int (nI n)), (4, .int (nI k)), (5, .int (nI pp))]) S.1 S.2.1 dL_act_498 hl (by decide) rfl (fun ls hl => ?_)
      refine lv_iload S.1 S.2.1 dL_act_500 (lv_at hl 2 rfl) ?_
      refine lv_if_ne (tgt := 509) S.1 S.2.1 dL_act_502 (by decide) (fun c9 => absurd (by decide) c9) (fun cz_502 => ?_)
      refine lv_iconst (v := 1) S.1 S.2.1 dL_act_505 (by decide) ?_
      refine lv_goto (tgt := 510) S.1 S.2.1 dL_act_506 (by decide) ?_
      exact yt_z S hJ hr hlk rfl (⟨rfl, _, _, _, _, _, _, _, _, _, _, rfl, (by rw [← hz, va_up_same]; exact hp)⟩) (Nat.le_of_ble_eq_true rfl) (Nat.le_of_ble_eq_true rfl) dL_act_510
    · by_cases hg3 : (gP σ pp).1 = 3
      · refine lv_aload_n S.1 S.2.1 dL_act_195 rfl (lv_at hl 1 rfl) ?_
        refine q_L_all S hJ dL_act_196 ?_
        refine lv_iload S.1 S.2.1 dL_act_199 (lv_at hl 5 rfl) ?_
        have hJ : Jw G (fw G σ ((q0, q1, q2, q3), aR) (hh, pw, ar, st, ht, n, va_up row pp (z0, z1, (nI (gP σ pp).2.1), z3, z4, z5, z6)) Y) s H locs := by rw [← hz, va_up_same]; exact hJ
        refine i_all S hJ (i := pp) hpp hn dL_act_201 ?_
        refine lv_astore (lv' := [(7, .ref (aR pp)), (0, .ref (gB G 0)), (1, .ref q0), (2, .int x), (3, .int (nI n)), (4, .int (nI k)), (5, .int (nI pp)), (6, .int 1)]) S.1 S.2.1 dL_act_202 hl (by decide) rfl (fun ls hl => ?_)
        refine lv_aload S.1 S.2.1 dL_act_204 (lv_at hl 0 rfl) ?_
        refine lv_iconst (v := 2) S.1 S.2.1 dL_act_206 (by decide) ?_
        refine i_row2 S hJ hpp dL_act_207 ?_
        refine lv_if_lt (tgt := 232) S.1 S.2.1 dL_act_208 (by decide) (fun c9 => absurd c9 (nI_pos (by omega))) (fun cz_208 => ?_)
        refine lv_aload S.1 S.2.1 dL_act_211 (lv_at hl 0 rfl) ?_
        refine lv_iconst (v := 2) S.1 S.2.1 dL_act_213 (by decide) ?_
        refine i_row2 S hJ hpp dL_act_214 ?_
        refine lv_iload S.1 S.2.1 dL_act_215 (lv_at hl 5 rfl) ?_
        refine lv_icmp_eq (tgt := 232) S.1 S.2.1 dL_act_217 (by decide) (fun c9 => absurd c9 (fun q8 => hne (nI_eq9 (by omega) (by omega) q8))) (fun cz_217 => ?_)
        refine lv_aload S.1 S.2.1 dL_act_220 (lv_at hl 0 rfl) ?_
        refine lv_iconst (v := 5) S.1 S.2.1 dL_act_222 (by decide) ?_
        refine i_row5 S hJ hpp dL_act_223 ?_
        refine lv_iconst (v := 2) S.1 S.2.1 dL_act_224 (by decide) ?_
        refine lv_icmp_eq (tgt := 232) S.1 S.2.1 dL_act_225 (by decide) (fun cz_225 => ?_) (fun c9 => absurd (by rw [hz5, hg3]; rfl) c9)
        refine lv_iconst (v := 0) S.1 S.2.1 dL_act_232 (by decide) ?_
        refine lv_istore (lv' := [(6, .int 0), (7, .ref (aR pp)), (0, .ref (gB G 0)), (1, .ref q0), (2, .int x), (3, .int (nI n)), (4, .int (nI k)), (5, .int (nI pp))]) S.1 S.2.1 dL_act_233 hl (by decide) rfl (fun ls hl => ?_)
        refine lv_aload S.1 S.2.1 dL_act_235 (lv_at hl 1 rfl) ?_
        refine lv_iconst (v := 2) S.1 S.2.1 dL_act_237 (by decide) ?_
        refine i_row2 S hJ hpp dL_act_238 ?_
        refine lv_istore (lv' := [(8, .int (nI (gP σ pp).2.1)), (6, .int 0), (7, .ref (aR pp)), (0, .ref (gB G 0)), (1, .ref q0), (2, .int x), (3, .int (nI n)), (4, .int (nI k)), (5, .int (nI pp))]) S.1 S.2.1 dL_act_239 hl (by decide) rfl (fun ls hl => ?_)
        refine lv_iload S.1 S.2.1 dL_act_241 (lv_at hl 1 rfl) ?_
        refine lv_if_eq (tgt := 264) S.1 S.2.1 dL_act_243 (by decide) (fun cz_243 => ?_) (fun c9 => absurd (by decide) c9)
        refine lv_aload_n S.1 S.2.1 dL_act_264 rfl (lv_at hl 3 rfl) ?_
        refine lv_iload S.1 S.2.1 dL_act_265 (lv_at hl 8 rfl) ?_
        refine lv_iload S.1 S.2.1 dL_act_267 (lv_at hl 7 rfl) ?_
        refine cz_bad (As := [.int (nI pp), .int (nI k)]) (rest := []) S hJ (x_move_t l hst9 _ σ hp.1.ok (i := pp) (k := k) (n := n) hpp hn hp.1.gx hk h5 hne hg3) (cw_L_X3_move S.2.2.2.2 ⟨Nat.le_of_ble_eq_true rfl, Nat.le_of_ble_eq_true rfl⟩) rfl hl.1 (Nat.le_of_ble_eq_true rfl) dL_act_269 ⟨Nat.le_of_ble_eq_true rfl, Nat.le_of_ble_eq_true rfl⟩ [⟨36, 194, 498, 61⟩] ⟨195, 287, 498, 61⟩ [⟨288, 363, 498, 61⟩, ⟨364, 415, 498, 61⟩, ⟨416, 448, 498, 61⟩, ⟨449, 497, 498, 61⟩] hxt (List.forall_mem_cons.mpr ⟨rfl, fun _ h9 => nomatch h9⟩) (by decide) (by decide) lw_k61 lw_cIS (fun q9 H locs hJ => ?_)
        refine lv_astore (lv' := [(7, .ref q9), (8, .int (nI (gP σ pp).2.1)), (6, .int 0), (0, .ref (gB G 0)), (1, .ref q0), (2, .int x), (3, .int (nI n)), (4, .int (nI k)), (5, .int (nI pp))]) S.1 S.2.1 dL_act_498 hl (by decide) rfl (fun ls hl => ?_)
        refine lv_iload S.1 S.2.1 dL_act_500 (lv_at hl 2 rfl) ?_
        refine lv_if_ne (tgt := 509) S.1 S.2.1 dL_act_502 (by decide) (fun c9 => absurd (by decide) c9) (fun cz_502 => ?_)
        refine lv_iconst (v := 1) S.1 S.2.1 dL_act_505 (by decide) ?_
        refine lv_goto (tgt := 510) S.1 S.2.1 dL_act_506 (by decide) ?_
        exact yt_z S hJ hr hlk rfl (⟨rfl, _, _, _, _, _, _, _, _, _, _, rfl, (by rw [← hz, va_up_same]; exact hp)⟩) (Nat.le_of_ble_eq_true rfl) (Nat.le_of_ble_eq_true rfl) dL_act_510
      · refine lv_aload_n S.1 S.2.1 dL_act_195 rfl (lv_at hl 1 rfl) ?_
        refine q_L_all S hJ dL_act_196 ?_
        refine lv_iload S.1 S.2.1 dL_act_199 (lv_at hl 5 rfl) ?_
        have hJ : Jw G (fw G σ ((q0, q1, q2, q3), aR) (hh, pw, ar, st, ht, n, va_up row pp (z0, z1, (nI (gP σ pp).2.1), z3, z4, z5, z6)) Y) s H locs := by rw [← hz, va_up_same]; exact hJ
        refine i_all S hJ (i := pp) hpp hn dL_act_201 ?_
        refine lv_astore (lv' := [(7, .ref (aR pp)), (0, .ref (gB G 0)), (1, .ref q0), (2, .int x), (3, .int (nI n)), (4, .int (nI k)), (5, .int (nI pp)), (6, .int 1)]) S.1 S.2.1 dL_act_202 hl (by decide) rfl (fun ls hl => ?_)
        refine lv_aload S.1 S.2.1 dL_act_204 (lv_at hl 0 rfl) ?_
        refine lv_iconst (v := 2) S.1 S.2.1 dL_act_206 (by decide) ?_
        refine i_row2 S hJ hpp dL_act_207 ?_
        refine lv_if_lt (tgt := 232) S.1 S.2.1 dL_act_208 (by decide) (fun c9 => absurd c9 (nI_pos (by omega))) (fun cz_208 => ?_)
        refine lv_aload S.1 S.2.1 dL_act_211 (lv_at hl 0 rfl) ?_
        refine lv_iconst (v := 2) S.1 S.2.1 dL_act_213 (by decide) ?_
        refine i_row2 S hJ hpp dL_act_214 ?_
        refine lv_iload S.1 S.2.1 dL_act_215 (lv_at hl 5 rfl) ?_
        refine lv_icmp_eq (tgt := 232) S.1 S.2.1 dL_act_217 (by decide) (fun c9 => absurd c9 (fun q8 => hne (nI_eq9 (by omega) (by omega) q8))) (fun cz_217 => ?_)
        refine lv_aload S.1 S.2.1 dL_act_220 (lv_at hl 0 rfl) ?_
        refine lv_iconst (v := 5) S.1 S.2.1 dL_act_222 (by decide) ?_
        refine i_row5 S hJ hpp dL_act_223 ?_
        refine lv_iconst (v := 2) S.1 S.2.1 dL_act_224 (by decide) ?_
        refine lv_icmp_eq (tgt := 232) S.1 S.2.1 dL_act_225 (by decide) (fun c9 => absurd c9 (mv5 hz5 hg hg3)) (fun cz_225 => ?_)
        refine lv_iconst (v := 1) S.1 S.2.1 dL_act_228 (by decide) ?_
        refine lv_goto (tgt := 233) S.1 S.2.1 dL_act_229 (by decide) ?_
        refine lv_istore (lv' := [(6, .int 1), (7, .ref (aR pp)), (0, .ref (gB G 0)), (1, .ref q0), (2, .int x), (3, .int (nI n)), (4, .int (nI k)), (5, .int (nI pp))]) S.1 S.2.1 dL_act_233 hl (by decide) rfl (fun ls hl => ?_)
        refine lv_aload S.1 S.2.1 dL_act_235 (lv_at hl 1 rfl) ?_
        refine lv_iconst (v := 2) S.1 S.2.1 dL_act_237 (by decide) ?_
        refine i_row2 S hJ hpp dL_act_238 ?_
        refine lv_istore (lv' := [(8, .int (nI (gP σ pp).2.1)), (6, .int 1), (7, .ref (aR pp)), (0, .ref (gB G 0)), (1, .ref q0), (2, .int x), (3, .int (nI n)), (4, .int (nI k)), (5, .int (nI pp))]) S.1 S.2.1 dL_act_239 hl (by decide) rfl (fun ls hl => ?_)
        refine lv_iload S.1 S.2.1 dL_act_241 (lv_at hl 1 rfl) ?_
        refine lv_if_eq (tgt := 264) S.1 S.2.1 dL_act_243 (by decide) (fun c9 => absurd c9 (by decide)) (fun cz_243 => ?_)
        refine lv_aload_n S.1 S.2.1 dL_act_246 rfl (lv_at hl 4 rfl) ?_
        refine lv_iload S.1 S.2.1 dL_act_247 (lv_at hl 0 rfl) ?_
        refine dw_v hJ (rwV (As := [.int (nI (gP σ pp).2.1)]) (rest := []) S hJ (k_open (a := ((q0, q1, q2, q3), aR)) l G h5) (cw_L_X4_open S.2.2.2.2 ⟨Nat.le_of_ble_eq_true rfl, Nat.le_of_ble_eq_true rfl⟩) (rcSim hJ) rfl hl.1 (Nat.le_of_ble_eq_true rfl) dL_act_249 ⟨Nat.le_of_ble_eq_true rfl, Nat.le_of_ble_eq_true rfl⟩) (fun ws1 H locs hq1 hJ => ?_)
        subst hq1
        refine lv_aload_n S.1 S.2.1 dL_act_252 rfl (lv_at hl 4 rfl) ?_
        refine lv_iload S.1 S.2.1 dL_act_253 (lv_at hl 7 rfl) ?_
        refine dw_v hJ (rwV (As := [.int (nI k)]) (rest := []) S hJ (k_open (a := ((q0, q1, q2, q3), aR)) l G hk) (cw_L_X4_open S.2.2.2.2 ⟨Nat.le_of_ble_eq_true rfl, Nat.le_of_ble_eq_true rfl⟩) (rcSim hJ) rfl hl.1 (Nat.le_of_ble_eq_true rfl) dL_act_255 ⟨Nat.le_of_ble_eq_true rfl, Nat.le_of_ble_eq_true rfl⟩) (fun ws2 H locs hq2 hJ => ?_)
        subst hq2
        refine lv_aload S.1 S.2.1 dL_act_258 (lv_at hl 2 rfl) ?_
        refine lv_iconst (v := 2) S.1 S.2.1 dL_act_260 (by decide) ?_
        refine lv_iload S.1 S.2.1 dL_act_261 (lv_at hl 7 rfl) ?_
        refine o_row2 S hJ hpp dL_act_263 (fun H locs hJ => ?_)
        refine lv_aload_n S.1 S.2.1 dL_act_264 rfl (lv_at hl 3 rfl) ?_
        refine lv_iload S.1 S.2.1 dL_act_265 (lv_at hl 8 rfl) ?_
        refine lv_iload S.1 S.2.1 dL_act_267 (lv_at hl 7 rfl) ?_
        refine cz_i hJ (rzV (As := [.int (nI pp), .int (nI k)]) (rest := []) S hJ (c_move l _ σ hp.1.ok (i := pp) (k := k) (n := n) hpp hn hk hp.1.gx h5 hne hg3) (cw_L_X3_move S.2.2.2.2 ⟨Nat.le_of_ble_eq_true rfl, Nat.le_of_ble_eq_true rfl⟩) (rcX hJ.iv) rfl hl.1 (Nat.le_of_ble_eq_true rfl) dL_act_269 ⟨Nat.le_of_ble_eq_true rfl, Nat.le_of_ble_eq_true rfl⟩) (fun r3 σ3 H locs hq3 hJ => ?_)
        obtain ⟨hr3, hs3⟩ := hq3
        rw [hs3] at hJ
        rw [hr3]
        refine lv_iload S.1 S.2.1 dL_act_272 (lv_at hl 0 rfl) ?_
        refine lv_icmp_ne (tgt := 286) S.1 S.2.1 dL_act_274 (by decide) (fun c9 => absurd rfl c9) (fun cz_274 => ?_)
        refine lv_iload S.1 S.2.1 dL_act_277 (lv_at hl 1 rfl) ?_
        refine lv_if_eq (tgt := 286) S.1 S.2.1 dL_act_279 (by decide) (fun c9 => absurd c9 (by decide)) (fun cz_279 => ?_)
        refine lv_iconst (v := 1) S.1 S.2.1 dL_act_282 (by decide) ?_
        refine lv_goto (tgt := 287) S.1 S.2.1 dL_act_283 (by decide) ?_
        exact yt_z S hJ hr hlk rfl (⟨rfl, _, _, _, _, _, _, _, _, _, _, rfl, hp.move hpp rfl h5 hk hne hz⟩) (Nat.le_of_ble_eq_true rfl) (Nat.le_of_ble_eq_true rfl) dL_act_287
  · obtain ⟨hz2, hs6⟩ := hR.off h5
    obtain rfl : z2 = -1 := hz2
    refine lv_aload_n S.1 S.2.1 dL_act_195 rfl (lv_at hl 1 rfl) ?_
    refine q_L_all S hJ dL_act_196 ?_
    refine lv_iload S.1 S.2.1 dL_act_199 (lv_at hl 5 rfl) ?_
    have hJ : Jw G (fw G σ ((q0, q1, q2, q3), aR) (hh, pw, ar, st, ht, n, va_up row pp (z0, z1, (-1), z3, z4, z5, z6)) Y) s H locs := by rw [← hz, va_up_same]; exact hJ
    refine i_all S hJ (i := pp) hpp hn dL_act_201 ?_
    refine lv_astore (lv' := [(7, .ref (aR pp)), (0, .ref (gB G 0)), (1, .ref q0), (2, .int x), (3, .int (nI n)), (4, .int (nI k)), (5, .int (nI pp)), (6, .int 1)]) S.1 S.2.1 dL_act_202 hl (by decide) rfl (fun ls hl => ?_)
    refine lv_aload S.1 S.2.1 dL_act_204 (lv_at hl 0 rfl) ?_
    refine lv_iconst (v := 2) S.1 S.2.1 dL_act_206 (by decide) ?_
    refine i_row2 S hJ hpp dL_act_207 ?_
    refine lv_if_lt (tgt := 232) S.1 S.2.1 dL_act_208 (by decide) (fun cz_208 => ?_) (fun c9 => absurd (by decide) c9)
    refine lv_iconst (v := 0) S.1 S.2.1 dL_act_232 (by decide) ?_
    refine lv_istore (lv' := [(6, .int 0), (7, .ref (aR pp)), (0, .ref (gB G 0)), (1, .ref q0), (2, .int x), (3, .int (nI n)), (4, .int (nI k)), (5, .int (nI pp))]) S.1 S.2.1 dL_act_233 hl (by decide) rfl (fun ls hl => ?_)
    refine lv_aload S.1 S.2.1 dL_act_235 (lv_at hl 1 rfl) ?_
    refine lv_iconst (v := 2) S.1 S.2.1 dL_act_237 (by decide) ?_
    refine i_row2 S hJ hpp dL_act_238 ?_
    refine lv_istore (lv' := [(8, .int (-1)), (6, .int 0), (7, .ref (aR pp)), (0, .ref (gB G 0)), (1, .ref q0), (2, .int x), (3, .int (nI n)), (4, .int (nI k)), (5, .int (nI pp))]) S.1 S.2.1 dL_act_239 hl (by decide) rfl (fun ls hl => ?_)
    refine lv_iload S.1 S.2.1 dL_act_241 (lv_at hl 1 rfl) ?_
    refine lv_if_eq (tgt := 264) S.1 S.2.1 dL_act_243 (by decide) (fun cz_243 => ?_) (fun c9 => absurd (by decide) c9)
    refine lv_aload_n S.1 S.2.1 dL_act_264 rfl (lv_at hl 3 rfl) ?_
    refine lv_iload S.1 S.2.1 dL_act_265 (lv_at hl 8 rfl) ?_
    refine lv_iload S.1 S.2.1 dL_act_267 (lv_at hl 7 rfl) ?_
    refine cz_bad (As := [.int (nI pp), .int (nI k)]) (rest := []) S hJ (x_move_n l hst9 _ σ (i := pp) (k := k) (n := n) hpp hn hp.1.gx hk hs6) (cw_L_X3_move S.2.2.2.2 ⟨Nat.le_of_ble_eq_true rfl, Nat.le_of_ble_eq_true rfl⟩) rfl hl.1 (Nat.le_of_ble_eq_true rfl) dL_act_269 ⟨Nat.le_of_ble_eq_true rfl, Nat.le_of_ble_eq_true rfl⟩ [⟨36, 194, 498, 61⟩] ⟨195, 287, 498, 61⟩ [⟨288, 363, 498, 61⟩, ⟨364, 415, 498, 61⟩, ⟨416, 448, 498, 61⟩, ⟨449, 497, 498, 61⟩] hxt (List.forall_mem_cons.mpr ⟨rfl, fun _ h9 => nomatch h9⟩) (by decide) (by decide) lw_k61 lw_cIS (fun q9 H locs hJ => ?_)
    refine lv_astore (lv' := [(7, .ref q9), (8, .int (-1)), (6, .int 0), (0, .ref (gB G 0)), (1, .ref q0), (2, .int x), (3, .int (nI n)), (4, .int (nI k)), (5, .int (nI pp))]) S.1 S.2.1 dL_act_498 hl (by decide) rfl (fun ls hl => ?_)
    refine lv_iload S.1 S.2.1 dL_act_500 (lv_at hl 2 rfl) ?_
    refine lv_if_ne (tgt := 509) S.1 S.2.1 dL_act_502 (by decide) (fun c9 => absurd (by decide) c9) (fun cz_502 => ?_)
    refine lv_iconst (v := 1) S.1 S.2.1 dL_act_505 (by decide) ?_
    refine lv_goto (tgt := 510) S.1 S.2.1 dL_act_506 (by decide) ?_
    exact yt_z S hJ hr hlk rfl (⟨rfl, _, _, _, _, _, _, _, _, _, _, rfl, (by rw [← hz, va_up_same]; exact hp)⟩) (Nat.le_of_ble_eq_true rfl) (Nat.le_of_ble_eq_true rfl) dL_act_510
set_option maxRecDepth 100000 in
set_option maxHeartbeats 4000000 in
theorem ac_keep {p : Program} {l : Launch} {e : Env} {s : State} {m : MethodId} {below : List Frame} {meth : Method} {c : Code} {H : Heap} {locs : List Loc} {ls : Array Slot} {G : Gt} {σ : St} {q0 q1 q2 q3 : Nat} {aR : Nat → Nat} {hh pw ar : Int32} {st ht : Nat → Int32} {n : Nat} {row : Nat → Z7} {Y : va_W} {x : Int32} {k : Nat} {pp : Nat} (hst9 : l.stackTraces = false) (S : CallFix p m c cL_act 9 s ([.ref (gB G 0), .ref q0, .int x] : List Value).toArray AL RL) (hr : meth.sig.returnType = some .boolean) (hlk : meth.locks = false) (hxt : c.exceptionTable.toList = tableOf [(36, 194, 498, 61), (195, 287, 498, 61), (288, 363, 498, 61), (364, 415, 498, 61), (416, 448, 498, 61), (449, 497, 498, 61)]) (hJ : Jw G (fw G σ ((q0, q1, q2, q3), aR) (hh, pw, ar, st, ht, n, row) Y) s H locs) (hp : Pct σ (hh, pw, ar, st, ht, n, row)) (hk : k < 5) (hl : lv_has ls 9 [(0, .ref (gB G 0)), (1, .ref q0), (2, .int x), (3, .int (nI n)), (4, .int (nI k)), (5, .int (nI pp)), (6, .int 1)]) (hpp : pp < n) : W p l e (rm 8 2 27) s m ([.ref (gB G 0), .ref q0, .int x] : List Value).toArray below meth c H locs 0 0 (MQ below (Ui G (actP G q0 q1 q2 Y)) ([.ref (gB G 0), .ref q0, .int x] : List Value).toArray s 2 27 (gA G)) (F0 m 288 ls []) := by
  have hn : n ≤ 20 := hp.1.1
  obtain ⟨⟨z0, z1, z2, z3, z4, z5, z6⟩, hz⟩ : ∃ z, row pp = z := ⟨_, rfl⟩
  have hR : RowP (gP σ pp) (z0, z1, z2, z3, z4, z5, z6) := by rw [← hz]; exact hp.2.2.2 pp hpp
  have hO := hp.1.2.2.2.2.1 pp hpp
  by_cases h5 : (gP σ pp).2.1 < 5
  · have hzE := hR.lie h5
    obtain ⟨rfl, hz6⟩ : z2 = nI (gP σ pp).2.1 ∧ z6 = 0 := by cases hzE; exact ⟨rfl, rfl⟩
    have hz5 : z5 = nI ((gP σ pp).1 - 1) := by cases hzE; rfl
    have hg : (gP σ pp).1 = 1 ∨ (gP σ pp).1 = 2 ∨ (gP σ pp).1 = 3 := by obtain ⟨ma, lf, ag, -, -, -, -, -, -, -, h8⟩ := hO; omega
    refine lv_aload_n S.1 S.2.1 dL_act_288 rfl (lv_at hl 1 rfl) ?_
    refine q_L_all S hJ dL_act_289 ?_
    refine lv_iload S.1 S.2.1 dL_act_292 (lv_at hl 5 rfl) ?_
    have hJ : Jw G (fw G σ ((q0, q1, q2, q3), aR) (hh, pw, ar, st, ht, n, va_up row pp (z0, z1, (nI (gP σ pp).2.1), z3, z4, z5, z6)) Y) s H locs := by rw [← hz, va_up_same]; exact hJ
    refine i_all S hJ (i := pp) hpp hn dL_act_294 ?_
    refine lv_astore (lv' := [(7, .ref (aR pp)), (0, .ref (gB G 0)), (1, .ref q0), (2, .int x), (3, .int (nI n)), (4, .int (nI k)), (5, .int (nI pp)), (6, .int 1)]) S.1 S.2.1 dL_act_295 hl (by decide) rfl (fun ls hl => ?_)
    refine lv_aload S.1 S.2.1 dL_act_297 (lv_at hl 0 rfl) ?_
    refine lv_iconst (v := 2) S.1 S.2.1 dL_act_299 (by decide) ?_
    refine i_row2 S hJ hpp dL_act_300 ?_
    refine lv_if_lt (tgt := 308) S.1 S.2.1 dL_act_301 (by decide) (fun c9 => absurd c9 (nI_pos (by omega))) (fun cz_301 => ?_)
    refine lv_iconst (v := 1) S.1 S.2.1 dL_act_304 (by decide) ?_
    refine lv_goto (tgt := 309) S.1 S.2.1 dL_act_305 (by decide) ?_
    refine lv_istore (lv' := [(6, .int 1), (7, .ref (aR pp)), (0, .ref (gB G 0)), (1, .ref q0), (2, .int x), (3, .int (nI n)), (4, .int (nI k)), (5, .int (nI pp))]) S.1 S.2.1 dL_act_309 hl (by decide) rfl (fun ls hl => ?_)
    refine lv_iload S.1 S.2.1 dL_act_311 (lv_at hl 0 rfl) ?_
    refine lv_if_eq (tgt := 335) S.1 S.2.1 dL_act_313 (by decide) (fun c9 => absurd c9 (by decide)) (fun cz_313 => ?_)
    refine lv_aload_n S.1 S.2.1 dL_act_316 rfl (lv_at hl 3 rfl) ?_
    refine lv_aload S.1 S.2.1 dL_act_317 (lv_at hl 1 rfl) ?_
    refine lv_iconst (v := 2) S.1 S.2.1 dL_act_319 (by decide) ?_
    refine i_row2 S hJ hpp dL_act_320 ?_
    refine dw_v hJ (rwV (As := [.int (nI (gP σ pp).2.1)]) (rest := []) S hJ (k_open (a := ((q0, q1, q2, q3), aR)) l G h5) (cw_L_X4_open S.2.2.2.2 ⟨Nat.le_of_ble_eq_true rfl, Nat.le_of_ble_eq_true rfl⟩) (rcSim hJ) rfl hl.1 (Nat.le_of_ble_eq_true rfl) dL_act_321 ⟨Nat.le_of_ble_eq_true rfl, Nat.le_of_ble_eq_true rfl⟩) (fun ws1 H locs hq1 hJ => ?_)
    subst hq1
    refine lv_aload S.1 S.2.1 dL_act_324 (lv_at hl 1 rfl) ?_
    refine lv_iconst (v := 2) S.1 S.2.1 dL_act_326 (by decide) ?_
    refine lv_iconst (v := (-1)) S.1 S.2.1 dL_act_327 (by decide) ?_
    refine o_row2 S hJ hpp dL_act_328 (fun H locs hJ => ?_)
    refine lv_aload S.1 S.2.1 dL_act_329 (lv_at hl 1 rfl) ?_
    refine lv_bipush (v := 6) S.1 S.2.1 dL_act_331 (by decide) ?_
    refine lv_iconst (v := 1) S.1 S.2.1 dL_act_333 (by decide) ?_
    refine o_row6 S hJ hpp dL_act_334 (fun H locs hJ => ?_)
    refine lv_aload_n S.1 S.2.1 dL_act_335 rfl (lv_at hl 2 rfl) ?_
    refine lv_iload S.1 S.2.1 dL_act_336 (lv_at hl 7 rfl) ?_
    refine cz_i hJ (rzV (As := [.int (nI pp)]) (rest := []) S hJ (c_keep l _ σ hp.1.ok (i := pp) (n := n) hpp hn hp.1.gx h5) (cw_L_X3_keep S.2.2.2.2 ⟨Nat.le_of_ble_eq_true rfl, Nat.le_of_ble_eq_true rfl⟩) (rcX hJ.iv) rfl hl.1 (Nat.le_of_ble_eq_true rfl) dL_act_338 ⟨Nat.le_of_ble_eq_true rfl, Nat.le_of_ble_eq_true rfl⟩) (fun r2 σ2 H locs hq2 hJ => ?_)
    obtain ⟨hr2, hs2⟩ := hq2
    rw [hs2] at hJ
    rw [hr2]
    refine lv_aload S.1 S.2.1 dL_act_341 (lv_at hl 1 rfl) ?_
    refine lv_iconst (v := 1) S.1 S.2.1 dL_act_343 (by decide) ?_
    refine i_row1 S hJ hpp dL_act_344 ?_
    refine lv_aload S.1 S.2.1 dL_act_345 (lv_at hl 1 rfl) ?_
    refine lv_iconst (v := 4) S.1 S.2.1 dL_act_347 (by decide) ?_
    refine i_row4 S hJ hpp dL_act_348 ?_
    refine lv_isub S.1 S.2.1 dL_act_349 ?_
    refine lv_icmp_ne (tgt := 362) S.1 S.2.1 dL_act_350 (by decide) (fun c9 => absurd (by have q1 : z1 = (gP σ pp).2.2.2.1 := hR.2.1; have q4 : z4 = (gP σ pp).2.2.2.2.1 := hR.2.2.2.1; rw [q1, q4]) c9) (fun cz_350 => ?_)
    refine lv_iload S.1 S.2.1 dL_act_353 (lv_at hl 0 rfl) ?_
    refine lv_if_eq (tgt := 362) S.1 S.2.1 dL_act_355 (by decide) (fun c9 => absurd c9 (by decide)) (fun cz_355 => ?_)
    refine lv_iconst (v := 1) S.1 S.2.1 dL_act_358 (by decide) ?_
    refine lv_goto (tgt := 363) S.1 S.2.1 dL_act_359 (by decide) ?_
    exact yt_z S hJ hr hlk rfl (⟨rfl, _, _, _, _, _, _, _, _, _, _, rfl, hp.keep hpp rfl h5 hz⟩) (Nat.le_of_ble_eq_true rfl) (Nat.le_of_ble_eq_true rfl) dL_act_363
  · obtain ⟨hz2, hs6⟩ := hR.off h5
    obtain rfl : z2 = -1 := hz2
    refine lv_aload_n S.1 S.2.1 dL_act_288 rfl (lv_at hl 1 rfl) ?_
    refine q_L_all S hJ dL_act_289 ?_
    refine lv_iload S.1 S.2.1 dL_act_292 (lv_at hl 5 rfl) ?_
    have hJ : Jw G (fw G σ ((q0, q1, q2, q3), aR) (hh, pw, ar, st, ht, n, va_up row pp (z0, z1, (-1), z3, z4, z5, z6)) Y) s H locs := by rw [← hz, va_up_same]; exact hJ
    refine i_all S hJ (i := pp) hpp hn dL_act_294 ?_
    refine lv_astore (lv' := [(7, .ref (aR pp)), (0, .ref (gB G 0)), (1, .ref q0), (2, .int x), (3, .int (nI n)), (4, .int (nI k)), (5, .int (nI pp)), (6, .int 1)]) S.1 S.2.1 dL_act_295 hl (by decide) rfl (fun ls hl => ?_)
    refine lv_aload S.1 S.2.1 dL_act_297 (lv_at hl 0 rfl) ?_
    refine lv_iconst (v := 2) S.1 S.2.1 dL_act_299 (by decide) ?_
    refine i_row2 S hJ hpp dL_act_300 ?_
    refine lv_if_lt (tgt := 308) S.1 S.2.1 dL_act_301 (by decide) (fun cz_301 => ?_) (fun c9 => absurd (by decide) c9)
    refine lv_iconst (v := 0) S.1 S.2.1 dL_act_308 (by decide) ?_
    refine lv_istore (lv' := [(6, .int 0), (7, .ref (aR pp)), (0, .ref (gB G 0)), (1, .ref q0), (2, .int x), (3, .int (nI n)), (4, .int (nI k)), (5, .int (nI pp))]) S.1 S.2.1 dL_act_309 hl (by decide) rfl (fun ls hl => ?_)
    refine lv_iload S.1 S.2.1 dL_act_311 (lv_at hl 0 rfl) ?_
    refine lv_if_eq (tgt := 335) S.1 S.2.1 dL_act_313 (by decide) (fun cz_313 => ?_) (fun c9 => absurd (by decide) c9)
    refine lv_aload_n S.1 S.2.1 dL_act_335 rfl (lv_at hl 2 rfl) ?_
    refine lv_iload S.1 S.2.1 dL_act_336 (lv_at hl 7 rfl) ?_
    refine cz_bad (As := [.int (nI pp)]) (rest := []) S hJ (x_keep_n l hst9 _ σ (i := pp) (n := n) hpp hn hp.1.gx hs6) (cw_L_X3_keep S.2.2.2.2 ⟨Nat.le_of_ble_eq_true rfl, Nat.le_of_ble_eq_true rfl⟩) rfl hl.1 (Nat.le_of_ble_eq_true rfl) dL_act_338 ⟨Nat.le_of_ble_eq_true rfl, Nat.le_of_ble_eq_true rfl⟩ [⟨36, 194, 498, 61⟩, ⟨195, 287, 498, 61⟩] ⟨288, 363, 498, 61⟩ [⟨364, 415, 498, 61⟩, ⟨416, 448, 498, 61⟩, ⟨449, 497, 498, 61⟩] hxt (List.forall_mem_cons.mpr ⟨rfl, List.forall_mem_cons.mpr ⟨rfl, fun _ h9 => nomatch h9⟩⟩) (by decide) (by decide) lw_k61 lw_cIS (fun q9 H locs hJ => ?_)
    refine lv_astore (lv' := [(7, .ref q9), (6, .int 0), (0, .ref (gB G 0)), (1, .ref q0), (2, .int x), (3, .int (nI n)), (4, .int (nI k)), (5, .int (nI pp))]) S.1 S.2.1 dL_act_498 hl (by decide) rfl (fun ls hl => ?_)
    refine lv_iload S.1 S.2.1 dL_act_500 (lv_at hl 1 rfl) ?_
    refine lv_if_ne (tgt := 509) S.1 S.2.1 dL_act_502 (by decide) (fun c9 => absurd (by decide) c9) (fun cz_502 => ?_)
    refine lv_iconst (v := 1) S.1 S.2.1 dL_act_505 (by decide) ?_
    refine lv_goto (tgt := 510) S.1 S.2.1 dL_act_506 (by decide) ?_
    exact yt_z S hJ hr hlk rfl (⟨rfl, _, _, _, _, _, _, _, _, _, _, rfl, (by rw [← hz, va_up_same]; exact hp)⟩) (Nat.le_of_ble_eq_true rfl) (Nat.le_of_ble_eq_true rfl) dL_act_510
set_option maxRecDepth 100000 in
set_option maxHeartbeats 4000000 in
theorem ac_set {p : Program} {l : Launch} {e : Env} {s : State} {m : MethodId} {below : List Frame} {meth : Method} {c : Code} {H : Heap} {locs : List Loc} {ls : Array Slot} {G : Gt} {σ : St} {q0 q1 q2 q3 : Nat} {aR : Nat → Nat} {hh pw ar : Int32} {st ht : Nat → Int32} {n : Nat} {row : Nat → Z7} {Y : va_W} {x : Int32} {k : Nat} {pp : Nat} (hst9 : l.stackTraces = false) (S : CallFix p m c cL_act 9 s ([.ref (gB G 0), .ref q0, .int x] : List Value).toArray AL RL) (hr : meth.sig.returnType = some .boolean) (hlk : meth.locks = false) (hxt : c.exceptionTable.toList = tableOf [(36, 194, 498, 61), (195, 287, 498, 61), (288, 363, 498, 61), (364, 415, 498, 61), (416, 448, 498, 61), (449, 497, 498, 61)]) (hJ : Jw G (fw G σ ((q0, q1, q2, q3), aR) (hh, pw, ar, st, ht, n, row) Y) s H locs) (hp : Pct σ (hh, pw, ar, st, ht, n, row)) (hk : k < 5) (hl : lv_has ls 9 [(0, .ref (gB G 0)), (1, .ref q0), (2, .int x), (3, .int (nI n)), (4, .int (nI k)), (5, .int (nI pp)), (6, .int 1)]) : W p l e (rm 8 2 27) s m ([.ref (gB G 0), .ref q0, .int x] : List Value).toArray below meth c H locs 0 0 (MQ below (Ui G (actP G q0 q1 q2 Y)) ([.ref (gB G 0), .ref q0, .int x] : List Value).toArray s 2 27 (gA G)) (F0 m 364 ls []) := by
  refine lv_aload_n S.1 S.2.1 dL_act_364 rfl (lv_at hl 1 rfl) ?_
  refine q_L_setting S hJ dL_act_365 ?_
  refine lv_iload S.1 S.2.1 dL_act_368 (lv_at hl 4 rfl) ?_
  refine i_st S hJ (j := k) hk dL_act_370 ?_
  refine lv_istore (lv' := [(7, .int (st k)), (0, .ref (gB G 0)), (1, .ref q0), (2, .int x), (3, .int (nI n)), (4, .int (nI k)), (5, .int (nI pp)), (6, .int 1)]) S.1 S.2.1 dL_act_371 hl (by decide) rfl (fun ls hl => ?_)
  refine lv_aload_n S.1 S.2.1 dL_act_373 rfl (lv_at hl 2 rfl) ?_
  refine q_L_setting S hJ dL_act_374 ?_
  refine lv_iload S.1 S.2.1 dL_act_377 (lv_at hl 5 rfl) ?_
  refine lv_iload_n S.1 S.2.1 dL_act_379 rfl (lv_at hl 3 rfl) ?_
  refine lv_bipush (v := 7) S.1 S.2.1 dL_act_380 (by decide) ?_
  refine lv_ishr S.1 S.2.1 dL_act_382 ?_
  refine lv_bipush (v := (nI 26)) S.1 S.2.1 dL_act_383 (by rfl) ?_
  refine dw_i hJ (rwS (As := [.int (x >>> (7 &&& 31)), .int (nI 26)]) (rest := [.int (nI k), .ref q1]) S hJ (k_below l G (x >>> (7 &&& 31)) (N := 26) (by decide) (by decide)) (cw_L_L_below S.2.2.2.2 ⟨Nat.le_of_ble_eq_true rfl, Nat.le_of_ble_eq_true rfl⟩) rfl hl.1 (Nat.le_of_ble_eq_true rfl) dL_act_385 ⟨Nat.le_of_ble_eq_true rfl, Nat.le_of_ble_eq_true rfl⟩) (fun r1 ws1 H locs hq1 hJ => ?_)
  obtain ⟨⟨kv, hkv, hr1⟩, hw1⟩ := hq1
  subst hw1
  rw [hr1]
  refine lv_bipush (v := 30) S.1 S.2.1 dL_act_388 (by decide) ?_
  refine lv_isub S.1 S.2.1 dL_act_390 ?_
  refine o_st S hJ (j := k) hk dL_act_391 (fun H locs hJ => ?_)
  refine lv_aload_n S.1 S.2.1 dL_act_392 rfl (lv_at hl 1 rfl) ?_
  refine lv_iload S.1 S.2.1 dL_act_393 (lv_at hl 5 rfl) ?_
  refine lv_aload_n S.1 S.2.1 dL_act_395 rfl (lv_at hl 2 rfl) ?_
  refine q_L_setting S hJ dL_act_396 ?_
  refine lv_iload S.1 S.2.1 dL_act_399 (lv_at hl 5 rfl) ?_
  refine i_st S hJ (j := k) hk dL_act_401 ?_
  rw [show ((va_up st k ((nI kv) - 30)) k) = ((nI kv) - 30) from va_up_self _ _ _]
  refine cz_i hJ (rzV (As := [.int (nI k), .int ((nI kv) - 30)]) (rest := []) S hJ (c_set l _ σ hk (v := nI kv - 30) (tab_set kv hkv).1 (tab_set kv hkv).2.1) (cw_L_X3_set S.2.2.2.2 ⟨Nat.le_of_ble_eq_true rfl, Nat.le_of_ble_eq_true rfl⟩) (rcX hJ.iv) rfl hl.1 (Nat.le_of_ble_eq_true rfl) dL_act_402 ⟨Nat.le_of_ble_eq_true rfl, Nat.le_of_ble_eq_true rfl⟩) (fun r2 σ2 H locs hq2 hJ => ?_)
  obtain ⟨hr2, hs2⟩ := hq2
  rw [hs2] at hJ
  rw [hr2]
  refine lv_iload S.1 S.2.1 dL_act_405 (lv_at hl 0 rfl) ?_
  refine lv_icmp_ne (tgt := 414) S.1 S.2.1 dL_act_407 (by decide) (fun c9 => absurd (((hp.2.2.1 k hk).1).symm) c9) (fun cz_407 => ?_)
  refine lv_iconst (v := 1) S.1 S.2.1 dL_act_410 (by decide) ?_
  refine lv_goto (tgt := 415) S.1 S.2.1 dL_act_411 (by decide) ?_
  exact yt_z S hJ hr hlk rfl (⟨rfl, _, _, _, _, _, _, _, _, _, _, rfl, hp.setting hk ⟨(tab_set kv hkv).2.2, (tab_set kv hkv).2.1⟩⟩) (Nat.le_of_ble_eq_true rfl) (Nat.le_of_ble_eq_true rfl) dL_act_415
set_option maxRecDepth 100000 in
set_option maxHeartbeats 4000000 in
theorem ac_power {p : Program} {l : Launch} {e : Env} {s : State} {m : MethodId} {below : List Frame} {meth : Method} {c : Code} {H : Heap} {locs : List Loc} {ls : Array Slot} {G : Gt} {σ : St} {q0 q1 q2 q3 : Nat} {aR : Nat → Nat} {hh pw ar : Int32} {st ht : Nat → Int32} {n : Nat} {row : Nat → Z7} {Y : va_W} {x : Int32} {k : Nat} {pp : Nat} (hst9 : l.stackTraces = false) (S : CallFix p m c cL_act 9 s ([.ref (gB G 0), .ref q0, .int x] : List Value).toArray AL RL) (hr : meth.sig.returnType = some .boolean) (hlk : meth.locks = false) (hxt : c.exceptionTable.toList = tableOf [(36, 194, 498, 61), (195, 287, 498, 61), (288, 363, 498, 61), (364, 415, 498, 61), (416, 448, 498, 61), (449, 497, 498, 61)]) (hJ : Jw G (fw G σ ((q0, q1, q2, q3), aR) (hh, pw, ar, st, ht, n, row) Y) s H locs) (hp : Pct σ (hh, pw, ar, st, ht, n, row)) (hk : k < 5) (hl : lv_has ls 9 [(0, .ref (gB G 0)), (1, .ref q0), (2, .int x), (3, .int (nI n)), (4, .int (nI k)), (5, .int (nI pp)), (6, .int 1)]) : W p l e (rm 8 2 27) s m ([.ref (gB G 0), .ref q0, .int x] : List Value).toArray below meth c H locs 0 0 (MQ below (Ui G (actP G q0 q1 q2 Y)) ([.ref (gB G 0), .ref q0, .int x] : List Value).toArray s 2 27 (gA G)) (F0 m 416 ls []) := by
  refine lv_aload_n S.1 S.2.1 dL_act_416 rfl (lv_at hl 1 rfl) ?_
  refine lv_aload_n S.1 S.2.1 dL_act_417 rfl (lv_at hl 1 rfl) ?_
  refine q_L_hasPower S hJ dL_act_418 ?_
  refine lv_if_ne (tgt := 428) S.1 S.2.1 dL_act_421 (by decide) (fun cz_421 => ?_) (fun cz_421 => ?_)
  · refine lv_iconst (v := 0) S.1 S.2.1 dL_act_428 (by decide) ?_
    refine u_L_hasPower S hJ (Or.inl rfl) dL_act_429 (fun H locs hJ => ?_)
    refine lv_aload_n S.1 S.2.1 dL_act_432 rfl (lv_at hl 0 rfl) ?_
    refine cz_i hJ (rzV (As := []) (rest := []) S hJ (c_switchPower l _ σ hp.1.2.2.1) (cw_L_X3_switchPower S.2.2.2.2 ⟨Nat.le_of_ble_eq_true rfl, Nat.le_of_ble_eq_true rfl⟩) (rcX hJ.iv) rfl hl.1 (Nat.le_of_ble_eq_true rfl) dL_act_433 ⟨Nat.le_of_ble_eq_true rfl, Nat.le_of_ble_eq_true rfl⟩) (fun r1 σ1 H locs hq1 hJ => ?_)
    obtain ⟨hr1, hs1⟩ := hq1
    rw [hs1, show (if (gX σ).2.2.2 = 0 then (1 : Int32) else 0) = 0 from if_neg (fun q8 => cz_421 (hp.2.1.2.1.trans q8))] at hJ
    rw [hr1, show (if (gX σ).2.2.2 = 0 then (1 : Int32) else 0) = 0 from if_neg (fun q8 => cz_421 (hp.2.1.2.1.trans q8))]
    refine lv_aload_n S.1 S.2.1 dL_act_436 rfl (lv_at hl 1 rfl) ?_
    refine q_L_hasPower S hJ dL_act_437 ?_
    refine lv_icmp_ne (tgt := 447) S.1 S.2.1 dL_act_440 (by decide) (fun c9 => absurd (by decide) c9) (fun cz_440 => ?_)
    refine lv_iconst (v := 1) S.1 S.2.1 dL_act_443 (by decide) ?_
    refine lv_goto (tgt := 448) S.1 S.2.1 dL_act_444 (by decide) ?_
    exact yt_z S hJ hr hlk rfl (⟨rfl, _, _, _, _, _, _, _, _, _, _, rfl, hp.pow (Or.inl rfl)⟩) (Nat.le_of_ble_eq_true rfl) (Nat.le_of_ble_eq_true rfl) dL_act_448
  · refine lv_iconst (v := 1) S.1 S.2.1 dL_act_424 (by decide) ?_
    refine lv_goto (tgt := 429) S.1 S.2.1 dL_act_425 (by decide) ?_
    refine u_L_hasPower S hJ (Or.inr rfl) dL_act_429 (fun H locs hJ => ?_)
    refine lv_aload_n S.1 S.2.1 dL_act_432 rfl (lv_at hl 0 rfl) ?_
    refine cz_i hJ (rzV (As := []) (rest := []) S hJ (c_switchPower l _ σ hp.1.2.2.1) (cw_L_X3_switchPower S.2.2.2.2 ⟨Nat.le_of_ble_eq_true rfl, Nat.le_of_ble_eq_true rfl⟩) (rcX hJ.iv) rfl hl.1 (Nat.le_of_ble_eq_true rfl) dL_act_433 ⟨Nat.le_of_ble_eq_true rfl, Nat.le_of_ble_eq_true rfl⟩) (fun r2 σ2 H locs hq2 hJ => ?_)
    obtain ⟨hr2, hs2⟩ := hq2
    rw [hs2, show (if (gX σ).2.2.2 = 0 then (1 : Int32) else 0) = 1 from if_pos (hp.2.1.2.1.symm.trans cz_421)] at hJ
    rw [hr2, show (if (gX σ).2.2.2 = 0 then (1 : Int32) else 0) = 1 from if_pos (hp.2.1.2.1.symm.trans cz_421)]
    refine lv_aload_n S.1 S.2.1 dL_act_436 rfl (lv_at hl 1 rfl) ?_
    refine q_L_hasPower S hJ dL_act_437 ?_
    refine lv_icmp_ne (tgt := 447) S.1 S.2.1 dL_act_440 (by decide) (fun c9 => absurd (by decide) c9) (fun cz_440 => ?_)
    refine lv_iconst (v := 1) S.1 S.2.1 dL_act_443 (by decide) ?_
    refine lv_goto (tgt := 448) S.1 S.2.1 dL_act_444 (by decide) ?_
    exact yt_z S hJ hr hlk rfl (⟨rfl, _, _, _, _, _, _, _, _, _, _, rfl, hp.pow (Or.inr rfl)⟩) (Nat.le_of_ble_eq_true rfl) (Nat.le_of_ble_eq_true rfl) dL_act_448
set_option maxRecDepth 100000 in
set_option maxHeartbeats 4000000 in
theorem ac_pass {p : Program} {l : Launch} {e : Env} {s : State} {m : MethodId} {below : List Frame} {meth : Method} {c : Code} {H : Heap} {locs : List Loc} {ls : Array Slot} {G : Gt} {σ : St} {q0 q1 q2 q3 : Nat} {aR : Nat → Nat} {hh pw ar : Int32} {st ht : Nat → Int32} {n : Nat} {row : Nat → Z7} {Y : va_W} {x : Int32} {k : Nat} {pp : Nat} (hst9 : l.stackTraces = false) (S : CallFix p m c cL_act 9 s ([.ref (gB G 0), .ref q0, .int x] : List Value).toArray AL RL) (hr : meth.sig.returnType = some .boolean) (hlk : meth.locks = false) (hxt : c.exceptionTable.toList = tableOf [(36, 194, 498, 61), (195, 287, 498, 61), (288, 363, 498, 61), (364, 415, 498, 61), (416, 448, 498, 61), (449, 497, 498, 61)]) (hJ : Jw G (fw G σ ((q0, q1, q2, q3), aR) (hh, pw, ar, st, ht, n, row) Y) s H locs) (hp : Pct σ (hh, pw, ar, st, ht, n, row)) (hk : k < 5) (hl : lv_has ls 9 [(0, .ref (gB G 0)), (1, .ref q0), (2, .int x), (3, .int (nI n)), (4, .int (nI k)), (5, .int (nI pp)), (6, .int 1)]) : W p l e (rm 8 2 27) s m ([.ref (gB G 0), .ref q0, .int x] : List Value).toArray below meth c H locs 0 0 (MQ below (Ui G (actP G q0 q1 q2 Y)) ([.ref (gB G 0), .ref q0, .int x] : List Value).toArray s 2 27 (gA G)) (F0 m 449 ls []) := by
  refine lv_iconst (v := 1) S.1 S.2.1 dL_act_449 (by decide) ?_
  refine lv_iload_n S.1 S.2.1 dL_act_450 rfl (lv_at hl 2 rfl) ?_
  refine lv_bipush (v := 7) S.1 S.2.1 dL_act_451 (by decide) ?_
  refine lv_ishr S.1 S.2.1 dL_act_453 ?_
  refine lv_iload_n S.1 S.2.1 dL_act_454 rfl (lv_at hl 2 rfl) ?_
  refine lv_iconst (v := 3) S.1 S.2.1 dL_act_455 (by decide) ?_
  refine lv_ishr S.1 S.2.1 dL_act_456 ?_
  refine lv_iconst (v := (nI 5)) S.1 S.2.1 dL_act_457 (by rfl) ?_
  refine dw_i hJ (rwS (As := [.int (x >>> (3 &&& 31)), .int (nI 5)]) (rest := [.int (x >>> (7 &&& 31)), .int 1]) S hJ (k_below l G (x >>> (3 &&& 31)) (N := 5) (by decide) (by decide)) (cw_L_L_below S.2.2.2.2 ⟨Nat.le_of_ble_eq_true rfl, Nat.le_of_ble_eq_true rfl⟩) rfl hl.1 (Nat.le_of_ble_eq_true rfl) dL_act_458 ⟨Nat.le_of_ble_eq_true rfl, Nat.le_of_ble_eq_true rfl⟩) (fun r1 ws1 H locs hq1 hJ => ?_)
  obtain ⟨⟨kb, hkb, hr1⟩, hw1⟩ := hq1
  subst hw1
  rw [hr1]
  refine lv_if_ne (tgt := 469) S.1 S.2.1 dL_act_461 (by decide) (fun cz_461 => ?_) (fun cz_461 => ?_)
  · refine lv_bipush (v := (nI 8)) S.1 S.2.1 dL_act_469 (by rfl) ?_
    refine dw_i hJ (rwS (As := [.int (x >>> (7 &&& 31)), .int (nI 8)]) (rest := [.int 1]) S hJ (k_below l G (x >>> (7 &&& 31)) (N := 8) (by decide) (by decide)) (cw_L_L_below S.2.2.2.2 ⟨Nat.le_of_ble_eq_true rfl, Nat.le_of_ble_eq_true rfl⟩) rfl hl.1 (Nat.le_of_ble_eq_true rfl) dL_act_471 ⟨Nat.le_of_ble_eq_true rfl, Nat.le_of_ble_eq_true rfl⟩) (fun r2 ws2 H locs hq2 hJ => ?_)
    obtain ⟨⟨kl, hkl, hr2⟩, hw2⟩ := hq2
    subst hw2
    rw [hr2]
    refine lv_iadd S.1 S.2.1 dL_act_474 ?_
    rw [show (1 + (nI kl)) = (nI (1 + kl)) from nI_add 1 kl]
    refine lv_istore (lv' := [(7, .int (nI (1 + kl))), (0, .ref (gB G 0)), (1, .ref q0), (2, .int x), (3, .int (nI n)), (4, .int (nI k)), (5, .int (nI pp)), (6, .int 1)]) S.1 S.2.1 dL_act_475 hl (by decide) rfl (fun ls hl => ?_)
    refine lv_aload_n S.1 S.2.1 dL_act_477 rfl (lv_at hl 1 rfl) ?_
    refine lv_iload S.1 S.2.1 dL_act_478 (lv_at hl 0 rfl) ?_
    refine cz_i hJ (rzV (As := [.int (nI (1 + kl))]) (rest := []) S hJ (c_pass l _ σ hp.1.ok (h := 1 + kl) (by omega) (by omega)) (cw_L_X3_pass S.2.2.2.2 ⟨Nat.le_of_ble_eq_true rfl, Nat.le_of_ble_eq_true rfl⟩) (rcX hJ.iv) rfl hl.1 (Nat.le_of_ble_eq_true rfl) dL_act_480 ⟨Nat.le_of_ble_eq_true rfl, Nat.le_of_ble_eq_true rfl⟩) (fun r3 σ3 H locs hq3 hJ => ?_)
    obtain ⟨hr3, hs3⟩ := hq3
    rw [hs3] at hJ
    rw [hr3]
    refine lv_aload_n S.1 S.2.1 dL_act_483 rfl (lv_at hl 2 rfl) ?_
    refine lv_iload S.1 S.2.1 dL_act_484 (lv_at hl 0 rfl) ?_
    refine dw_i hJ (rwV (As := [.int (nI (1 + kl))]) (rest := [.int ((gX (hourXs (1 + kl) σ)).2.1 - (gX σ).2.1)]) S hJ (k_passN (a := ((q0, q1, q2, q3), aR)) l G hp (h9 := 1 + kl) (by omega)) (cw_L_X4_pass_ S.2.2.2.2 ⟨Nat.le_of_ble_eq_true rfl, Nat.le_of_ble_eq_true rfl⟩) (rcSim hJ) rfl hl.1 (Nat.le_of_ble_eq_true rfl) dL_act_486 ⟨Nat.le_of_ble_eq_true rfl, Nat.le_of_ble_eq_true rfl⟩) (fun r4 ws4 H locs hq4 hJ => ?_)
    obtain ⟨h2, a2, ht2, row2, hw4, hp2, hr4⟩ := hq4
    subst hw4
    rw [hr4]
    refine lv_icmp_ne (tgt := 496) S.1 S.2.1 dL_act_489 (by decide) (fun c9 => absurd rfl c9) (fun cz_489 => ?_)
    refine lv_iconst (v := 1) S.1 S.2.1 dL_act_492 (by decide) ?_
    refine lv_goto (tgt := 497) S.1 S.2.1 dL_act_493 (by decide) ?_
    exact yt_z S hJ hr hlk rfl (⟨rfl, _, _, _, _, _, _, _, _, _, _, rfl, hp2⟩) (Nat.le_of_ble_eq_true rfl) (Nat.le_of_ble_eq_true rfl) dL_act_497
  · refine lv_bipush (v := (nI 60)) S.1 S.2.1 dL_act_464 (by rfl) ?_
    refine lv_goto (tgt := 471) S.1 S.2.1 dL_act_466 (by decide) ?_
    refine dw_i hJ (rwS (As := [.int (x >>> (7 &&& 31)), .int (nI 60)]) (rest := [.int 1]) S hJ (k_below l G (x >>> (7 &&& 31)) (N := 60) (by decide) (by decide)) (cw_L_L_below S.2.2.2.2 ⟨Nat.le_of_ble_eq_true rfl, Nat.le_of_ble_eq_true rfl⟩) rfl hl.1 (Nat.le_of_ble_eq_true rfl) dL_act_471 ⟨Nat.le_of_ble_eq_true rfl, Nat.le_of_ble_eq_true rfl⟩) (fun r5 ws5 H locs hq5 hJ => ?_)
    obtain ⟨⟨kl, hkl, hr5⟩, hw5⟩ := hq5
    subst hw5
    rw [hr5]
    refine lv_iadd S.1 S.2.1 dL_act_474 ?_
    rw [show (1 + (nI kl)) = (nI (1 + kl)) from nI_add 1 kl]
    refine lv_istore (lv' := [(7, .int (nI (1 + kl))), (0, .ref (gB G 0)), (1, .ref q0), (2, .int x), (3, .int (nI n)), (4, .int (nI k)), (5, .int (nI pp)), (6, .int 1)]) S.1 S.2.1 dL_act_475 hl (by decide) rfl (fun ls hl => ?_)
    refine lv_aload_n S.1 S.2.1 dL_act_477 rfl (lv_at hl 1 rfl) ?_
    refine lv_iload S.1 S.2.1 dL_act_478 (lv_at hl 0 rfl) ?_
    refine cz_i hJ (rzV (As := [.int (nI (1 + kl))]) (rest := []) S hJ (c_pass l _ σ hp.1.ok (h := 1 + kl) (by omega) (by omega)) (cw_L_X3_pass S.2.2.2.2 ⟨Nat.le_of_ble_eq_true rfl, Nat.le_of_ble_eq_true rfl⟩) (rcX hJ.iv) rfl hl.1 (Nat.le_of_ble_eq_true rfl) dL_act_480 ⟨Nat.le_of_ble_eq_true rfl, Nat.le_of_ble_eq_true rfl⟩) (fun r6 σ6 H locs hq6 hJ => ?_)
    obtain ⟨hr6, hs6⟩ := hq6
    rw [hs6] at hJ
    rw [hr6]
    refine lv_aload_n S.1 S.2.1 dL_act_483 rfl (lv_at hl 2 rfl) ?_
    refine lv_iload S.1 S.2.1 dL_act_484 (lv_at hl 0 rfl) ?_
    refine dw_i hJ (rwV (As := [.int (nI (1 + kl))]) (rest := [.int ((gX (hourXs (1 + kl) σ)).2.1 - (gX σ).2.1)]) S hJ (k_passN (a := ((q0, q1, q2, q3), aR)) l G hp (h9 := 1 + kl) (by omega)) (cw_L_X4_pass_ S.2.2.2.2 ⟨Nat.le_of_ble_eq_true rfl, Nat.le_of_ble_eq_true rfl⟩) (rcSim hJ) rfl hl.1 (Nat.le_of_ble_eq_true rfl) dL_act_486 ⟨Nat.le_of_ble_eq_true rfl, Nat.le_of_ble_eq_true rfl⟩) (fun r7 ws7 H locs hq7 hJ => ?_)
    obtain ⟨h2, a2, ht2, row2, hw7, hp2, hr7⟩ := hq7
    subst hw7
    rw [hr7]
    refine lv_icmp_ne (tgt := 496) S.1 S.2.1 dL_act_489 (by decide) (fun c9 => absurd rfl c9) (fun cz_489 => ?_)
    refine lv_iconst (v := 1) S.1 S.2.1 dL_act_492 (by decide) ?_
    refine lv_goto (tgt := 497) S.1 S.2.1 dL_act_493 (by decide) ?_
    exact yt_z S hJ hr hlk rfl (⟨rfl, _, _, _, _, _, _, _, _, _, _, rfl, hp2⟩) (Nat.le_of_ble_eq_true rfl) (Nat.le_of_ble_eq_true rfl) dL_act_497
set_option maxRecDepth 100000 in
set_option maxHeartbeats 4000000 in
theorem k_act (l : Launch) (hst9 : l.stackTraces = false) (G : Gt) {σ : St} {q0 q1 q2 q3 : Nat} {aR : Nat → Nat} {hh pw ar : Int32} {st ht : Nat → Int32} {n : Nat} {row : Nat → Z7} {Y : va_W} (hp : Pct σ (hh, pw, ar, st, ht, n, row)) (x : Int32) : CwL l G yL_act cL_act 9 (some .boolean) [(36, 194, 498, 61), (195, 287, 498, 61), (288, 363, 498, 61), (364, 415, 498, 61), (416, 448, 498, 61), (449, 497, 498, 61)] 8 2 27 [.ref (gB G 0), .ref q0, .int x] (fw G σ ((q0, q1, q2, q3), aR) (hh, pw, ar, st, ht, n, row) Y) (Ui G (actP G q0 q1 q2 Y)) := by
  refine mwl_intro (by decide +kernel) (Nat.le_of_ble_eq_true rfl) ?_
  intro p e s m below meth c S hr hlk hxt hJ ls hl
  have hl : lv_has ls 9 [(0, .ref (gB G 0)), (1, .ref q0), (2, .int x)] := hl
  have hn : n ≤ 20 := hp.1.1
  rcases Nat.eq_zero_or_pos n with hn0 | hn0
  · refine lv_aload_n S.1 S.2.1 dL_act_0 rfl (lv_at hl 1 rfl) ?_
    refine q_L_all S hJ dL_act_1 ?_
    refine l_all S hJ dL_act_4 ?_
    refine lv_istore_n (lv' := [(3, .int (nI n)), (0, .ref (gB G 0)), (1, .ref q0), (2, .int x)]) S.1 S.2.1 dL_act_5 rfl hl (by decide) rfl (fun ls hl => ?_)
    refine lv_iload_n S.1 S.2.1 dL_act_6 rfl (lv_at hl 3 rfl) ?_
    refine lv_iconst (v := 4) S.1 S.2.1 dL_act_7 (by decide) ?_
    refine lv_ishr S.1 S.2.1 dL_act_8 ?_
    refine lv_iconst (v := (nI 5)) S.1 S.2.1 dL_act_9 (by rfl) ?_
    refine dw_i hJ (rwS (As := [.int (x >>> (4 &&& 31)), .int (nI 5)]) (rest := []) S hJ (k_below l G (x >>> (4 &&& 31)) (N := 5) (by decide) (by decide)) (cw_L_L_below S.2.2.2.2 ⟨Nat.le_of_ble_eq_true rfl, Nat.le_of_ble_eq_true rfl⟩) rfl hl.1 (Nat.le_of_ble_eq_true rfl) dL_act_10 ⟨Nat.le_of_ble_eq_true rfl, Nat.le_of_ble_eq_true rfl⟩) (fun r1 ws1 H locs hq1 hJ => ?_)
    obtain ⟨⟨k, hk, hr1⟩, hw1⟩ := hq1
    subst hw1
    rw [hr1]
    refine lv_istore (lv' := [(4, .int (nI k)), (3, .int (nI n)), (0, .ref (gB G 0)), (1, .ref q0), (2, .int x)]) S.1 S.2.1 dL_act_13 hl (by decide) rfl (fun ls hl => ?_)
    refine lv_iload_n S.1 S.2.1 dL_act_15 rfl (lv_at hl 1 rfl) ?_
    refine lv_if_ne (tgt := 23) S.1 S.2.1 dL_act_16 (by decide) (fun c9 => absurd (by rw [hn0]; rfl) c9) (fun cz_16 => ?_)
    refine lv_iconst (v := (nI 0)) S.1 S.2.1 dL_act_19 (by rfl) ?_
    refine lv_goto (tgt := 31) S.1 S.2.1 dL_act_20 (by decide) ?_
    refine lv_istore (lv' := [(5, .int (nI 0)), (4, .int (nI k)), (3, .int (nI n)), (0, .ref (gB G 0)), (1, .ref q0), (2, .int x)]) S.1 S.2.1 dL_act_31 hl (by decide) rfl (fun ls hl => ?_)
    refine lv_iconst (v := 1) S.1 S.2.1 dL_act_33 (by decide) ?_
    refine lv_istore (lv' := [(6, .int 1), (5, .int (nI 0)), (4, .int (nI k)), (3, .int (nI n)), (0, .ref (gB G 0)), (1, .ref q0), (2, .int x)]) S.1 S.2.1 dL_act_34 hl (by decide) rfl (fun ls hl => ?_)
    refine lv_iload_n S.1 S.2.1 dL_act_36 rfl (lv_at hl 3 rfl) ?_
    refine lv_if_ne (tgt := 44) S.1 S.2.1 dL_act_37 (by decide) (fun c9 => absurd (by rw [hn0]; rfl) c9) (fun cz_37 => ?_)
    refine lv_iconst (v := (nI 0)) S.1 S.2.1 dL_act_40 (by rfl) ?_
    refine lv_goto (tgt := 50) S.1 S.2.1 dL_act_41 (by decide) ?_
    refine lv_tableIn (tgt := 104) (off := 54) S.1 S.2.1 dL_act_50 (by decide) (by decide) (by rfl) (by decide) ?_
    exact ac_make hst9 S hr hlk hxt hJ hp hk (lv_sub hl [4, 5, 6, 3, 2, 1, 0] rfl)
  · refine lv_aload_n S.1 S.2.1 dL_act_0 rfl (lv_at hl 1 rfl) ?_
    refine q_L_all S hJ dL_act_1 ?_
    refine l_all S hJ dL_act_4 ?_
    refine lv_istore_n (lv' := [(3, .int (nI n)), (0, .ref (gB G 0)), (1, .ref q0), (2, .int x)]) S.1 S.2.1 dL_act_5 rfl hl (by decide) rfl (fun ls hl => ?_)
    refine lv_iload_n S.1 S.2.1 dL_act_6 rfl (lv_at hl 3 rfl) ?_
    refine lv_iconst (v := 4) S.1 S.2.1 dL_act_7 (by decide) ?_
    refine lv_ishr S.1 S.2.1 dL_act_8 ?_
    refine lv_iconst (v := (nI 5)) S.1 S.2.1 dL_act_9 (by rfl) ?_
    refine dw_i hJ (rwS (As := [.int (x >>> (4 &&& 31)), .int (nI 5)]) (rest := []) S hJ (k_below l G (x >>> (4 &&& 31)) (N := 5) (by decide) (by decide)) (cw_L_L_below S.2.2.2.2 ⟨Nat.le_of_ble_eq_true rfl, Nat.le_of_ble_eq_true rfl⟩) rfl hl.1 (Nat.le_of_ble_eq_true rfl) dL_act_10 ⟨Nat.le_of_ble_eq_true rfl, Nat.le_of_ble_eq_true rfl⟩) (fun r2 ws2 H locs hq2 hJ => ?_)
    obtain ⟨⟨k, hk, hr2⟩, hw2⟩ := hq2
    subst hw2
    rw [hr2]
    refine lv_istore (lv' := [(4, .int (nI k)), (3, .int (nI n)), (0, .ref (gB G 0)), (1, .ref q0), (2, .int x)]) S.1 S.2.1 dL_act_13 hl (by decide) rfl (fun ls hl => ?_)
    refine lv_iload_n S.1 S.2.1 dL_act_15 rfl (lv_at hl 1 rfl) ?_
    refine lv_if_ne (tgt := 23) S.1 S.2.1 dL_act_16 (by decide) (fun cz_16 => ?_) (fun c9 => absurd c9 (nI_nz9 hn0 (by omega)))
    refine lv_iload_n S.1 S.2.1 dL_act_23 rfl (lv_at hl 4 rfl) ?_
    refine lv_bipush (v := 6) S.1 S.2.1 dL_act_24 (by decide) ?_
    refine lv_ishr S.1 S.2.1 dL_act_26 ?_
    refine lv_iload_n S.1 S.2.1 dL_act_27 rfl (lv_at hl 1 rfl) ?_
    refine dw_i hJ (rwS (As := [.int (x >>> (6 &&& 31)), .int (nI n)]) (rest := []) S hJ (k_below l G (x >>> (6 &&& 31)) (N := n) hn0 (by omega)) (cw_L_L_below S.2.2.2.2 ⟨Nat.le_of_ble_eq_true rfl, Nat.le_of_ble_eq_true rfl⟩) rfl hl.1 (Nat.le_of_ble_eq_true rfl) dL_act_28 ⟨Nat.le_of_ble_eq_true rfl, Nat.le_of_ble_eq_true rfl⟩) (fun r3 ws3 H locs hq3 hJ => ?_)
    obtain ⟨⟨pp, hpp, hr3⟩, hw3⟩ := hq3
    subst hw3
    rw [hr3]
    refine lv_istore (lv' := [(5, .int (nI pp)), (4, .int (nI k)), (3, .int (nI n)), (0, .ref (gB G 0)), (1, .ref q0), (2, .int x)]) S.1 S.2.1 dL_act_31 hl (by decide) rfl (fun ls hl => ?_)
    refine lv_iconst (v := 1) S.1 S.2.1 dL_act_33 (by decide) ?_
    refine lv_istore (lv' := [(6, .int 1), (5, .int (nI pp)), (4, .int (nI k)), (3, .int (nI n)), (0, .ref (gB G 0)), (1, .ref q0), (2, .int x)]) S.1 S.2.1 dL_act_34 hl (by decide) rfl (fun ls hl => ?_)
    refine lv_iload_n S.1 S.2.1 dL_act_36 rfl (lv_at hl 3 rfl) ?_
    refine lv_if_ne (tgt := 44) S.1 S.2.1 dL_act_37 (by decide) (fun cz_37 => ?_) (fun c9 => absurd c9 (nI_nz9 hn0 (by omega)))
    refine lv_iload_n S.1 S.2.1 dL_act_44 rfl (lv_at hl 6 rfl) ?_
    refine lv_bipush (v := (nI 15)) S.1 S.2.1 dL_act_45 (by rfl) ?_
    refine dw_i hJ (rwS (As := [.int x, .int (nI 15)]) (rest := []) S hJ (k_below l G x (N := 15) (by decide) (by decide)) (cw_L_L_below S.2.2.2.2 ⟨Nat.le_of_ble_eq_true rfl, Nat.le_of_ble_eq_true rfl⟩) rfl hl.1 (Nat.le_of_ble_eq_true rfl) dL_act_47 ⟨Nat.le_of_ble_eq_true rfl, Nat.le_of_ble_eq_true rfl⟩) (fun r4 ws4 H locs hq4 hJ => ?_)
    obtain ⟨⟨kc, hkc, hr4⟩, hw4⟩ := hq4
    subst hw4
    rw [hr4]
    rcases Nat.lt_or_ge kc 10 with h10 | h10
    · rcases (show kc = 0 ∨ kc = 1 ∨ kc = 2 ∨ kc = 3 ∨ kc = 4 ∨ kc = 5 ∨ kc = 6 ∨ kc = 7 ∨ kc = 8 ∨ kc = 9 by omega) with rfl | rfl | rfl | rfl | rfl | rfl | rfl | rfl | rfl | rfl
      · refine lv_tableIn (tgt := 104) (off := 54) S.1 S.2.1 dL_act_50 (by decide) (by decide) (by rfl) (by decide) ?_
        exact ac_make hst9 S hr hlk hxt hJ hp hk (lv_sub hl [4, 5, 6, 3, 2, 1, 0] rfl)
      · refine lv_tableIn (tgt := 104) (off := 54) S.1 S.2.1 dL_act_50 (by decide) (by decide) (by rfl) (by decide) ?_
        exact ac_make hst9 S hr hlk hxt hJ hp hk (lv_sub hl [4, 5, 6, 3, 2, 1, 0] rfl)
      · refine lv_tableIn (tgt := 104) (off := 54) S.1 S.2.1 dL_act_50 (by decide) (by decide) (by rfl) (by decide) ?_
        exact ac_make hst9 S hr hlk hxt hJ hp hk (lv_sub hl [4, 5, 6, 3, 2, 1, 0] rfl)
      · refine lv_tableIn (tgt := 195) (off := 145) S.1 S.2.1 dL_act_50 (by decide) (by decide) (by rfl) (by decide) ?_
        exact ac_move hst9 S hr hlk hxt hJ hp hk (lv_sub hl [4, 5, 6, 3, 2, 1, 0] rfl) hpp
      · refine lv_tableIn (tgt := 195) (off := 145) S.1 S.2.1 dL_act_50 (by decide) (by decide) (by rfl) (by decide) ?_
        exact ac_move hst9 S hr hlk hxt hJ hp hk (lv_sub hl [4, 5, 6, 3, 2, 1, 0] rfl) hpp
      · refine lv_tableIn (tgt := 288) (off := 238) S.1 S.2.1 dL_act_50 (by decide) (by decide) (by rfl) (by decide) ?_
        exact ac_keep hst9 S hr hlk hxt hJ hp hk (lv_sub hl [4, 5, 6, 3, 2, 1, 0] rfl) hpp
      · refine lv_tableIn (tgt := 288) (off := 238) S.1 S.2.1 dL_act_50 (by decide) (by decide) (by rfl) (by decide) ?_
        exact ac_keep hst9 S hr hlk hxt hJ hp hk (lv_sub hl [4, 5, 6, 3, 2, 1, 0] rfl) hpp
      · refine lv_tableIn (tgt := 364) (off := 314) S.1 S.2.1 dL_act_50 (by decide) (by decide) (by rfl) (by decide) ?_
        exact ac_set hst9 S hr hlk hxt hJ hp hk (lv_sub hl [4, 5, 6, 3, 2, 1, 0] rfl)
      · refine lv_tableIn (tgt := 364) (off := 314) S.1 S.2.1 dL_act_50 (by decide) (by decide) (by rfl) (by decide) ?_
        exact ac_set hst9 S hr hlk hxt hJ hp hk (lv_sub hl [4, 5, 6, 3, 2, 1, 0] rfl)
      · refine lv_tableIn (tgt := 416) (off := 366) S.1 S.2.1 dL_act_50 (by decide) (by decide) (by rfl) (by decide) ?_
        exact ac_power hst9 S hr hlk hxt hJ hp hk (lv_sub hl [4, 5, 6, 3, 2, 1, 0] rfl)
    · refine lv_tableOut (tgt := 449) S.1 S.2.1 dL_act_50 (Or.inr (by rw [nI_toInt (by omega)]; omega)) (by decide) ?_
      exact ac_pass hst9 S hr hlk hxt hJ hp hk (lv_sub hl [4, 5, 6, 3, 2, 1, 0] rfl)
