/-- as Pair, for a method that answers yes or no -/
def PairB (l : Launch) (G : Gt) (yL : MethodName) (cL : ByteArray) (mL : Nat) (hh : List (Nat × Nat × Nat × Nat)) (y4 : MethodName) (c4 : ByteArray) (m4 : Nat) (ret : Option FieldType) (vs : List Value) (σ : St) : Prop :=
  ∃ (k : Int32) (P1 : St → Prop), CtL l G yL cL mL hh 9 (.ref (gB G 0) :: vs ++ [.ref (gB G 8)]) σ (Qi G (fun r σ1 => r = k ∧ P1 σ1)) ∧
    ∀ σ1, P1 σ1 → ∃ d : Nat, d ≤ 10 ∧ Ct l G y4 c4 m4 ret d 0 0 (.ref (gB G 3) :: vs) σ1 (Qi G (fun r σ2 => (gM σ2).1 = k ∧ (k = 0 → σ2.2.2 0 = r.toInt64 ∧ (r = 0 ∨ r = 1)) ∧ Rel σ2))
set_option maxRecDepth 100000 in
set_option maxHeartbeats 4000000 in
theorem prz_isFrozen (l : Launch) (hst9 : l.stackTraces = false) (G : Gt) (σ : St) (hR : Rel σ) (v : Int32) : PairB l G yL_isFrozen cL_isFrozen 4 [(0, 16, 19, 13)] yX4_isFrozen cX4_isFrozen 2 (some .boolean) [.int v] σ := by
  obtain ⟨n, th, mk, lf, nw, kp, hX, hM, hpic⟩ := hR
  have hX4 : gX σ = (nI n, (gX σ).2.1, (gX σ).2.2.1, (gX σ).2.2.2) := by rw [← hX]
  rcases nI_case v (n := n) (by have := hpic.1; omega) with ⟨k, hk, rfl⟩ | hb
  · refine ⟨0, fun σ1 => ∃ (x : Int32) (σ0 : St), (x = (if (gP σ k).1 = 2 then 1 else 0) ∧ Tr σ σ0) ∧ σ1 = setO σ0 x.toInt64, (w_isFrozen (P := fun x σ0 => x = (if (gP σ k).1 = 2 then 1 else 0) ∧ Tr σ σ0) l G σ _ (by decide) ((c_isFrozen l G σ hpic.ok hk hpic.1 hX4).post (fun r σ' h => ⟨h.1, by rw [h.2]; exact Tr.rf σ⟩)) (fun v σ1 h => by rw [h.1]; split; exact Or.inr rfl; exact Or.inl rfl)).post (fun r σ' h => ⟨h.1, h.2⟩), ?_⟩
    rintro σ1 ⟨x, σ0, ⟨rfl, ht9⟩, rfl⟩
    refine ⟨5, by decide, (m_isFrozen l G (setO σ0 _) (show gM (setO σ0 _) = _ from (congrArg (fun z => z.1) ht9.M).trans hM) hpic hk).post ?_⟩
    rintro r σ2 ⟨rfl, mk2, lf2, nw2, kp2, rfl, hp2⟩
    exact ⟨rfl, fun _ => ⟨rfl, isI_01 _ _⟩, n, 0, mk2, lf2, nw2, kp2, (congrArg (fun z => z.1) ht9.X).trans hX, rfl, hp2.cong (fun k hk => ht9.S hk) (fun q hq => ht9.P hq) (congrArg (fun z => z.2) ht9.X)⟩
  · refine ⟨1, fun σ1 => σ1 = σ, wx_isFrozen_1 l G σ v (by decide) (x_isFrozen l hst9 G σ hX4 hb), ?_⟩
    rintro σ1 rfl
    refine ⟨5, by decide, (m_isFrozen_b l G _ hM hpic v hb).post ?_⟩
    rintro r σ2 ⟨mk2, lf2, nw2, kp2, rfl, hp2⟩
    exact ⟨rfl, fun h => absurd h (by decide), n, 1, mk2, lf2, nw2, kp2, hX, rfl, hp2.cong (fun _ _ => rfl) (fun _ _ => rfl) rfl⟩
set_option maxRecDepth 100000 in
set_option maxHeartbeats 4000000 in
theorem prz_isThawed (l : Launch) (hst9 : l.stackTraces = false) (G : Gt) (σ : St) (hR : Rel σ) (v : Int32) : PairB l G yL_isThawed cL_isThawed 4 [(0, 16, 19, 13)] yX4_isThawed cX4_isThawed 2 (some .boolean) [.int v] σ := by
  obtain ⟨n, th, mk, lf, nw, kp, hX, hM, hpic⟩ := hR
  have hX4 : gX σ = (nI n, (gX σ).2.1, (gX σ).2.2.1, (gX σ).2.2.2) := by rw [← hX]
  rcases nI_case v (n := n) (by have := hpic.1; omega) with ⟨k, hk, rfl⟩ | hb
  · refine ⟨0, fun σ1 => ∃ (x : Int32) (σ0 : St), (x = (if (gP σ k).1 = 3 then 1 else 0) ∧ Tr σ σ0) ∧ σ1 = setO σ0 x.toInt64, (w_isThawed (P := fun x σ0 => x = (if (gP σ k).1 = 3 then 1 else 0) ∧ Tr σ σ0) l G σ _ (by decide) ((c_isThawed l G σ hpic.ok hk hpic.1 hX4).post (fun r σ' h => ⟨h.1, by rw [h.2]; exact Tr.rf σ⟩)) (fun v σ1 h => by rw [h.1]; split; exact Or.inr rfl; exact Or.inl rfl)).post (fun r σ' h => ⟨h.1, h.2⟩), ?_⟩
    rintro σ1 ⟨x, σ0, ⟨rfl, ht9⟩, rfl⟩
    refine ⟨5, by decide, (m_isThawed l G (setO σ0 _) (show gM (setO σ0 _) = _ from (congrArg (fun z => z.1) ht9.M).trans hM) hpic hk).post ?_⟩
    rintro r σ2 ⟨rfl, mk2, lf2, nw2, kp2, rfl, hp2⟩
    exact ⟨rfl, fun _ => ⟨rfl, isI_01 _ _⟩, n, 0, mk2, lf2, nw2, kp2, (congrArg (fun z => z.1) ht9.X).trans hX, rfl, hp2.cong (fun k hk => ht9.S hk) (fun q hq => ht9.P hq) (congrArg (fun z => z.2) ht9.X)⟩
  · refine ⟨1, fun σ1 => σ1 = σ, wx_isThawed_1 l G σ v (by decide) (x_isThawed l hst9 G σ hX4 hb), ?_⟩
    rintro σ1 rfl
    refine ⟨5, by decide, (m_isThawed_b l G _ hM hpic v hb).post ?_⟩
    rintro r σ2 ⟨mk2, lf2, nw2, kp2, rfl, hp2⟩
    exact ⟨rfl, fun h => absurd h (by decide), n, 1, mk2, lf2, nw2, kp2, hX, rfl, hp2.cong (fun _ _ => rfl) (fun _ _ => rfl) rfl⟩
set_option maxRecDepth 100000 in
set_option maxHeartbeats 4000000 in
theorem prz_isKept (l : Launch) (hst9 : l.stackTraces = false) (G : Gt) (σ : St) (hR : Rel σ) (v : Int32) : PairB l G yL_isKept cL_isKept 4 [(0, 16, 19, 13)] yX4_isKept cX4_isKept 2 (some .boolean) [.int v] σ := by
  obtain ⟨n, th, mk, lf, nw, kp, hX, hM, hpic⟩ := hR
  have hX4 : gX σ = (nI n, (gX σ).2.1, (gX σ).2.2.1, (gX σ).2.2.2) := by rw [← hX]
  rcases nI_case v (n := n) (by have := hpic.1; omega) with ⟨k, hk, rfl⟩ | hb
  · refine ⟨0, fun σ1 => ∃ (x : Int32) (σ0 : St), (x = (if (gP σ k).1 = 4 then 1 else 0) ∧ Tr σ σ0) ∧ σ1 = setO σ0 x.toInt64, (w_isKept (P := fun x σ0 => x = (if (gP σ k).1 = 4 then 1 else 0) ∧ Tr σ σ0) l G σ _ (by decide) ((c_isKept l G σ hpic.ok hk hpic.1 hX4).post (fun r σ' h => ⟨h.1, by rw [h.2]; exact Tr.rf σ⟩)) (fun v σ1 h => by rw [h.1]; split; exact Or.inr rfl; exact Or.inl rfl)).post (fun r σ' h => ⟨h.1, h.2⟩), ?_⟩
    rintro σ1 ⟨x, σ0, ⟨rfl, ht9⟩, rfl⟩
    refine ⟨4, by decide, (m_isKept l G (setO σ0 _) (show gM (setO σ0 _) = _ from (congrArg (fun z => z.1) ht9.M).trans hM) hpic hk).post ?_⟩
    rintro r σ2 ⟨rfl, mk2, lf2, nw2, kp2, rfl, hp2⟩
    exact ⟨rfl, fun _ => ⟨rfl, isI_01 _ _⟩, n, 0, mk2, lf2, nw2, kp2, (congrArg (fun z => z.1) ht9.X).trans hX, rfl, hp2.cong (fun k hk => ht9.S hk) (fun q hq => ht9.P hq) (congrArg (fun z => z.2) ht9.X)⟩
  · refine ⟨1, fun σ1 => σ1 = σ, wx_isKept_1 l G σ v (by decide) (x_isKept l hst9 G σ hX4 hb), ?_⟩
    rintro σ1 rfl
    refine ⟨4, by decide, (m_isKept_b l G _ hM hpic v hb).post ?_⟩
    rintro r σ2 ⟨mk2, lf2, nw2, kp2, rfl, hp2⟩
    exact ⟨rfl, fun h => absurd h (by decide), n, 1, mk2, lf2, nw2, kp2, hX, rfl, hp2.cong (fun _ _ => rfl) (fun _ _ => rfl) rfl⟩
set_option maxRecDepth 100000 in
set_option maxHeartbeats 4000000 in
theorem prz_isExpired (l : Launch) (hst9 : l.stackTraces = false) (G : Gt) (σ : St) (hR : Rel σ) (v : Int32) : PairB l G yL_isExpired cL_isExpired 4 [(0, 16, 19, 13)] yX4_isExpired cX4_isExpired 2 (some .boolean) [.int v] σ := by
  obtain ⟨n, th, mk, lf, nw, kp, hX, hM, hpic⟩ := hR
  have hX4 : gX σ = (nI n, (gX σ).2.1, (gX σ).2.2.1, (gX σ).2.2.2) := by rw [← hX]
  rcases nI_case v (n := n) (by have := hpic.1; omega) with ⟨k, hk, rfl⟩ | hb
  · refine ⟨0, fun σ1 => ∃ (x : Int32) (σ0 : St), (x = (if (gP σ k).1 = 5 then 1 else 0) ∧ Tr σ σ0) ∧ σ1 = setO σ0 x.toInt64, (w_isExpired (P := fun x σ0 => x = (if (gP σ k).1 = 5 then 1 else 0) ∧ Tr σ σ0) l G σ _ (by decide) ((c_isExpired l G σ hpic.ok hk hpic.1 hX4).post (fun r σ' h => ⟨h.1, by rw [h.2]; exact Tr.rf σ⟩)) (fun v σ1 h => by rw [h.1]; split; exact Or.inr rfl; exact Or.inl rfl)).post (fun r σ' h => ⟨h.1, h.2⟩), ?_⟩
    rintro σ1 ⟨x, σ0, ⟨rfl, ht9⟩, rfl⟩
    refine ⟨4, by decide, (m_isExpired l G (setO σ0 _) (show gM (setO σ0 _) = _ from (congrArg (fun z => z.1) ht9.M).trans hM) hpic hk).post ?_⟩
    rintro r σ2 ⟨rfl, mk2, lf2, nw2, kp2, rfl, hp2⟩
    exact ⟨rfl, fun _ => ⟨rfl, isI_01 _ _⟩, n, 0, mk2, lf2, nw2, kp2, (congrArg (fun z => z.1) ht9.X).trans hX, rfl, hp2.cong (fun k hk => ht9.S hk) (fun q hq => ht9.P hq) (congrArg (fun z => z.2) ht9.X)⟩
  · refine ⟨1, fun σ1 => σ1 = σ, wx_isExpired_1 l G σ v (by decide) (x_isExpired l hst9 G σ hX4 hb), ?_⟩
    rintro σ1 rfl
    refine ⟨4, by decide, (m_isExpired_b l G _ hM hpic v hb).post ?_⟩
    rintro r σ2 ⟨mk2, lf2, nw2, kp2, rfl, hp2⟩
    exact ⟨rfl, fun h => absurd h (by decide), n, 1, mk2, lf2, nw2, kp2, hX, rfl, hp2.cong (fun _ _ => rfl) (fun _ _ => rfl) rfl⟩
section LCZ
variable {p : Program} {l : Launch} {e : Env} {R : Room} {s : State} {m : MethodId} {args : Array Value} {below : List Frame} {meth : Method} {c : Code} {H : Heap} {locs : List Loc} {cells slots : Nat} {Q : State → Prop}
variable {ls : Array Slot} {G : Gt} {σ : St} {b L j : Nat} {xs : Nat → Int32}
set_option maxRecDepth 100000 in
set_option maxHeartbeats 4000000 in
theorem lc_isFrozen (hst9 : l.stackTraces = false) (S : CallFix p m c cL_law 9 s args AL RL) (hI : Iv G σ s H locs) (hl : lv_has ls 9 [(0, .ref b), (1, .ref (gB G 0)), (2, .ref (gB G 3)), (3, .ref (gB G 8)), (4, .int (nI j))]) (hXs : va_X b L xs s s.heap) (hbl : b < s.heap.size) (hbA : ¬ gA G b) (hj9 : j + 3 < L) (hL9 : L ≤ 2048) (hR9 : Rel σ) (hF9 : 12 ≤ R.frames ∧ 440 ≤ R.locals) (hC9 : cells + 1 ≤ R.cells) (hS9 : slots + 6 ≤ R.slots) (kont : Kont p l e R s m args below meth c (cells + 1) (slots + 6) Q G b j) : W p l e R s m args below meth c H locs cells slots Q (F0 m 1042 ls []) := by
  obtain ⟨k9, P9, hL1, hM1⟩ := prz_isFrozen l hst9 G σ hR9 (xs (j + 1))
  refine lv_aload_n S.1 S.2.1 dL_law_1042 rfl (lv_at hl 1 rfl) ?_
  refine lv_aload_n S.1 S.2.1 dL_law_1043 rfl (lv_at hl 0 rfl) ?_
  refine lv_iload S.1 S.2.1 dL_law_1044 (lv_at hl 4 rfl) ?_
  refine lv_iconst (v := 1) S.1 S.2.1 dL_law_1046 (by decide) ?_
  refine lv_iadd S.1 S.2.1 dL_law_1047 ?_
  rw [show ((nI j) + 1) = (nI (j + 1)) from nI_1 j]
  refine sc_at S hI hXs hbl hbA (j := (j + 1)) (by omega) hL9 dL_law_1048 ?_
  refine lv_aload_n S.1 S.2.1 dL_law_1049 rfl (lv_at hl 3 rfl) ?_
  refine cl_i hI (rnL (As := [.ref (gB G 0), .int (xs (j + 1)), .ref (gB G 8)]) (rest := []) S hI hL1 (cwl_isFrozen S.2.2.2.2 ⟨by omega, by omega⟩) rfl hl.1 (Nat.le_of_ble_eq_true rfl) dL_law_1050 ⟨by omega, by omega⟩) (fun r1 σ1 H locs hq1 hI => ?_)
  obtain ⟨hk1, hp1⟩ := hq1
  rw [hk1]
  obtain ⟨d9, hd9, hC4⟩ := hM1 σ1 hp1
  refine lv_istore (lv' := [(5, .int k9), (0, .ref b), (1, .ref (gB G 0)), (2, .ref (gB G 3)), (3, .ref (gB G 8)), (4, .int (nI j))]) S.1 S.2.1 dL_law_1053 hl (by decide) rfl (fun ls hl => ?_)
  refine lv_aload_n S.1 S.2.1 dL_law_1055 rfl (lv_at hl 3 rfl) ?_
  refine lv_aload_n S.1 S.2.1 dL_law_1056 rfl (lv_at hl 1 rfl) ?_
  refine lv_iload S.1 S.2.1 dL_law_1057 (lv_at hl 5 rfl) ?_
  refine lv_iconst (v := 1) S.1 S.2.1 dL_law_1059 (by decide) ?_
  refine lv_iadd S.1 S.2.1 dL_law_1060 ?_
  rw [show ((nI j) + 1) = (nI (j + 1)) from nI_1 j]
  refine sc_at S hI hXs hbl hbA (j := (j + 1)) (by omega) hL9 dL_law_1061 ?_
  refine cl_i hI (rnV (As := [.int (xs (j + 1))]) (rest := []) S hI hC4 (cw_L_X4_isFrozen S.2.2.2.2 ⟨by omega, by omega⟩) (rcM hI) rfl hl.1 (Nat.le_of_ble_eq_true rfl) dL_law_1062 ⟨by omega, by omega⟩) (fun r2 σ2 H locs hq2 hI => ?_)
  obtain ⟨ht2, ho2, hR2⟩ := hq2
  refine lv_istore (lv' := [(6, .int r2), (5, .int k9), (0, .ref b), (1, .ref (gB G 0)), (2, .ref (gB G 3)), (3, .ref (gB G 8)), (4, .int (nI j))]) S.1 S.2.1 dL_law_1065 hl (by decide) rfl (fun ls hl => ?_)
  refine lv_aload_n S.1 S.2.1 dL_law_1067 rfl (lv_at hl 4 rfl) ?_
  refine cl_i hI (rnV (As := []) (rest := []) S hI (c_thrown l G σ2 (th := (gM σ2).1) (np := (gM σ2).2.1) (mk := (gM σ2).2.2.1) (lf := (gM σ2).2.2.2.1) (nw := (gM σ2).2.2.2.2.1) (kp := (gM σ2).2.2.2.2.2) rfl) (cw_L_X4_thrown S.2.2.2.2 ⟨by omega, by omega⟩) (rcM hI) rfl hl.1 (Nat.le_of_ble_eq_true rfl) dL_law_1068 ⟨by omega, by omega⟩) (fun r3 σ3 H locs hq3 hI => ?_)
  obtain ⟨hr3, hs3⟩ := hq3
  rw [hs3] at hI
  rw [hr3, ht2]
  refine lv_iload S.1 S.2.1 dL_law_1071 (lv_at hl 1 rfl) ?_
  refine lv_icmp_eq (tgt := 1078) S.1 S.2.1 dL_law_1073 (by decide) (fun cz_1073 => ?_) (fun c9 => absurd rfl c9)
  refine lv_iload S.1 S.2.1 dL_law_1078 (lv_at hl 1 rfl) ?_
  refine lv_if_ne (tgt := 1102) S.1 S.2.1 dL_law_1080 (by decide) (fun cz_1080 => ?_) (fun cz_1080 => ?_)
  · refine lv_goto (tgt := 1724) S.1 S.2.1 dL_law_1102 (by decide) ?_
    exact kont _ _ _ _ hR2 hI (lv_sub hl [2, 3, 4, 5, 6] rfl)
  · refine lv_aload_n S.1 S.2.1 dL_law_1083 rfl (lv_at hl 5 rfl) ?_
    refine lv_iconst (v := 0) S.1 S.2.1 dL_law_1084 (by decide) ?_
    refine a_out S hI dL_law_1085 ?_
    refine lv_iload S.1 S.2.1 dL_law_1086 (lv_at hl 0 rfl) ?_
    refine lv_if_eq (tgt := 1095) S.1 S.2.1 dL_law_1088 (by decide) (fun cz_1088 => ?_) (fun cz_1088 => ?_)
    · refine lv_lconst (v := 0) S.1 S.2.1 dL_law_1095 rfl ?_
      rw [show σ2.2.2 0 = 0 from by rw [(ho2 cz_1080).1, cz_1088]; rfl]
      refine lw_lcmp S.1 S.2.1 dL_law_1096 ?_
      refine lv_if_eq (tgt := 1102) S.1 S.2.1 dL_law_1097 (by decide) (fun _ => ?_) (fun c9 => absurd c9 (by decide))
      refine lv_goto (tgt := 1724) S.1 S.2.1 dL_law_1102 (by decide) ?_
      exact kont _ _ _ _ hR2 hI (lv_sub hl [2, 3, 4, 5, 6] rfl)
    · refine lv_lconst (v := 1) S.1 S.2.1 dL_law_1091 rfl ?_
      refine lv_goto (tgt := 1096) S.1 S.2.1 dL_law_1092 (by decide) ?_
      rw [show σ2.2.2 0 = 1 from by rw [(ho2 cz_1080).1, (ho2 cz_1080).2.resolve_left cz_1088]; rfl]
      refine lw_lcmp S.1 S.2.1 dL_law_1096 ?_
      refine lv_if_eq (tgt := 1102) S.1 S.2.1 dL_law_1097 (by decide) (fun _ => ?_) (fun c9 => absurd c9 (by decide))
      refine lv_goto (tgt := 1724) S.1 S.2.1 dL_law_1102 (by decide) ?_
      exact kont _ _ _ _ hR2 hI (lv_sub hl [2, 3, 4, 5, 6] rfl)
set_option maxRecDepth 100000 in
set_option maxHeartbeats 4000000 in
theorem lc_isThawed (hst9 : l.stackTraces = false) (S : CallFix p m c cL_law 9 s args AL RL) (hI : Iv G σ s H locs) (hl : lv_has ls 9 [(0, .ref b), (1, .ref (gB G 0)), (2, .ref (gB G 3)), (3, .ref (gB G 8)), (4, .int (nI j))]) (hXs : va_X b L xs s s.heap) (hbl : b < s.heap.size) (hbA : ¬ gA G b) (hj9 : j + 3 < L) (hL9 : L ≤ 2048) (hR9 : Rel σ) (hF9 : 12 ≤ R.frames ∧ 440 ≤ R.locals) (hC9 : cells + 1 ≤ R.cells) (hS9 : slots + 6 ≤ R.slots) (kont : Kont p l e R s m args below meth c (cells + 1) (slots + 6) Q G b j) : W p l e R s m args below meth c H locs cells slots Q (F0 m 1105 ls []) := by
  obtain ⟨k9, P9, hL1, hM1⟩ := prz_isThawed l hst9 G σ hR9 (xs (j + 1))
  refine lv_aload_n S.1 S.2.1 dL_law_1105 rfl (lv_at hl 1 rfl) ?_
  refine lv_aload_n S.1 S.2.1 dL_law_1106 rfl (lv_at hl 0 rfl) ?_
  refine lv_iload S.1 S.2.1 dL_law_1107 (lv_at hl 4 rfl) ?_
  refine lv_iconst (v := 1) S.1 S.2.1 dL_law_1109 (by decide) ?_
  refine lv_iadd S.1 S.2.1 dL_law_1110 ?_
  rw [show ((nI j) + 1) = (nI (j + 1)) from nI_1 j]
  refine sc_at S hI hXs hbl hbA (j := (j + 1)) (by omega) hL9 dL_law_1111 ?_
  refine lv_aload_n S.1 S.2.1 dL_law_1112 rfl (lv_at hl 3 rfl) ?_
  refine cl_i hI (rnL (As := [.ref (gB G 0), .int (xs (j + 1)), .ref (gB G 8)]) (rest := []) S hI hL1 (cwl_isThawed S.2.2.2.2 ⟨by omega, by omega⟩) rfl hl.1 (Nat.le_of_ble_eq_true rfl) dL_law_1113 ⟨by omega, by omega⟩) (fun r1 σ1 H locs hq1 hI => ?_)
  obtain ⟨hk1, hp1⟩ := hq1
  rw [hk1]
  obtain ⟨d9, hd9, hC4⟩ := hM1 σ1 hp1
  refine lv_istore (lv' := [(5, .int k9), (0, .ref b), (1, .ref (gB G 0)), (2, .ref (gB G 3)), (3, .ref (gB G 8)), (4, .int (nI j))]) S.1 S.2.1 dL_law_1116 hl (by decide) rfl (fun ls hl => ?_)
  refine lv_aload_n S.1 S.2.1 dL_law_1118 rfl (lv_at hl 3 rfl) ?_
  refine lv_aload_n S.1 S.2.1 dL_law_1119 rfl (lv_at hl 1 rfl) ?_
  refine lv_iload S.1 S.2.1 dL_law_1120 (lv_at hl 5 rfl) ?_
  refine lv_iconst (v := 1) S.1 S.2.1 dL_law_1122 (by decide) ?_
  refine lv_iadd S.1 S.2.1 dL_law_1123 ?_
  rw [show ((nI j) + 1) = (nI (j + 1)) from nI_1 j]
  refine sc_at S hI hXs hbl hbA (j := (j + 1)) (by omega) hL9 dL_law_1124 ?_
  refine cl_i hI (rnV (As := [.int (xs (j + 1))]) (rest := []) S hI hC4 (cw_L_X4_isThawed S.2.2.2.2 ⟨by omega, by omega⟩) (rcM hI) rfl hl.1 (Nat.le_of_ble_eq_true rfl) dL_law_1125 ⟨by omega, by omega⟩) (fun r2 σ2 H locs hq2 hI => ?_)
  obtain ⟨ht2, ho2, hR2⟩ := hq2
  refine lv_istore (lv' := [(6, .int r2), (5, .int k9), (0, .ref b), (1, .ref (gB G 0)), (2, .ref (gB G 3)), (3, .ref (gB G 8)), (4, .int (nI j))]) S.1 S.2.1 dL_law_1128 hl (by decide) rfl (fun ls hl => ?_)
  refine lv_aload_n S.1 S.2.1 dL_law_1130 rfl (lv_at hl 4 rfl) ?_
  refine cl_i hI (rnV (As := []) (rest := []) S hI (c_thrown l G σ2 (th := (gM σ2).1) (np := (gM σ2).2.1) (mk := (gM σ2).2.2.1) (lf := (gM σ2).2.2.2.1) (nw := (gM σ2).2.2.2.2.1) (kp := (gM σ2).2.2.2.2.2) rfl) (cw_L_X4_thrown S.2.2.2.2 ⟨by omega, by omega⟩) (rcM hI) rfl hl.1 (Nat.le_of_ble_eq_true rfl) dL_law_1131 ⟨by omega, by omega⟩) (fun r3 σ3 H locs hq3 hI => ?_)
  obtain ⟨hr3, hs3⟩ := hq3
  rw [hs3] at hI
  rw [hr3, ht2]
  refine lv_iload S.1 S.2.1 dL_law_1134 (lv_at hl 1 rfl) ?_
  refine lv_icmp_eq (tgt := 1141) S.1 S.2.1 dL_law_1136 (by decide) (fun cz_1136 => ?_) (fun c9 => absurd rfl c9)
  refine lv_iload S.1 S.2.1 dL_law_1141 (lv_at hl 1 rfl) ?_
  refine lv_if_ne (tgt := 1165) S.1 S.2.1 dL_law_1143 (by decide) (fun cz_1143 => ?_) (fun cz_1143 => ?_)
  · refine lv_goto (tgt := 1724) S.1 S.2.1 dL_law_1165 (by decide) ?_
    exact kont _ _ _ _ hR2 hI (lv_sub hl [2, 3, 4, 5, 6] rfl)
  · refine lv_aload_n S.1 S.2.1 dL_law_1146 rfl (lv_at hl 5 rfl) ?_
    refine lv_iconst (v := 0) S.1 S.2.1 dL_law_1147 (by decide) ?_
    refine a_out S hI dL_law_1148 ?_
    refine lv_iload S.1 S.2.1 dL_law_1149 (lv_at hl 0 rfl) ?_
    refine lv_if_eq (tgt := 1158) S.1 S.2.1 dL_law_1151 (by decide) (fun cz_1151 => ?_) (fun cz_1151 => ?_)
    · refine lv_lconst (v := 0) S.1 S.2.1 dL_law_1158 rfl ?_
      rw [show σ2.2.2 0 = 0 from by rw [(ho2 cz_1143).1, cz_1151]; rfl]
      refine lw_lcmp S.1 S.2.1 dL_law_1159 ?_
      refine lv_if_eq (tgt := 1165) S.1 S.2.1 dL_law_1160 (by decide) (fun _ => ?_) (fun c9 => absurd c9 (by decide))
      refine lv_goto (tgt := 1724) S.1 S.2.1 dL_law_1165 (by decide) ?_
      exact kont _ _ _ _ hR2 hI (lv_sub hl [2, 3, 4, 5, 6] rfl)
    · refine lv_lconst (v := 1) S.1 S.2.1 dL_law_1154 rfl ?_
      refine lv_goto (tgt := 1159) S.1 S.2.1 dL_law_1155 (by decide) ?_
      rw [show σ2.2.2 0 = 1 from by rw [(ho2 cz_1143).1, (ho2 cz_1143).2.resolve_left cz_1151]; rfl]
      refine lw_lcmp S.1 S.2.1 dL_law_1159 ?_
      refine lv_if_eq (tgt := 1165) S.1 S.2.1 dL_law_1160 (by decide) (fun _ => ?_) (fun c9 => absurd c9 (by decide))
      refine lv_goto (tgt := 1724) S.1 S.2.1 dL_law_1165 (by decide) ?_
      exact kont _ _ _ _ hR2 hI (lv_sub hl [2, 3, 4, 5, 6] rfl)
set_option maxRecDepth 100000 in
set_option maxHeartbeats 4000000 in
theorem lc_isKept (hst9 : l.stackTraces = false) (S : CallFix p m c cL_law 9 s args AL RL) (hI : Iv G σ s H locs) (hl : lv_has ls 9 [(0, .ref b), (1, .ref (gB G 0)), (2, .ref (gB G 3)), (3, .ref (gB G 8)), (4, .int (nI j))]) (hXs : va_X b L xs s s.heap) (hbl : b < s.heap.size) (hbA : ¬ gA G b) (hj9 : j + 3 < L) (hL9 : L ≤ 2048) (hR9 : Rel σ) (hF9 : 12 ≤ R.frames ∧ 440 ≤ R.locals) (hC9 : cells + 1 ≤ R.cells) (hS9 : slots + 6 ≤ R.slots) (kont : Kont p l e R s m args below meth c (cells + 1) (slots + 6) Q G b j) : W p l e R s m args below meth c H locs cells slots Q (F0 m 1168 ls []) := by
  obtain ⟨k9, P9, hL1, hM1⟩ := prz_isKept l hst9 G σ hR9 (xs (j + 1))
  refine lv_aload_n S.1 S.2.1 dL_law_1168 rfl (lv_at hl 1 rfl) ?_
  refine lv_aload_n S.1 S.2.1 dL_law_1169 rfl (lv_at hl 0 rfl) ?_
  refine lv_iload S.1 S.2.1 dL_law_1170 (lv_at hl 4 rfl) ?_
  refine lv_iconst (v := 1) S.1 S.2.1 dL_law_1172 (by decide) ?_
  refine lv_iadd S.1 S.2.1 dL_law_1173 ?_
  rw [show ((nI j) + 1) = (nI (j + 1)) from nI_1 j]
  refine sc_at S hI hXs hbl hbA (j := (j + 1)) (by omega) hL9 dL_law_1174 ?_
  refine lv_aload_n S.1 S.2.1 dL_law_1175 rfl (lv_at hl 3 rfl) ?_
  refine cl_i hI (rnL (As := [.ref (gB G 0), .int (xs (j + 1)), .ref (gB G 8)]) (rest := []) S hI hL1 (cwl_isKept S.2.2.2.2 ⟨by omega, by omega⟩) rfl hl.1 (Nat.le_of_ble_eq_true rfl) dL_law_1176 ⟨by omega, by omega⟩) (fun r1 σ1 H locs hq1 hI => ?_)
  obtain ⟨hk1, hp1⟩ := hq1
  rw [hk1]
  obtain ⟨d9, hd9, hC4⟩ := hM1 σ1 hp1
  refine lv_istore (lv' := [(5, .int k9), (0, .ref b), (1, .ref (gB G 0)), (2, .ref (gB G 3)), (3, .ref (gB G 8)), (4, .int (nI j))]) S.1 S.2.1 dL_law_1179 hl (by decide) rfl (fun ls hl => ?_)
  refine lv_aload_n S.1 S.2.1 dL_law_1181 rfl (lv_at hl 3 rfl) ?_
  refine lv_aload_n S.1 S.2.1 dL_law_1182 rfl (lv_at hl 1 rfl) ?_
  refine lv_iload S.1 S.2.1 dL_law_1183 (lv_at hl 5 rfl) ?_
  refine lv_iconst (v := 1) S.1 S.2.1 dL_law_1185 (by decide) ?_
  refine lv_iadd S.1 S.2.1 dL_law_1186 ?_
  rw [show ((nI j) + 1) = (nI (j + 1)) from nI_1 j]
  refine sc_at S hI hXs hbl hbA (j := (j + 1)) (by omega) hL9 dL_law_1187 ?_
  refine cl_i hI (rnV (As := [.int (xs (j + 1))]) (rest := []) S hI hC4 (cw_L_X4_isKept S.2.2.2.2 ⟨by omega, by omega⟩) (rcM hI) rfl hl.1 (Nat.le_of_ble_eq_true rfl) dL_law_1188 ⟨by omega, by omega⟩) (fun r2 σ2 H locs hq2 hI => ?_)
  obtain ⟨ht2, ho2, hR2⟩ := hq2
  refine lv_istore (lv' := [(6, .int r2), (5, .int k9), (0, .ref b), (1, .ref (gB G 0)), (2, .ref (gB G 3)), (3, .ref (gB G 8)), (4, .int (nI j))]) S.1 S.2.1 dL_law_1191 hl (by decide) rfl (fun ls hl => ?_)
  refine lv_aload_n S.1 S.2.1 dL_law_1193 rfl (lv_at hl 4 rfl) ?_
  refine cl_i hI (rnV (As := []) (rest := []) S hI (c_thrown l G σ2 (th := (gM σ2).1) (np := (gM σ2).2.1) (mk := (gM σ2).2.2.1) (lf := (gM σ2).2.2.2.1) (nw := (gM σ2).2.2.2.2.1) (kp := (gM σ2).2.2.2.2.2) rfl) (cw_L_X4_thrown S.2.2.2.2 ⟨by omega, by omega⟩) (rcM hI) rfl hl.1 (Nat.le_of_ble_eq_true rfl) dL_law_1194 ⟨by omega, by omega⟩) (fun r3 σ3 H locs hq3 hI => ?_)
  obtain ⟨hr3, hs3⟩ := hq3
  rw [hs3] at hI
  rw [hr3, ht2]
  refine lv_iload S.1 S.2.1 dL_law_1197 (lv_at hl 1 rfl) ?_
  refine lv_icmp_eq (tgt := 1204) S.1 S.2.1 dL_law_1199 (by decide) (fun cz_1199 => ?_) (fun c9 => absurd rfl c9)
  refine lv_iload S.1 S.2.1 dL_law_1204 (lv_at hl 1 rfl) ?_
  refine lv_if_ne (tgt := 1228) S.1 S.2.1 dL_law_1206 (by decide) (fun cz_1206 => ?_) (fun cz_1206 => ?_)
  · refine lv_goto (tgt := 1724) S.1 S.2.1 dL_law_1228 (by decide) ?_
    exact kont _ _ _ _ hR2 hI (lv_sub hl [2, 3, 4, 5, 6] rfl)
  · refine lv_aload_n S.1 S.2.1 dL_law_1209 rfl (lv_at hl 5 rfl) ?_
    refine lv_iconst (v := 0) S.1 S.2.1 dL_law_1210 (by decide) ?_
    refine a_out S hI dL_law_1211 ?_
    refine lv_iload S.1 S.2.1 dL_law_1212 (lv_at hl 0 rfl) ?_
    refine lv_if_eq (tgt := 1221) S.1 S.2.1 dL_law_1214 (by decide) (fun cz_1214 => ?_) (fun cz_1214 => ?_)
    · refine lv_lconst (v := 0) S.1 S.2.1 dL_law_1221 rfl ?_
      rw [show σ2.2.2 0 = 0 from by rw [(ho2 cz_1206).1, cz_1214]; rfl]
      refine lw_lcmp S.1 S.2.1 dL_law_1222 ?_
      refine lv_if_eq (tgt := 1228) S.1 S.2.1 dL_law_1223 (by decide) (fun _ => ?_) (fun c9 => absurd c9 (by decide))
      refine lv_goto (tgt := 1724) S.1 S.2.1 dL_law_1228 (by decide) ?_
      exact kont _ _ _ _ hR2 hI (lv_sub hl [2, 3, 4, 5, 6] rfl)
    · refine lv_lconst (v := 1) S.1 S.2.1 dL_law_1217 rfl ?_
      refine lv_goto (tgt := 1222) S.1 S.2.1 dL_law_1218 (by decide) ?_
      rw [show σ2.2.2 0 = 1 from by rw [(ho2 cz_1206).1, (ho2 cz_1206).2.resolve_left cz_1214]; rfl]
      refine lw_lcmp S.1 S.2.1 dL_law_1222 ?_
      refine lv_if_eq (tgt := 1228) S.1 S.2.1 dL_law_1223 (by decide) (fun _ => ?_) (fun c9 => absurd c9 (by decide))
      refine lv_goto (tgt := 1724) S.1 S.2.1 dL_law_1228 (by decide) ?_
      exact kont _ _ _ _ hR2 hI (lv_sub hl [2, 3, 4, 5, 6] rfl)
set_option maxRecDepth 100000 in
set_option maxHeartbeats 4000000 in
theorem lc_isExpired (hst9 : l.stackTraces = false) (S : CallFix p m c cL_law 9 s args AL RL) (hI : Iv G σ s H locs) (hl : lv_has ls 9 [(0, .ref b), (1, .ref (gB G 0)), (2, .ref (gB G 3)), (3, .ref (gB G 8)), (4, .int (nI j))]) (hXs : va_X b L xs s s.heap) (hbl : b < s.heap.size) (hbA : ¬ gA G b) (hj9 : j + 3 < L) (hL9 : L ≤ 2048) (hR9 : Rel σ) (hF9 : 12 ≤ R.frames ∧ 440 ≤ R.locals) (hC9 : cells + 1 ≤ R.cells) (hS9 : slots + 6 ≤ R.slots) (kont : Kont p l e R s m args below meth c (cells + 1) (slots + 6) Q G b j) : W p l e R s m args below meth c H locs cells slots Q (F0 m 1231 ls []) := by
  obtain ⟨k9, P9, hL1, hM1⟩ := prz_isExpired l hst9 G σ hR9 (xs (j + 1))
  refine lv_aload_n S.1 S.2.1 dL_law_1231 rfl (lv_at hl 1 rfl) ?_
  refine lv_aload_n S.1 S.2.1 dL_law_1232 rfl (lv_at hl 0 rfl) ?_
  refine lv_iload S.1 S.2.1 dL_law_1233 (lv_at hl 4 rfl) ?_
  refine lv_iconst (v := 1) S.1 S.2.1 dL_law_1235 (by decide) ?_
  refine lv_iadd S.1 S.2.1 dL_law_1236 ?_
  rw [show ((nI j) + 1) = (nI (j + 1)) from nI_1 j]
  refine sc_at S hI hXs hbl hbA (j := (j + 1)) (by omega) hL9 dL_law_1237 ?_
  refine lv_aload_n S.1 S.2.1 dL_law_1238 rfl (lv_at hl 3 rfl) ?_
  refine cl_i hI (rnL (As := [.ref (gB G 0), .int (xs (j + 1)), .ref (gB G 8)]) (rest := []) S hI hL1 (cwl_isExpired S.2.2.2.2 ⟨by omega, by omega⟩) rfl hl.1 (Nat.le_of_ble_eq_true rfl) dL_law_1239 ⟨by omega, by omega⟩) (fun r1 σ1 H locs hq1 hI => ?_)
  obtain ⟨hk1, hp1⟩ := hq1
  rw [hk1]
  obtain ⟨d9, hd9, hC4⟩ := hM1 σ1 hp1
  refine lv_istore (lv' := [(5, .int k9), (0, .ref b), (1, .ref (gB G 0)), (2, .ref (gB G 3)), (3, .ref (gB G 8)), (4, .int (nI j))]) S.1 S.2.1 dL_law_1242 hl (by decide) rfl (fun ls hl => ?_)
  refine lv_aload_n S.1 S.2.1 dL_law_1244 rfl (lv_at hl 3 rfl) ?_
  refine lv_aload_n S.1 S.2.1 dL_law_1245 rfl (lv_at hl 1 rfl) ?_
  refine lv_iload S.1 S.2.1 dL_law_1246 (lv_at hl 5 rfl) ?_
  refine lv_iconst (v := 1) S.1 S.2.1 dL_law_1248 (by decide) ?_
  refine lv_iadd S.1 S.2.1 dL_law_1249 ?_
  rw [show ((nI j) + 1) = (nI (j + 1)) from nI_1 j]
  refine sc_at S hI hXs hbl hbA (j := (j + 1)) (by omega) hL9 dL_law_1250 ?_
  refine cl_i hI (rnV (As := [.int (xs (j + 1))]) (rest := []) S hI hC4 (cw_L_X4_isExpired S.2.2.2.2 ⟨by omega, by omega⟩) (rcM hI) rfl hl.1 (Nat.le_of_ble_eq_true rfl) dL_law_1251 ⟨by omega, by omega⟩) (fun r2 σ2 H locs hq2 hI => ?_)
  obtain ⟨ht2, ho2, hR2⟩ := hq2
  refine lv_istore (lv' := [(6, .int r2), (5, .int k9), (0, .ref b), (1, .ref (gB G 0)), (2, .ref (gB G 3)), (3, .ref (gB G 8)), (4, .int (nI j))]) S.1 S.2.1 dL_law_1254 hl (by decide) rfl (fun ls hl => ?_)
  refine lv_aload_n S.1 S.2.1 dL_law_1256 rfl (lv_at hl 4 rfl) ?_
  refine cl_i hI (rnV (As := []) (rest := []) S hI (c_thrown l G σ2 (th := (gM σ2).1) (np := (gM σ2).2.1) (mk := (gM σ2).2.2.1) (lf := (gM σ2).2.2.2.1) (nw := (gM σ2).2.2.2.2.1) (kp := (gM σ2).2.2.2.2.2) rfl) (cw_L_X4_thrown S.2.2.2.2 ⟨by omega, by omega⟩) (rcM hI) rfl hl.1 (Nat.le_of_ble_eq_true rfl) dL_law_1257 ⟨by omega, by omega⟩) (fun r3 σ3 H locs hq3 hI => ?_)
  obtain ⟨hr3, hs3⟩ := hq3
  rw [hs3] at hI
  rw [hr3, ht2]
  refine lv_iload S.1 S.2.1 dL_law_1260 (lv_at hl 1 rfl) ?_
  refine lv_icmp_eq (tgt := 1267) S.1 S.2.1 dL_law_1262 (by decide) (fun cz_1262 => ?_) (fun c9 => absurd rfl c9)
  refine lv_iload S.1 S.2.1 dL_law_1267 (lv_at hl 1 rfl) ?_
  refine lv_if_ne (tgt := 1291) S.1 S.2.1 dL_law_1269 (by decide) (fun cz_1269 => ?_) (fun cz_1269 => ?_)
  · refine lv_goto (tgt := 1724) S.1 S.2.1 dL_law_1291 (by decide) ?_
    exact kont _ _ _ _ hR2 hI (lv_sub hl [2, 3, 4, 5, 6] rfl)
  · refine lv_aload_n S.1 S.2.1 dL_law_1272 rfl (lv_at hl 5 rfl) ?_
    refine lv_iconst (v := 0) S.1 S.2.1 dL_law_1273 (by decide) ?_
    refine a_out S hI dL_law_1274 ?_
    refine lv_iload S.1 S.2.1 dL_law_1275 (lv_at hl 0 rfl) ?_
    refine lv_if_eq (tgt := 1284) S.1 S.2.1 dL_law_1277 (by decide) (fun cz_1277 => ?_) (fun cz_1277 => ?_)
    · refine lv_lconst (v := 0) S.1 S.2.1 dL_law_1284 rfl ?_
      rw [show σ2.2.2 0 = 0 from by rw [(ho2 cz_1269).1, cz_1277]; rfl]
      refine lw_lcmp S.1 S.2.1 dL_law_1285 ?_
      refine lv_if_eq (tgt := 1291) S.1 S.2.1 dL_law_1286 (by decide) (fun _ => ?_) (fun c9 => absurd c9 (by decide))
      refine lv_goto (tgt := 1724) S.1 S.2.1 dL_law_1291 (by decide) ?_
      exact kont _ _ _ _ hR2 hI (lv_sub hl [2, 3, 4, 5, 6] rfl)
    · refine lv_lconst (v := 1) S.1 S.2.1 dL_law_1280 rfl ?_
      refine lv_goto (tgt := 1285) S.1 S.2.1 dL_law_1281 (by decide) ?_
      rw [show σ2.2.2 0 = 1 from by rw [(ho2 cz_1269).1, (ho2 cz_1269).2.resolve_left cz_1277]; rfl]
      refine lw_lcmp S.1 S.2.1 dL_law_1285 ?_
      refine lv_if_eq (tgt := 1291) S.1 S.2.1 dL_law_1286 (by decide) (fun _ => ?_) (fun c9 => absurd c9 (by decide))
      refine lv_goto (tgt := 1724) S.1 S.2.1 dL_law_1291 (by decide) ?_
      exact kont _ _ _ _ hR2 hI (lv_sub hl [2, 3, 4, 5, 6] rfl)
end LCZ
