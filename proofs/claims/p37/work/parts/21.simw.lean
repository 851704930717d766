/-! THE LAW'S OWN MACHINE: its object, three arrays, its rows of seven -/
/-- a row: maker, life, shelf, heat, age, frozen, gone -/
abbrev Z7 : Type := Int32 × Int32 × Int32 × Int32 × Int32 × Int32 × Int32
def fr (z : Z7) : Nat → Int32
  | 0 => z.1
  | 1 => z.2.1
  | 2 => z.2.2.1
  | 3 => z.2.2.2.1
  | 4 => z.2.2.2.2.1
  | 5 => z.2.2.2.2.2.1
  | 6 => z.2.2.2.2.2.2
  | _ => 0
/-- where it lies: object, setting, heat, all; the rows -/
abbrev Sa : Type := (Nat × Nat × Nat × Nat) × (Nat → Nat)
/-- hour, power, alarms, setting, heat, how many rows, rows -/
abbrev Sv : Type := Int32 × Int32 × Int32 × (Nat → Int32) × (Nat → Int32) × Nat × (Nat → Z7)
def fS (a : Nat → Nat) (n : Nat) : Nat → Option Nat := fun i => if i < n then some (a i) else none
theorem fS_0 (a : Nat → Nat) : (fun _ => none) = fS a 0 := by
  funext i
  exact (if_neg (by omega)).symm
theorem fS_up (a : Nat → Nat) (k q : Nat) : va_up (fS a k) k (some q) = fS (va_up a k q) (k + 1) := by
  funext i
  unfold fS
  by_cases h : i = k
  · subst h
    rw [va_up_self, if_pos (by omega), va_up_self]
  · rw [va_up_ne _ _ h, va_up_ne _ _ h]
    by_cases h2 : i < k
    · rw [if_pos h2, if_pos (by omega)]
    · rw [if_neg h2, if_neg (by omega)]
def sRows (G : Gt) (aR : Nat → Nat) (n : Nat) (row : Nat → Z7) : va_W := (List.range n).map (fun i => (aR i, .inl (gC G 4, 7, .inl (fr (row i)))))
def sw (G : Gt) (a : Sa) (v : Sv) : va_W := (a.1.1, .inr (3, [.int v.1, .int v.2.1, .int v.2.2.1, .ref a.1.2.1, .ref a.1.2.2.1, .ref a.1.2.2.2])) :: (a.1.2.1, .inl (gC G 4, 5, .inl v.2.2.2.1)) :: (a.1.2.2.1, .inl (gC G 4, 5, .inl v.2.2.2.2.1)) :: (a.1.2.2.2, .inl (gC G 5, v.2.2.2.2.2.1, .inr (.inr (.inr (.inr (fS a.2 v.2.2.2.2.2.1)))))) :: sRows G a.2 v.2.2.2.2.2.1 v.2.2.2.2.2.2
abbrev fw (G : Gt) (σ : St) (a : Sa) (v : Sv) (Y : va_W) : va_W := wl G σ ++ (sw G a v ++ Y)
section SIMW
variable {G : Gt} {σ : St} {a : Sa} {v v' : Sv} {Y : va_W} {k j i n : Nat} {x : Nat × va_E} {row : Nat → Z7} {aR : Nat → Nat}
theorem sr_len : (sRows G aR n row).length = n := by simp [sRows]
theorem sr_at (h : i < n) : (sRows G aR n row)[i]? = some (aR i, .inl (gC G 4, 7, .inl (fr (row i)))) := by simp [sRows, List.getElem?_map, List.getElem?_range h]
theorem sr_set (h : i < n) (z : Z7) : (sRows G aR n row).set i (aR i, .inl (gC G 4, 7, .inl (fr z))) = sRows G aR n (va_up row i z) := by
  apply List.ext_getElem?
  intro t
  by_cases ht : t < n
  · by_cases e : t = i
    · subst e
      rw [List.getElem?_set_self (by rw [sr_len]; exact h), sr_at h, va_up_self]
    · rw [List.getElem?_set_ne (Ne.symm e), sr_at ht, sr_at ht, va_up_ne _ _ e]
  · rw [List.getElem?_eq_none_iff.mpr (by rw [List.length_set, sr_len]; omega), List.getElem?_eq_none_iff.mpr (by rw [sr_len]; omega)]
theorem sr_cong {row2 : Nat → Z7} (h : ∀ i, i < n → row2 i = row i) : sRows G aR n row2 = sRows G aR n row := by
  unfold sRows
  apply List.map_congr_left
  intro i hi
  rw [h i (List.mem_range.mp hi)]
theorem sr_snoc (q : Nat) (z : Z7) : sRows G (va_up aR n q) (n + 1) (va_up row n z) = sRows G aR n row ++ [(q, .inl (gC G 4, 7, .inl (fr z)))] := by
  unfold sRows
  rw [List.range_succ, List.map_append, List.map_cons, List.map_nil, va_up_self, va_up_self]
  congr 1
  apply List.map_congr_left
  intro i hi
  have hn : i ≠ n := by have := List.mem_range.mp hi; omega
  rw [va_up_ne _ _ hn, va_up_ne _ _ hn]
theorem sw_len : (sw G a v).length = 4 + v.2.2.2.2.2.1 := by
  show (sRows G a.2 _ _).length + 1 + 1 + 1 + 1 = _
  rw [sr_len]
  omega
theorem sw_r (h : i < v.2.2.2.2.2.1) : (sw G a v)[4 + i]? = some (a.2 i, .inl (gC G 4, 7, .inl (fr (v.2.2.2.2.2.2 i)))) := by
  rw [Nat.add_comm]
  exact sr_at h
theorem fw_s (h : (sw G a v)[k]? = some x) : (fw G σ a v Y)[30 + k]? = some x := by
  rw [List.getElem?_append_right (by rw [wl_len]; omega), wl_len, Nat.add_sub_cancel_left, List.getElem?_append_left (List.getElem?_eq_some_iff.mp h).1]
  exact h
theorem fw_y (h : Y[j]? = some x) : (fw G σ a v Y)[34 + v.2.2.2.2.2.1 + j]? = some x := by
  rw [List.getElem?_append_right (by rw [wl_len]; omega), wl_len, List.getElem?_append_right (by rw [sw_len]; omega), sw_len, show 34 + v.2.2.2.2.2.1 + j - 30 - (4 + v.2.2.2.2.2.1) = j by omega]
  exact h
theorem fw_set (hk : k < (sw G a v).length) (h : (sw G a v).set k x = sw G a v') : (fw G σ a v Y).set (30 + k) x = fw G σ a v' Y := by
  rw [List.set_append, if_neg (by rw [wl_len]; omega), wl_len, Nat.add_sub_cancel_left, List.set_append, if_pos hk, h]
theorem fw_sety : (fw G σ a v Y).set (34 + v.2.2.2.2.2.1 + j) x = fw G σ a v (Y.set j x) := by
  rw [List.set_append, if_neg (by rw [wl_len]; omega), wl_len, List.set_append, if_neg (by rw [sw_len]; omega), sw_len, show 34 + v.2.2.2.2.2.1 + j - 30 - (4 + v.2.2.2.2.2.1) = j by omega]
theorem sw_setr {hh pw ar : Int32} {st ht : Nat → Int32} (hi : i < n) (z : Z7) : (sw G a (hh, pw, ar, st, ht, n, row)).set (4 + i) (a.2 i, .inl (gC G 4, 7, .inl (fr z))) = sw G a (hh, pw, ar, st, ht, n, va_up row i z) := by
  rw [Nat.add_comm]
  show _ :: _ :: _ :: _ :: (sRows G a.2 n row).set i _ = _
  rw [sr_set hi]
  rfl
theorem fw_push (x : Nat × va_E) : fw G σ a v Y ++ [x] = fw G σ a v (Y ++ [x]) := by
  show (_ ++ (_ ++ _)) ++ _ = _ ++ (_ ++ (_ ++ _))
  rw [List.append_assoc, List.append_assoc]
end SIMW
section SIMR
variable {p : Program} {l : Launch} {e : Env} {R : Room} {s : State} {m : MethodId} {args : Array Value} {below : List Frame} {meth : Method} {c : Code} {H : Heap} {locs : List Loc} {cells slots mc ms : Nat} {Q : State → Prop}
variable {cc : ByteArray} {pc nL : Nat} {ls : Array Slot} {rest : List Value} {G : Gt} {σ : St} {own : String} {a : Sa} {hh pw ar : Int32} {st ht : Nat → Int32} {n : Nat} {row : Nat → Z7} {Y : va_W}
theorem rcSim {v : Sv} (hJ : Jw G (fw G σ a v Y) s H locs) : ∃ cell : Cell, H[a.1.1]? = some cell ∧ cell.vm.isStatics = false ∧ s.vm.findClass RX4 = some cell.cls := va_recv hJ.K hJ.2.1 (ci := 3) (q0 := 30 + 0) rfl (fw_s rfl)
set_option maxRecDepth 20000 in
theorem q_L_setting (S : CallFix p m c cc nL s args AL RL) (hJ : Jw G (fw G σ a (hh, pw, ar, st, ht, n, row) Y) s H locs) (hdg : decode cc pc = .ok (.getfield 42, 3)) (kk : W p l e R s m args below meth c H locs cells slots Q (F0 m (pc + 3) ls (.ref a.1.2.1 :: rest))) : W p l e R s m args below meth c H locs cells slots Q (F0 m pc ls (.ref a.1.1 :: rest)) :=
  va_get (D := gD G) (ci := 3) (C := RX4) (T := TX4) (N := 6) S.1 S.2.1 S.2.2.2.2 alX4 S.2.2.2.1 hJ.K hJ.2.1 (30 + 0) (fw_s rfl) rfl 3 (by decide) (S.2.2.2.2 _ (al (List.mem_of_getElem? (i := 582) rfl) rfl)) (fun _ h9 => h9) rfl hdg kk
set_option maxRecDepth 20000 in
theorem q_L_hasPower (S : CallFix p m c cc nL s args AL RL) (hJ : Jw G (fw G σ a (hh, pw, ar, st, ht, n, row) Y) s H locs) (hdg : decode cc pc = .ok (.getfield 49, 3)) (kk : W p l e R s m args below meth c H locs cells slots Q (F0 m (pc + 3) ls (.int pw :: rest))) : W p l e R s m args below meth c H locs cells slots Q (F0 m pc ls (.ref a.1.1 :: rest)) :=
  va_get (D := gD G) (ci := 3) (C := RX4) (T := TX4) (N := 6) S.1 S.2.1 S.2.2.2.2 alX4 S.2.2.2.1 hJ.K hJ.2.1 (30 + 0) (fw_s rfl) rfl 1 (by decide) (S.2.2.2.2 _ (al (List.mem_of_getElem? (i := 579) rfl) rfl)) (fun _ h9 => h9) rfl hdg kk
set_option maxRecDepth 20000 in
theorem u_L_hasPower (S : CallFix p m c cc nL s args AL RL) (hJ : Jw G (fw G σ a (hh, pw, ar, st, ht, n, row) Y) s H locs) {x : Int32} (hb : x = 0 ∨ x = 1) (hdg : decode cc pc = .ok (.putfield 49, 3)) (kk : ∀ (H1 : Heap) (locs1 : List Loc), Jw G (fw G σ a (hh, x, ar, st, ht, n, row) Y) s H1 locs1 → W p l e R s m args below meth c H1 locs1 cells slots Q (F0 m (pc + 3) ls (rest))) : W p l e R s m args below meth c H locs cells slots Q (F0 m pc ls (.int x :: .ref a.1.1 :: rest)) := by
  refine va_put (D := gD G) (ci := 3) (C := RX4) (T := TX4) (N := 6) (v := .int x) S.1 S.2.1 S.2.2.2.2 alX4 tyX4 tyX4_ok nmX4 S.2.2.2.1 hJ.K hJ.2.1 hJ.2.2.1 hJ.2.2.2 (30 + 0) (fw_s rfl) rfl 1 (by decide) (S.2.2.2.2 _ (al (List.mem_of_getElem? (i := 579) rfl) rfl)) (fun _ h9 => h9) rfl rfl (by rcases hb with rfl | rfl <;> rfl) (by rcases hb with rfl | rfl <;> rfl) (Nat.le_of_ble_eq_true rfl) hdg (fun H1 locs1 hP hD hS => kk H1 locs1 ⟨hJ.1, ?_, ?_, hS⟩)
  · rw [fw_set (v' := (hh, x, ar, st, ht, n, row)) (by rw [sw_len]; omega) rfl] at hP
    exact hP
  · rw [fw_set (v' := (hh, x, ar, st, ht, n, row)) (by rw [sw_len]; omega) rfl] at hD
    exact hD
set_option maxRecDepth 20000 in
theorem q_L_all (S : CallFix p m c cc nL s args AL RL) (hJ : Jw G (fw G σ a (hh, pw, ar, st, ht, n, row) Y) s H locs) (hdg : decode cc pc = .ok (.getfield 9, 3)) (kk : W p l e R s m args below meth c H locs cells slots Q (F0 m (pc + 3) ls (.ref a.1.2.2.2 :: rest))) : W p l e R s m args below meth c H locs cells slots Q (F0 m pc ls (.ref a.1.1 :: rest)) :=
  va_get (D := gD G) (ci := 3) (C := RX4) (T := TX4) (N := 6) S.1 S.2.1 S.2.2.2.2 alX4 S.2.2.2.1 hJ.K hJ.2.1 (30 + 0) (fw_s rfl) rfl 5 (by decide) (S.2.2.2.2 _ (al (List.mem_of_getElem? (i := 585) rfl) rfl)) (fun _ h9 => h9) rfl hdg kk
set_option maxRecDepth 20000 in
theorem q_X4_setting (S : CallFix p m c cc nL s args AL RX4) (hJ : Jw G (fw G σ a (hh, pw, ar, st, ht, n, row) Y) s H locs) (hdg : decode cc pc = .ok (.getfield 13, 3)) (kk : W p l e R s m args below meth c H locs cells slots Q (F0 m (pc + 3) ls (.ref a.1.2.1 :: rest))) : W p l e R s m args below meth c H locs cells slots Q (F0 m pc ls (.ref a.1.1 :: rest)) :=
  va_get (D := gD G) (ci := 3) (C := RX4) (T := TX4) (N := 6) S.1 S.2.1 S.2.2.2.2 alX4 S.2.2.2.1 hJ.K hJ.2.1 (30 + 0) (fw_s rfl) rfl 3 (by decide) (S.2.2.2.2 _ (al (List.mem_of_getElem? (i := 581) rfl) rfl)) (fun _ h9 => h9) rfl hdg kk
set_option maxRecDepth 20000 in
theorem q_X4_heat (S : CallFix p m c cc nL s args AL RX4) (hJ : Jw G (fw G σ a (hh, pw, ar, st, ht, n, row) Y) s H locs) (hdg : decode cc pc = .ok (.getfield 17, 3)) (kk : W p l e R s m args below meth c H locs cells slots Q (F0 m (pc + 3) ls (.ref a.1.2.2.1 :: rest))) : W p l e R s m args below meth c H locs cells slots Q (F0 m pc ls (.ref a.1.1 :: rest)) :=
  va_get (D := gD G) (ci := 3) (C := RX4) (T := TX4) (N := 6) S.1 S.2.1 S.2.2.2.2 alX4 S.2.2.2.1 hJ.K hJ.2.1 (30 + 0) (fw_s rfl) rfl 4 (by decide) (S.2.2.2.2 _ (al (List.mem_of_getElem? (i := 583) rfl) rfl)) (fun _ h9 => h9) rfl hdg kk
set_option maxRecDepth 20000 in
theorem q_X4_all (S : CallFix p m c cc nL s args AL RX4) (hJ : Jw G (fw G σ a (hh, pw, ar, st, ht, n, row) Y) s H locs) (hdg : decode cc pc = .ok (.getfield 21, 3)) (kk : W p l e R s m args below meth c H locs cells slots Q (F0 m (pc + 3) ls (.ref a.1.2.2.2 :: rest))) : W p l e R s m args below meth c H locs cells slots Q (F0 m pc ls (.ref a.1.1 :: rest)) :=
  va_get (D := gD G) (ci := 3) (C := RX4) (T := TX4) (N := 6) S.1 S.2.1 S.2.2.2.2 alX4 S.2.2.2.1 hJ.K hJ.2.1 (30 + 0) (fw_s rfl) rfl 5 (by decide) (S.2.2.2.2 _ (al (List.mem_of_getElem? (i := 584) rfl) rfl)) (fun _ h9 => h9) rfl hdg kk
set_option maxRecDepth 20000 in
theorem q_X4_hour (S : CallFix p m c cc nL s args AL RX4) (hJ : Jw G (fw G σ a (hh, pw, ar, st, ht, n, row) Y) s H locs) (hdg : decode cc pc = .ok (.getfield 30, 3)) (kk : W p l e R s m args below meth c H locs cells slots Q (F0 m (pc + 3) ls (.int hh :: rest))) : W p l e R s m args below meth c H locs cells slots Q (F0 m pc ls (.ref a.1.1 :: rest)) :=
  va_get (D := gD G) (ci := 3) (C := RX4) (T := TX4) (N := 6) S.1 S.2.1 S.2.2.2.2 alX4 S.2.2.2.1 hJ.K hJ.2.1 (30 + 0) (fw_s rfl) rfl 0 (by decide) (S.2.2.2.2 _ (al (List.mem_of_getElem? (i := 577) rfl) rfl)) (fun _ h9 => h9) rfl hdg kk
set_option maxRecDepth 20000 in
theorem u_X4_hour (S : CallFix p m c cc nL s args AL RX4) (hJ : Jw G (fw G σ a (hh, pw, ar, st, ht, n, row) Y) s H locs) {x : Int32} (hdg : decode cc pc = .ok (.putfield 30, 3)) (kk : ∀ (H1 : Heap) (locs1 : List Loc), Jw G (fw G σ a (x, pw, ar, st, ht, n, row) Y) s H1 locs1 → W p l e R s m args below meth c H1 locs1 cells slots Q (F0 m (pc + 3) ls (rest))) : W p l e R s m args below meth c H locs cells slots Q (F0 m pc ls (.int x :: .ref a.1.1 :: rest)) := by
  refine va_put (D := gD G) (ci := 3) (C := RX4) (T := TX4) (N := 6) (v := .int x) S.1 S.2.1 S.2.2.2.2 alX4 tyX4 tyX4_ok nmX4 S.2.2.2.1 hJ.K hJ.2.1 hJ.2.2.1 hJ.2.2.2 (30 + 0) (fw_s rfl) rfl 0 (by decide) (S.2.2.2.2 _ (al (List.mem_of_getElem? (i := 577) rfl) rfl)) (fun _ h9 => h9) rfl rfl rfl rfl (Nat.le_of_ble_eq_true rfl) hdg (fun H1 locs1 hP hD hS => kk H1 locs1 ⟨hJ.1, ?_, ?_, hS⟩)
  · rw [fw_set (v' := (x, pw, ar, st, ht, n, row)) (by rw [sw_len]; omega) rfl] at hP
    exact hP
  · rw [fw_set (v' := (x, pw, ar, st, ht, n, row)) (by rw [sw_len]; omega) rfl] at hD
    exact hD
set_option maxRecDepth 20000 in
theorem q_X4_alarms (S : CallFix p m c cc nL s args AL RX4) (hJ : Jw G (fw G σ a (hh, pw, ar, st, ht, n, row) Y) s H locs) (hdg : decode cc pc = .ok (.getfield 34, 3)) (kk : W p l e R s m args below meth c H locs cells slots Q (F0 m (pc + 3) ls (.int ar :: rest))) : W p l e R s m args below meth c H locs cells slots Q (F0 m pc ls (.ref a.1.1 :: rest)) :=
  va_get (D := gD G) (ci := 3) (C := RX4) (T := TX4) (N := 6) S.1 S.2.1 S.2.2.2.2 alX4 S.2.2.2.1 hJ.K hJ.2.1 (30 + 0) (fw_s rfl) rfl 2 (by decide) (S.2.2.2.2 _ (al (List.mem_of_getElem? (i := 580) rfl) rfl)) (fun _ h9 => h9) rfl hdg kk
set_option maxRecDepth 20000 in
theorem u_X4_alarms (S : CallFix p m c cc nL s args AL RX4) (hJ : Jw G (fw G σ a (hh, pw, ar, st, ht, n, row) Y) s H locs) {x : Int32} (hdg : decode cc pc = .ok (.putfield 34, 3)) (kk : ∀ (H1 : Heap) (locs1 : List Loc), Jw G (fw G σ a (hh, pw, x, st, ht, n, row) Y) s H1 locs1 → W p l e R s m args below meth c H1 locs1 cells slots Q (F0 m (pc + 3) ls (rest))) : W p l e R s m args below meth c H locs cells slots Q (F0 m pc ls (.int x :: .ref a.1.1 :: rest)) := by
  refine va_put (D := gD G) (ci := 3) (C := RX4) (T := TX4) (N := 6) (v := .int x) S.1 S.2.1 S.2.2.2.2 alX4 tyX4 tyX4_ok nmX4 S.2.2.2.1 hJ.K hJ.2.1 hJ.2.2.1 hJ.2.2.2 (30 + 0) (fw_s rfl) rfl 2 (by decide) (S.2.2.2.2 _ (al (List.mem_of_getElem? (i := 580) rfl) rfl)) (fun _ h9 => h9) rfl rfl rfl rfl (Nat.le_of_ble_eq_true rfl) hdg (fun H1 locs1 hP hD hS => kk H1 locs1 ⟨hJ.1, ?_, ?_, hS⟩)
  · rw [fw_set (v' := (hh, pw, x, st, ht, n, row)) (by rw [sw_len]; omega) rfl] at hP
    exact hP
  · rw [fw_set (v' := (hh, pw, x, st, ht, n, row)) (by rw [sw_len]; omega) rfl] at hD
    exact hD
set_option maxRecDepth 20000 in
theorem q_X4_hasPower (S : CallFix p m c cc nL s args AL RX4) (hJ : Jw G (fw G σ a (hh, pw, ar, st, ht, n, row) Y) s H locs) (hdg : decode cc pc = .ok (.getfield 7, 3)) (kk : W p l e R s m args below meth c H locs cells slots Q (F0 m (pc + 3) ls (.int pw :: rest))) : W p l e R s m args below meth c H locs cells slots Q (F0 m pc ls (.ref a.1.1 :: rest)) :=
  va_get (D := gD G) (ci := 3) (C := RX4) (T := TX4) (N := 6) S.1 S.2.1 S.2.2.2.2 alX4 S.2.2.2.1 hJ.K hJ.2.1 (30 + 0) (fw_s rfl) rfl 1 (by decide) (S.2.2.2.2 _ (al (List.mem_of_getElem? (i := 578) rfl) rfl)) (fun _ h9 => h9) rfl hdg kk
set_option maxRecDepth 20000 in
theorem u_X4_hasPower (S : CallFix p m c cc nL s args AL RX4) (hJ : Jw G (fw G σ a (hh, pw, ar, st, ht, n, row) Y) s H locs) {x : Int32} (hb : x = 0 ∨ x = 1) (hdg : decode cc pc = .ok (.putfield 7, 3)) (kk : ∀ (H1 : Heap) (locs1 : List Loc), Jw G (fw G σ a (hh, x, ar, st, ht, n, row) Y) s H1 locs1 → W p l e R s m args below meth c H1 locs1 cells slots Q (F0 m (pc + 3) ls (rest))) : W p l e R s m args below meth c H locs cells slots Q (F0 m pc ls (.int x :: .ref a.1.1 :: rest)) := by
  refine va_put (D := gD G) (ci := 3) (C := RX4) (T := TX4) (N := 6) (v := .int x) S.1 S.2.1 S.2.2.2.2 alX4 tyX4 tyX4_ok nmX4 S.2.2.2.1 hJ.K hJ.2.1 hJ.2.2.1 hJ.2.2.2 (30 + 0) (fw_s rfl) rfl 1 (by decide) (S.2.2.2.2 _ (al (List.mem_of_getElem? (i := 578) rfl) rfl)) (fun _ h9 => h9) rfl rfl (by rcases hb with rfl | rfl <;> rfl) (by rcases hb with rfl | rfl <;> rfl) (Nat.le_of_ble_eq_true rfl) hdg (fun H1 locs1 hP hD hS => kk H1 locs1 ⟨hJ.1, ?_, ?_, hS⟩)
  · rw [fw_set (v' := (hh, x, ar, st, ht, n, row)) (by rw [sw_len]; omega) rfl] at hP
    exact hP
  · rw [fw_set (v' := (hh, x, ar, st, ht, n, row)) (by rw [sw_len]; omega) rfl] at hD
    exact hD
theorem i_st (S : CallFix p m c cc nL s args AL own) (hJ : Jw G (fw G σ a (hh, pw, ar, st, ht, n, row) Y) s H locs) {j : Nat} (hj : j < 5) (hdg : decode cc pc = .ok (.iaload, 1)) (kk : W p l e R s m args below meth c H locs cells slots Q (F0 m (pc + 1) ls (.int (st j) :: rest))) : W p l e R s m args below meth c H locs cells slots Q (F0 m pc ls (.int (nI j) :: .ref a.1.2.1 :: rest)) :=
  w_ild S hJ (30 + 1) (fw_s rfl) hj (by decide) hdg kk
theorem o_st (S : CallFix p m c cc nL s args AL own) (hJ : Jw G (fw G σ a (hh, pw, ar, st, ht, n, row) Y) s H locs) {j : Nat} (hj : j < 5) {x : Int32} (hdg : decode cc pc = .ok (.iastore, 1)) (kk : ∀ (H1 : Heap) (locs1 : List Loc), Jw G (fw G σ a (hh, pw, ar, va_up st j x, ht, n, row) Y) s H1 locs1 → W p l e R s m args below meth c H1 locs1 cells slots Q (F0 m (pc + 1) ls (rest))) : W p l e R s m args below meth c H locs cells slots Q (F0 m pc ls (.int x :: .int (nI j) :: .ref a.1.2.1 :: rest)) :=
  w_ist S hJ (30 + 1) (fw_s rfl) hj (by decide) hdg (fun H1 locs1 hJ1 => kk H1 locs1 (by rw [fw_set (v' := (hh, pw, ar, va_up st j x, ht, n, row)) (by rw [sw_len]; omega) rfl] at hJ1; exact hJ1))
theorem i_ht (S : CallFix p m c cc nL s args AL own) (hJ : Jw G (fw G σ a (hh, pw, ar, st, ht, n, row) Y) s H locs) {j : Nat} (hj : j < 5) (hdg : decode cc pc = .ok (.iaload, 1)) (kk : W p l e R s m args below meth c H locs cells slots Q (F0 m (pc + 1) ls (.int (ht j) :: rest))) : W p l e R s m args below meth c H locs cells slots Q (F0 m pc ls (.int (nI j) :: .ref a.1.2.2.1 :: rest)) :=
  w_ild S hJ (30 + 2) (fw_s rfl) hj (by decide) hdg kk
theorem o_ht (S : CallFix p m c cc nL s args AL own) (hJ : Jw G (fw G σ a (hh, pw, ar, st, ht, n, row) Y) s H locs) {j : Nat} (hj : j < 5) {x : Int32} (hdg : decode cc pc = .ok (.iastore, 1)) (kk : ∀ (H1 : Heap) (locs1 : List Loc), Jw G (fw G σ a (hh, pw, ar, st, va_up ht j x, n, row) Y) s H1 locs1 → W p l e R s m args below meth c H1 locs1 cells slots Q (F0 m (pc + 1) ls (rest))) : W p l e R s m args below meth c H locs cells slots Q (F0 m pc ls (.int x :: .int (nI j) :: .ref a.1.2.2.1 :: rest)) :=
  w_ist S hJ (30 + 2) (fw_s rfl) hj (by decide) hdg (fun H1 locs1 hJ1 => kk H1 locs1 (by rw [fw_set (v' := (hh, pw, ar, st, va_up ht j x, n, row)) (by rw [sw_len]; omega) rfl] at hJ1; exact hJ1))
theorem i_all (S : CallFix p m c cc nL s args AL own) (hJ : Jw G (fw G σ a (hh, pw, ar, st, ht, n, row) Y) s H locs) {i : Nat} (hi : i < n) (hn : n ≤ 20) (hdg : decode cc pc = .ok (.aaload, 1)) (kk : W p l e R s m args below meth c H locs cells slots Q (F0 m (pc + 1) ls (.ref (a.2 i) :: rest))) : W p l e R s m args below meth c H locs cells slots Q (F0 m pc ls (.int (nI i) :: .ref a.1.2.2.2 :: rest)) :=
  w_ald S hJ (30 + 3) (fw_s rfl) hi (show n < 2 ^ 31 by omega) (if_pos hi) hdg kk
theorem l_all (S : CallFix p m c cc nL s args AL own) (hJ : Jw G (fw G σ a (hh, pw, ar, st, ht, n, row) Y) s H locs) (hdg : decode cc pc = .ok (.arraylength, 1)) (kk : W p l e R s m args below meth c H locs cells slots Q (F0 m (pc + 1) ls (.int (nI n) :: rest))) : W p l e R s m args below meth c H locs cells slots Q (F0 m pc ls (.ref a.1.2.2.2 :: rest)) :=
  w_len S hJ (30 + 3) 3 rfl (fw_s rfl) hdg kk
theorem i_row0 (S : CallFix p m c cc nL s args AL own) {i : Nat} {z0 z1 z2 z3 z4 z5 z6 : Int32} (hJ : Jw G (fw G σ a (hh, pw, ar, st, ht, n, va_up row i (z0, z1, z2, z3, z4, z5, z6)) Y) s H locs) (hi : i < n) (hdg : decode cc pc = .ok (.iaload, 1)) (kk : W p l e R s m args below meth c H locs cells slots Q (F0 m (pc + 1) ls (.int z0 :: rest))) : W p l e R s m args below meth c H locs cells slots Q (F0 m pc ls (.int 0 :: .ref (a.2 i) :: rest)) := by
  refine w_ild (j := 0) S hJ (30 + (4 + i)) (fw_s (sw_r (v := (hh, pw, ar, st, ht, n, va_up row i (z0, z1, z2, z3, z4, z5, z6))) hi)) (by decide) (by decide) hdg ?_
  rw [show fr (va_up row i (z0, z1, z2, z3, z4, z5, z6) i) 0 = z0 from by rw [va_up_self]; rfl]
  exact kk
theorem o_row0 (S : CallFix p m c cc nL s args AL own) {i : Nat} {z0 z1 z2 z3 z4 z5 z6 : Int32} (hJ : Jw G (fw G σ a (hh, pw, ar, st, ht, n, va_up row i (z0, z1, z2, z3, z4, z5, z6)) Y) s H locs) (hi : i < n) {x : Int32} (hdg : decode cc pc = .ok (.iastore, 1)) (kk : ∀ (H1 : Heap) (locs1 : List Loc), Jw G (fw G σ a (hh, pw, ar, st, ht, n, va_up row i (x, z1, z2, z3, z4, z5, z6)) Y) s H1 locs1 → W p l e R s m args below meth c H1 locs1 cells slots Q (F0 m (pc + 1) ls (rest))) : W p l e R s m args below meth c H locs cells slots Q (F0 m pc ls (.int x :: .int 0 :: .ref (a.2 i) :: rest)) := by
  refine w_ist (j := 0) S hJ (30 + (4 + i)) (fw_s (sw_r (v := (hh, pw, ar, st, ht, n, va_up row i (z0, z1, z2, z3, z4, z5, z6))) hi)) (by decide) (by decide) hdg (fun H1 locs1 hJ1 => kk H1 locs1 ?_)
  have e9 : (fr (va_up row i (z0, z1, z2, z3, z4, z5, z6) i)) = fr (z0, z1, z2, z3, z4, z5, z6) := by rw [va_up_self]
  have e8 : va_up (fr (z0, z1, z2, z3, z4, z5, z6)) 0 x = fr (x, z1, z2, z3, z4, z5, z6) := by
    funext t
    rcases (show t = 0 ∨ t = 1 ∨ t = 2 ∨ t = 3 ∨ t = 4 ∨ t = 5 ∨ t = 6 ∨ 7 ≤ t by omega) with rfl | rfl | rfl | rfl | rfl | rfl | rfl | h7
    all_goals first | rfl | skip
    rw [va_up_ne _ _ (by omega)]
    obtain ⟨t, rfl⟩ := Nat.exists_eq_add_of_le h7
    rw [Nat.add_comm]
    rfl
  have e7 : va_up (fr (va_up row i (z0, z1, z2, z3, z4, z5, z6) i)) 0 x = fr (x, z1, z2, z3, z4, z5, z6) := by rw [e9]; exact e8
  rw [show va_up (fr (((hh, pw, ar, st, ht, n, va_up row i (z0, z1, z2, z3, z4, z5, z6)) : Sv).2.2.2.2.2.2 i)) 0 x = fr (x, z1, z2, z3, z4, z5, z6) from e7] at hJ1
  rw [fw_set (v' := (hh, pw, ar, st, ht, n, va_up row i (x, z1, z2, z3, z4, z5, z6))) (by rw [sw_len]; show 4 + i < 4 + n; omega) ((sw_setr hi _).trans (by rw [bx_uu]))] at hJ1
  exact hJ1
theorem i_row1 (S : CallFix p m c cc nL s args AL own) {i : Nat} {z0 z1 z2 z3 z4 z5 z6 : Int32} (hJ : Jw G (fw G σ a (hh, pw, ar, st, ht, n, va_up row i (z0, z1, z2, z3, z4, z5, z6)) Y) s H locs) (hi : i < n) (hdg : decode cc pc = .ok (.iaload, 1)) (kk : W p l e R s m args below meth c H locs cells slots Q (F0 m (pc + 1) ls (.int z1 :: rest))) : W p l e R s m args below meth c H locs cells slots Q (F0 m pc ls (.int 1 :: .ref (a.2 i) :: rest)) := by
  refine w_ild (j := 1) S hJ (30 + (4 + i)) (fw_s (sw_r (v := (hh, pw, ar, st, ht, n, va_up row i (z0, z1, z2, z3, z4, z5, z6))) hi)) (by decide) (by decide) hdg ?_
  rw [show fr (va_up row i (z0, z1, z2, z3, z4, z5, z6) i) 1 = z1 from by rw [va_up_self]; rfl]
  exact kk
theorem o_row1 (S : CallFix p m c cc nL s args AL own) {i : Nat} {z0 z1 z2 z3 z4 z5 z6 : Int32} (hJ : Jw G (fw G σ a (hh, pw, ar, st, ht, n, va_up row i (z0, z1, z2, z3, z4, z5, z6)) Y) s H locs) (hi : i < n) {x : Int32} (hdg : decode cc pc = .ok (.iastore, 1)) (kk : ∀ (H1 : Heap) (locs1 : List Loc), Jw G (fw G σ a (hh, pw, ar, st, ht, n, va_up row i (z0, x, z2, z3, z4, z5, z6)) Y) s H1 locs1 → W p l e R s m args below meth c H1 locs1 cells slots Q (F0 m (pc + 1) ls (rest))) : W p l e R s m args below meth c H locs cells slots Q (F0 m pc ls (.int x :: .int 1 :: .ref (a.2 i) :: rest)) := by
  refine w_ist (j := 1) S hJ (30 + (4 + i)) (fw_s (sw_r (v := (hh, pw, ar, st, ht, n, va_up row i (z0, z1, z2, z3, z4, z5, z6))) hi)) (by decide) (by decide) hdg (fun H1 locs1 hJ1 => kk H1 locs1 ?_)
  have e9 : (fr (va_up row i (z0, z1, z2, z3, z4, z5, z6) i)) = fr (z0, z1, z2, z3, z4, z5, z6) := by rw [va_up_self]
  have e8 : va_up (fr (z0, z1, z2, z3, z4, z5, z6)) 1 x = fr (z0, x, z2, z3, z4, z5, z6) := by
    funext t
    rcases (show t = 0 ∨ t = 1 ∨ t = 2 ∨ t = 3 ∨ t = 4 ∨ t = 5 ∨ t = 6 ∨ 7 ≤ t by omega) with rfl | rfl | rfl | rfl | rfl | rfl | rfl | h7
    all_goals first | rfl | skip
    rw [va_up_ne _ _ (by omega)]
    obtain ⟨t, rfl⟩ := Nat.exists_eq_add_of_le h7
    rw [Nat.add_comm]
    rfl
  have e7 : va_up (fr (va_up row i (z0, z1, z2, z3, z4, z5, z6) i)) 1 x = fr (z0, x, z2, z3, z4, z5, z6) := by rw [e9]; exact e8
  rw [show va_up (fr (((hh, pw, ar, st, ht, n, va_up row i (z0, z1, z2, z3, z4, z5, z6)) : Sv).2.2.2.2.2.2 i)) 1 x = fr (z0, x, z2, z3, z4, z5, z6) from e7] at hJ1
  rw [fw_set (v' := (hh, pw, ar, st, ht, n, va_up row i (z0, x, z2, z3, z4, z5, z6))) (by rw [sw_len]; show 4 + i < 4 + n; omega) ((sw_setr hi _).trans (by rw [bx_uu]))] at hJ1
  exact hJ1
theorem i_row2 (S : CallFix p m c cc nL s args AL own) {i : Nat} {z0 z1 z2 z3 z4 z5 z6 : Int32} (hJ : Jw G (fw G σ a (hh, pw, ar, st, ht, n, va_up row i (z0, z1, z2, z3, z4, z5, z6)) Y) s H locs) (hi : i < n) (hdg : decode cc pc = .ok (.iaload, 1)) (kk : W p l e R s m args below meth c H locs cells slots Q (F0 m (pc + 1) ls (.int z2 :: rest))) : W p l e R s m args below meth c H locs cells slots Q (F0 m pc ls (.int 2 :: .ref (a.2 i) :: rest)) := by
  refine w_ild (j := 2) S hJ (30 + (4 + i)) (fw_s (sw_r (v := (hh, pw, ar, st, ht, n, va_up row i (z0, z1, z2, z3, z4, z5, z6))) hi)) (by decide) (by decide) hdg ?_
  rw [show fr (va_up row i (z0, z1, z2, z3, z4, z5, z6) i) 2 = z2 from by rw [va_up_self]; rfl]
  exact kk
theorem o_row2 (S : CallFix p m c cc nL s args AL own) {i : Nat} {z0 z1 z2 z3 z4 z5 z6 : Int32} (hJ : Jw G (fw G σ a (hh, pw, ar, st, ht, n, va_up row i (z0, z1, z2, z3, z4, z5, z6)) Y) s H locs) (hi : i < n) {x : Int32} (hdg : decode cc pc = .ok (.iastore, 1)) (kk : ∀ (H1 : Heap) (locs1 : List Loc), Jw G (fw G σ a (hh, pw, ar, st, ht, n, va_up row i (z0, z1, x, z3, z4, z5, z6)) Y) s H1 locs1 → W p l e R s m args below meth c H1 locs1 cells slots Q (F0 m (pc + 1) ls (rest))) : W p l e R s m args below meth c H locs cells slots Q (F0 m pc ls (.int x :: .int 2 :: .ref (a.2 i) :: rest)) := by
  refine w_ist (j := 2) S hJ (30 + (4 + i)) (fw_s (sw_r (v := (hh, pw, ar, st, ht, n, va_up row i (z0, z1, z2, z3, z4, z5, z6))) hi)) (by decide) (by decide) hdg (fun H1 locs1 hJ1 => kk H1 locs1 ?_)
  have e9 : (fr (va_up row i (z0, z1, z2, z3, z4, z5, z6) i)) = fr (z0, z1, z2, z3, z4, z5, z6) := by rw [va_up_self]
  have e8 : va_up (fr (z0, z1, z2, z3, z4, z5, z6)) 2 x = fr (z0, z1, x, z3, z4, z5, z6) := by
    funext t
    rcases (show t = 0 ∨ t = 1 ∨ t = 2 ∨ t = 3 ∨ t = 4 ∨ t = 5 ∨ t = 6 ∨ 7 ≤ t by omega) with rfl | rfl | rfl | rfl | rfl | rfl | rfl | h7
    all_goals first | rfl | skip
    rw [va_up_ne _ _ (by omega)]
    obtain ⟨t, rfl⟩ := Nat.exists_eq_add_of_le h7
    rw [Nat.add_comm]
    rfl
  have e7 : va_up (fr (va_up row i (z0, z1, z2, z3, z4, z5, z6) i)) 2 x = fr (z0, z1, x, z3, z4, z5, z6) := by rw [e9]; exact e8
  rw [show va_up (fr (((hh, pw, ar, st, ht, n, va_up row i (z0, z1, z2, z3, z4, z5, z6)) : Sv).2.2.2.2.2.2 i)) 2 x = fr (z0, z1, x, z3, z4, z5, z6) from e7] at hJ1
  rw [fw_set (v' := (hh, pw, ar, st, ht, n, va_up row i (z0, z1, x, z3, z4, z5, z6))) (by rw [sw_len]; show 4 + i < 4 + n; omega) ((sw_setr hi _).trans (by rw [bx_uu]))] at hJ1
  exact hJ1
theorem i_row3 (S : CallFix p m c cc nL s args AL own) {i : Nat} {z0 z1 z2 z3 z4 z5 z6 : Int32} (hJ : Jw G (fw G σ a (hh, pw, ar, st, ht, n, va_up row i (z0, z1, z2, z3, z4, z5, z6)) Y) s H locs) (hi : i < n) (hdg : decode cc pc = .ok (.iaload, 1)) (kk : W p l e R s m args below meth c H locs cells slots Q (F0 m (pc + 1) ls (.int z3 :: rest))) : W p l e R s m args below meth c H locs cells slots Q (F0 m pc ls (.int 3 :: .ref (a.2 i) :: rest)) := by
  refine w_ild (j := 3) S hJ (30 + (4 + i)) (fw_s (sw_r (v := (hh, pw, ar, st, ht, n, va_up row i (z0, z1, z2, z3, z4, z5, z6))) hi)) (by decide) (by decide) hdg ?_
  rw [show fr (va_up row i (z0, z1, z2, z3, z4, z5, z6) i) 3 = z3 from by rw [va_up_self]; rfl]
  exact kk
theorem o_row3 (S : CallFix p m c cc nL s args AL own) {i : Nat} {z0 z1 z2 z3 z4 z5 z6 : Int32} (hJ : Jw G (fw G σ a (hh, pw, ar, st, ht, n, va_up row i (z0, z1, z2, z3, z4, z5, z6)) Y) s H locs) (hi : i < n) {x : Int32} (hdg : decode cc pc = .ok (.iastore, 1)) (kk : ∀ (H1 : Heap) (locs1 : List Loc), Jw G (fw G σ a (hh, pw, ar, st, ht, n, va_up row i (z0, z1, z2, x, z4, z5, z6)) Y) s H1 locs1 → W p l e R s m args below meth c H1 locs1 cells slots Q (F0 m (pc + 1) ls (rest))) : W p l e R s m args below meth c H locs cells slots Q (F0 m pc ls (.int x :: .int 3 :: .ref (a.2 i) :: rest)) := by
  refine w_ist (j := 3) S hJ (30 + (4 + i)) (fw_s (sw_r (v := (hh, pw, ar, st, ht, n, va_up row i (z0, z1, z2, z3, z4, z5, z6))) hi)) (by decide) (by decide) hdg (fun H1 locs1 hJ1 => kk H1 locs1 ?_)
  have e9 : (fr (va_up row i (z0, z1, z2, z3, z4, z5, z6) i)) = fr (z0, z1, z2, z3, z4, z5, z6) := by rw [va_up_self]
  have e8 : va_up (fr (z0, z1, z2, z3, z4, z5, z6)) 3 x = fr (z0, z1, z2, x, z4, z5, z6) := by
    funext t
    rcases (show t = 0 ∨ t = 1 ∨ t = 2 ∨ t = 3 ∨ t = 4 ∨ t = 5 ∨ t = 6 ∨ 7 ≤ t by omega) with rfl | rfl | rfl | rfl | rfl | rfl | rfl | h7
    all_goals first | rfl | skip
    rw [va_up_ne _ _ (by omega)]
    obtain ⟨t, rfl⟩ := Nat.exists_eq_add_of_le h7
    rw [Nat.add_comm]
    rfl
  have e7 : va_up (fr (va_up row i (z0, z1, z2, z3, z4, z5, z6) i)) 3 x = fr (z0, z1, z2, x, z4, z5, z6) := by rw [e9]; exact e8
  rw [show va_up (fr (((hh, pw, ar, st, ht, n, va_up row i (z0, z1, z2, z3, z4, z5, z6)) : Sv).2.2.2.2.2.2 i)) 3 x = fr (z0, z1, z2, x, z4, z5, z6) from e7] at hJ1
  rw [fw_set (v' := (hh, pw, ar, st, ht, n, va_up row i (z0, z1, z2, x, z4, z5, z6))) (by rw [sw_len]; show 4 + i < 4 + n; omega) ((sw_setr hi _).trans (by rw [bx_uu]))] at hJ1
  exact hJ1
theorem i_row4 (S : CallFix p m c cc nL s args AL own) {i : Nat} {z0 z1 z2 z3 z4 z5 z6 : Int32} (hJ : Jw G (fw G σ a (hh, pw, ar, st, ht, n, va_up row i (z0, z1, z2, z3, z4, z5, z6)) Y) s H locs) (hi : i < n) (hdg : decode cc pc = .ok (.iaload, 1)) (kk : W p l e R s m args below meth c H locs cells slots Q (F0 m (pc + 1) ls (.int z4 :: rest))) : W p l e R s m args below meth c H locs cells slots Q (F0 m pc ls (.int 4 :: .ref (a.2 i) :: rest)) := by
  refine w_ild (j := 4) S hJ (30 + (4 + i)) (fw_s (sw_r (v := (hh, pw, ar, st, ht, n, va_up row i (z0, z1, z2, z3, z4, z5, z6))) hi)) (by decide) (by decide) hdg ?_
  rw [show fr (va_up row i (z0, z1, z2, z3, z4, z5, z6) i) 4 = z4 from by rw [va_up_self]; rfl]
  exact kk
theorem o_row4 (S : CallFix p m c cc nL s args AL own) {i : Nat} {z0 z1 z2 z3 z4 z5 z6 : Int32} (hJ : Jw G (fw G σ a (hh, pw, ar, st, ht, n, va_up row i (z0, z1, z2, z3, z4, z5, z6)) Y) s H locs) (hi : i < n) {x : Int32} (hdg : decode cc pc = .ok (.iastore, 1)) (kk : ∀ (H1 : Heap) (locs1 : List Loc), Jw G (fw G σ a (hh, pw, ar, st, ht, n, va_up row i (z0, z1, z2, z3, x, z5, z6)) Y) s H1 locs1 → W p l e R s m args below meth c H1 locs1 cells slots Q (F0 m (pc + 1) ls (rest))) : W p l e R s m args below meth c H locs cells slots Q (F0 m pc ls (.int x :: .int 4 :: .ref (a.2 i) :: rest)) := by
  refine w_ist (j := 4) S hJ (30 + (4 + i)) (fw_s (sw_r (v := (hh, pw, ar, st, ht, n, va_up row i (z0, z1, z2, z3, z4, z5, z6))) hi)) (by decide) (by decide) hdg (fun H1 locs1 hJ1 => kk H1 locs1 ?_)
  have e9 : (fr (va_up row i (z0, z1, z2, z3, z4, z5, z6) i)) = fr (z0, z1, z2, z3, z4, z5, z6) := by rw [va_up_self]
  have e8 : va_up (fr (z0, z1, z2, z3, z4, z5, z6)) 4 x = fr (z0, z1, z2, z3, x, z5, z6) := by
    funext t
    rcases (show t = 0 ∨ t = 1 ∨ t = 2 ∨ t = 3 ∨ t = 4 ∨ t = 5 ∨ t = 6 ∨ 7 ≤ t by omega) with rfl | rfl | rfl | rfl | rfl | rfl | rfl | h7
    all_goals first | rfl | skip
    rw [va_up_ne _ _ (by omega)]
    obtain ⟨t, rfl⟩ := Nat.exists_eq_add_of_le h7
    rw [Nat.add_comm]
    rfl
  have e7 : va_up (fr (va_up row i (z0, z1, z2, z3, z4, z5, z6) i)) 4 x = fr (z0, z1, z2, z3, x, z5, z6) := by rw [e9]; exact e8
  rw [show va_up (fr (((hh, pw, ar, st, ht, n, va_up row i (z0, z1, z2, z3, z4, z5, z6)) : Sv).2.2.2.2.2.2 i)) 4 x = fr (z0, z1, z2, z3, x, z5, z6) from e7] at hJ1
  rw [fw_set (v' := (hh, pw, ar, st, ht, n, va_up row i (z0, z1, z2, z3, x, z5, z6))) (by rw [sw_len]; show 4 + i < 4 + n; omega) ((sw_setr hi _).trans (by rw [bx_uu]))] at hJ1
  exact hJ1
theorem i_row5 (S : CallFix p m c cc nL s args AL own) {i : Nat} {z0 z1 z2 z3 z4 z5 z6 : Int32} (hJ : Jw G (fw G σ a (hh, pw, ar, st, ht, n, va_up row i (z0, z1, z2, z3, z4, z5, z6)) Y) s H locs) (hi : i < n) (hdg : decode cc pc = .ok (.iaload, 1)) (kk : W p l e R s m args below meth c H locs cells slots Q (F0 m (pc + 1) ls (.int z5 :: rest))) : W p l e R s m args below meth c H locs cells slots Q (F0 m pc ls (.int 5 :: .ref (a.2 i) :: rest)) := by
  refine w_ild (j := 5) S hJ (30 + (4 + i)) (fw_s (sw_r (v := (hh, pw, ar, st, ht, n, va_up row i (z0, z1, z2, z3, z4, z5, z6))) hi)) (by decide) (by decide) hdg ?_
  rw [show fr (va_up row i (z0, z1, z2, z3, z4, z5, z6) i) 5 = z5 from by rw [va_up_self]; rfl]
  exact kk
theorem o_row5 (S : CallFix p m c cc nL s args AL own) {i : Nat} {z0 z1 z2 z3 z4 z5 z6 : Int32} (hJ : Jw G (fw G σ a (hh, pw, ar, st, ht, n, va_up row i (z0, z1, z2, z3, z4, z5, z6)) Y) s H locs) (hi : i < n) {x : Int32} (hdg : decode cc pc = .ok (.iastore, 1)) (kk : ∀ (H1 : Heap) (locs1 : List Loc), Jw G (fw G σ a (hh, pw, ar, st, ht, n, va_up row i (z0, z1, z2, z3, z4, x, z6)) Y) s H1 locs1 → W p l e R s m args below meth c H1 locs1 cells slots Q (F0 m (pc + 1) ls (rest))) : W p l e R s m args below meth c H locs cells slots Q (F0 m pc ls (.int x :: .int 5 :: .ref (a.2 i) :: rest)) := by
  refine w_ist (j := 5) S hJ (30 + (4 + i)) (fw_s (sw_r (v := (hh, pw, ar, st, ht, n, va_up row i (z0, z1, z2, z3, z4, z5, z6))) hi)) (by decide) (by decide) hdg (fun H1 locs1 hJ1 => kk H1 locs1 ?_)
  have e9 : (fr (va_up row i (z0, z1, z2, z3, z4, z5, z6) i)) = fr (z0, z1, z2, z3, z4, z5, z6) := by rw [va_up_self]
  have e8 : va_up (fr (z0, z1, z2, z3, z4, z5, z6)) 5 x = fr (z0, z1, z2, z3, z4, x, z6) := by
    funext t
    rcases (show t = 0 ∨ t = 1 ∨ t = 2 ∨ t = 3 ∨ t = 4 ∨ t = 5 ∨ t = 6 ∨ 7 ≤ t by omega) with rfl | rfl | rfl | rfl | rfl | rfl | rfl | h7
    all_goals first | rfl | skip
    rw [va_up_ne _ _ (by omega)]
    obtain ⟨t, rfl⟩ := Nat.exists_eq_add_of_le h7
    rw [Nat.add_comm]
    rfl
  have e7 : va_up (fr (va_up row i (z0, z1, z2, z3, z4, z5, z6) i)) 5 x = fr (z0, z1, z2, z3, z4, x, z6) := by rw [e9]; exact e8
  rw [show va_up (fr (((hh, pw, ar, st, ht, n, va_up row i (z0, z1, z2, z3, z4, z5, z6)) : Sv).2.2.2.2.2.2 i)) 5 x = fr (z0, z1, z2, z3, z4, x, z6) from e7] at hJ1
  rw [fw_set (v' := (hh, pw, ar, st, ht, n, va_up row i (z0, z1, z2, z3, z4, x, z6))) (by rw [sw_len]; show 4 + i < 4 + n; omega) ((sw_setr hi _).trans (by rw [bx_uu]))] at hJ1
  exact hJ1
theorem i_row6 (S : CallFix p m c cc nL s args AL own) {i : Nat} {z0 z1 z2 z3 z4 z5 z6 : Int32} (hJ : Jw G (fw G σ a (hh, pw, ar, st, ht, n, va_up row i (z0, z1, z2, z3, z4, z5, z6)) Y) s H locs) (hi : i < n) (hdg : decode cc pc = .ok (.iaload, 1)) (kk : W p l e R s m args below meth c H locs cells slots Q (F0 m (pc + 1) ls (.int z6 :: rest))) : W p l e R s m args below meth c H locs cells slots Q (F0 m pc ls (.int 6 :: .ref (a.2 i) :: rest)) := by
  refine w_ild (j := 6) S hJ (30 + (4 + i)) (fw_s (sw_r (v := (hh, pw, ar, st, ht, n, va_up row i (z0, z1, z2, z3, z4, z5, z6))) hi)) (by decide) (by decide) hdg ?_
  rw [show fr (va_up row i (z0, z1, z2, z3, z4, z5, z6) i) 6 = z6 from by rw [va_up_self]; rfl]
  exact kk
theorem o_row6 (S : CallFix p m c cc nL s args AL own) {i : Nat} {z0 z1 z2 z3 z4 z5 z6 : Int32} (hJ : Jw G (fw G σ a (hh, pw, ar, st, ht, n, va_up row i (z0, z1, z2, z3, z4, z5, z6)) Y) s H locs) (hi : i < n) {x : Int32} (hdg : decode cc pc = .ok (.iastore, 1)) (kk : ∀ (H1 : Heap) (locs1 : List Loc), Jw G (fw G σ a (hh, pw, ar, st, ht, n, va_up row i (z0, z1, z2, z3, z4, z5, x)) Y) s H1 locs1 → W p l e R s m args below meth c H1 locs1 cells slots Q (F0 m (pc + 1) ls (rest))) : W p l e R s m args below meth c H locs cells slots Q (F0 m pc ls (.int x :: .int 6 :: .ref (a.2 i) :: rest)) := by
  refine w_ist (j := 6) S hJ (30 + (4 + i)) (fw_s (sw_r (v := (hh, pw, ar, st, ht, n, va_up row i (z0, z1, z2, z3, z4, z5, z6))) hi)) (by decide) (by decide) hdg (fun H1 locs1 hJ1 => kk H1 locs1 ?_)
  have e9 : (fr (va_up row i (z0, z1, z2, z3, z4, z5, z6) i)) = fr (z0, z1, z2, z3, z4, z5, z6) := by rw [va_up_self]
  have e8 : va_up (fr (z0, z1, z2, z3, z4, z5, z6)) 6 x = fr (z0, z1, z2, z3, z4, z5, x) := by
    funext t
    rcases (show t = 0 ∨ t = 1 ∨ t = 2 ∨ t = 3 ∨ t = 4 ∨ t = 5 ∨ t = 6 ∨ 7 ≤ t by omega) with rfl | rfl | rfl | rfl | rfl | rfl | rfl | h7
    all_goals first | rfl | skip
    rw [va_up_ne _ _ (by omega)]
    obtain ⟨t, rfl⟩ := Nat.exists_eq_add_of_le h7
    rw [Nat.add_comm]
    rfl
  have e7 : va_up (fr (va_up row i (z0, z1, z2, z3, z4, z5, z6) i)) 6 x = fr (z0, z1, z2, z3, z4, z5, x) := by rw [e9]; exact e8
  rw [show va_up (fr (((hh, pw, ar, st, ht, n, va_up row i (z0, z1, z2, z3, z4, z5, z6)) : Sv).2.2.2.2.2.2 i)) 6 x = fr (z0, z1, z2, z3, z4, z5, x) from e7] at hJ1
  rw [fw_set (v' := (hh, pw, ar, st, ht, n, va_up row i (z0, z1, z2, z3, z4, z5, x))) (by rw [sw_len]; show 4 + i < 4 + n; omega) ((sw_setr hi _).trans (by rw [bx_uu]))] at hJ1
  exact hJ1
/-- a row of the law's own, behind the machine -/
theorem i_y {v : Sv} (S : CallFix p m c cc nL s args AL own) (hJ : Jw G (fw G σ a v Y) s H locs) (j0 : Nat) {q N : Nat} {f : Nat → Int32} (hy : Y[j0]? = some (q, .inl (gC G 4, N, .inl f))) {j : Nat} (hj : j < N) (hN : N < 2 ^ 31) (hdg : decode cc pc = .ok (.iaload, 1)) (kk : W p l e R s m args below meth c H locs cells slots Q (F0 m (pc + 1) ls (.int (f j) :: rest))) : W p l e R s m args below meth c H locs cells slots Q (F0 m pc ls (.int (nI j) :: .ref q :: rest)) :=
  w_ild S hJ _ (fw_y hy) hj hN hdg kk
theorem o_y {v : Sv} (S : CallFix p m c cc nL s args AL own) (hJ : Jw G (fw G σ a v Y) s H locs) (j0 : Nat) {q N : Nat} {f : Nat → Int32} (hy : Y[j0]? = some (q, .inl (gC G 4, N, .inl f))) {j : Nat} (hj : j < N) (hN : N < 2 ^ 31) {x : Int32} (hdg : decode cc pc = .ok (.iastore, 1)) (kk : ∀ (H1 : Heap) (locs1 : List Loc), Jw G (fw G σ a v (Y.set j0 (q, .inl (gC G 4, N, .inl (va_up f j x))))) s H1 locs1 → W p l e R s m args below meth c H1 locs1 cells slots Q (F0 m (pc + 1) ls (rest))) : W p l e R s m args below meth c H locs cells slots Q (F0 m pc ls (.int x :: .int (nI j) :: .ref q :: rest)) :=
  w_ist S hJ _ (fw_y hy) hj hN hdg (fun H1 locs1 hJ1 => kk H1 locs1 (by rw [fw_sety] at hJ1; exact hJ1))
theorem i_yz {v : Sv} (S : CallFix p m c cc nL s args AL own) (hJ : Jw G (fw G σ a v Y) s H locs) (j0 : Nat) {q N : Nat} {f : Nat → Int32} (hy : Y[j0]? = some (q, .inl (gC G 6, N, .inl f))) {j : Nat} (hj : j < N) (hN : N < 2 ^ 31) (hdg : decode cc pc = .ok (.baload, 1)) (kk : W p l e R s m args below meth c H locs cells slots Q (F0 m (pc + 1) ls (.int (f j) :: rest))) : W p l e R s m args below meth c H locs cells slots Q (F0 m pc ls (.int (nI j) :: .ref q :: rest)) :=
  w_zld S hJ _ (fw_y hy) hj hN hdg kk
theorem o_yz {v : Sv} (S : CallFix p m c cc nL s args AL own) (hJ : Jw G (fw G σ a v Y) s H locs) (j0 : Nat) {q N : Nat} {f : Nat → Int32} (hy : Y[j0]? = some (q, .inl (gC G 6, N, .inl f))) {j : Nat} (hj : j < N) (hN : N < 2 ^ 31) {x : Int32} (hv : vp_nar .boolean x = x) (hdg : decode cc pc = .ok (.bastore, 1)) (kk : ∀ (H1 : Heap) (locs1 : List Loc), Jw G (fw G σ a v (Y.set j0 (q, .inl (gC G 6, N, .inl (va_up f j x))))) s H1 locs1 → W p l e R s m args below meth c H1 locs1 cells slots Q (F0 m (pc + 1) ls (rest))) : W p l e R s m args below meth c H locs cells slots Q (F0 m pc ls (.int x :: .int (nI j) :: .ref q :: rest)) :=
  w_zst S hJ _ (fw_y hy) hj hN hv hdg (fun H1 locs1 hJ1 => kk H1 locs1 (by rw [fw_sety] at hJ1; exact hJ1))
end SIMR
