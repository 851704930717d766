def gB0 (q0 : Nat) (u : KX) : Nat → Nat
  | 0 => q0
  | 1 => u.2.1.1
  | 2 => u.2.1.2.1
  | k + 3 => if k < 5 then u.2.2.1 k else if k = 5 then u.2.1.2.2.1 else if k < 26 then u.2.2.2 (k - 6) else u.2.1.2.2.2
def gC0 (u : KX) (cI cG cZ : ClassId) : Nat → ClassId
  | 1 => u.1.1
  | 2 => u.1.2
  | 4 => cI
  | 5 => cG
  | _ => cZ
def gE0 (ge : Nat → Nat) (b : Nat) : Nat → Nat := fun k => if k < 6 then ge k else b
abbrev G0 (D : va_G) (ge : Nat → Nat) (b : Nat) (A : Nat → Prop) (q0 : Nat) (u : KX) (cI cG cZ : ClassId) : Gt := (D.1, D.2, gB0 q0 u, gC0 u cI cG cZ, gE0 ge b, A)
def sg0 : St := (((fun _ => (-18, -18)), (fun _ => (0, 6, 0, 0, 0, 0)), 0, 0, 0, 1), ())
def pm (k : Nat) : Nat := if k < 3 then k else if k < 8 then k + 2 else if k = 8 then 3 else if k < 29 then k + 1 else 4
theorem pm_inj : ∀ i, i < 30 → ∀ j, j < 30 → pm i = pm j → i = j := by decide +kernel
theorem vp_q_congr {cA : ClassId} {n : Nat} {f g : Nat → Option Nat} (h : ∀ i, i < n → f i = g i) : vp_cell cA (n, .inr (.inr (.inr (.inr f)))) = vp_cell cA (n, .inr (.inr (.inr (.inr g)))) := by
  rw [vp_cell_q, vp_cell_q]
  have e9 : (fun j : Fin n => va_rf (f j.val)) = (fun j : Fin n => va_rf (g j.val)) := funext fun j => by rw [h j.val j.isLt]
  unfold arrV
  rw [e9]
section W1S
variable {e0 q0 : Nat} {u : KX} {j : Nat}
theorem W1_at {k : Nat} (h : k < 30) : ∃ z : va_E, (xl q0 e0 u.1.1 u.1.2 u.2.1.1 u.2.1.2.1 u.2.1.2.2.1 u.2.1.2.2.2 u.2.2.1 u.2.2.2 5 20 30)[pm k]? = some (gB0 q0 u k, z) := by
  rcases (show k = 0 ∨ k = 1 ∨ k = 2 ∨ k = 3 ∨ k = 4 ∨ k = 5 ∨ k = 6 ∨ k = 7 ∨ k = 8 ∨ k = 9 ∨ k = 10 ∨ k = 11 ∨ k = 12 ∨ k = 13 ∨ k = 14 ∨ k = 15 ∨ k = 16 ∨ k = 17 ∨ k = 18 ∨ k = 19 ∨ k = 20 ∨ k = 21 ∨ k = 22 ∨ k = 23 ∨ k = 24 ∨ k = 25 ∨ k = 26 ∨ k = 27 ∨ k = 28 ∨ k = 29 by omega) with rfl | rfl | rfl | rfl | rfl | rfl | rfl | rfl | rfl | rfl | rfl | rfl | rfl | rfl | rfl | rfl | rfl | rfl | rfl | rfl | rfl | rfl | rfl | rfl | rfl | rfl | rfl | rfl | rfl | rfl
  · exact ⟨_, ((xl_at (n := 30) (j := 0) (by decide)).trans rfl)⟩
  · exact ⟨_, ((xl_at (n := 30) (j := 1) (by decide)).trans rfl)⟩
  · exact ⟨_, ((xl_at (n := 30) (j := 2) (by decide)).trans rfl)⟩
  · exact ⟨_, ((xl_at (n := 30) (j := 5) (by decide)).trans rfl)⟩
  · exact ⟨_, ((xl_at (n := 30) (j := 6) (by decide)).trans rfl)⟩
  · exact ⟨_, ((xl_at (n := 30) (j := 7) (by decide)).trans rfl)⟩
  · exact ⟨_, ((xl_at (n := 30) (j := 8) (by decide)).trans rfl)⟩
  · exact ⟨_, ((xl_at (n := 30) (j := 9) (by decide)).trans rfl)⟩
  · exact ⟨_, ((xl_at (n := 30) (j := 3) (by decide)).trans rfl)⟩
  · exact ⟨_, ((xl_at (n := 30) (j := 10) (by decide)).trans rfl)⟩
  · exact ⟨_, ((xl_at (n := 30) (j := 11) (by decide)).trans rfl)⟩
  · exact ⟨_, ((xl_at (n := 30) (j := 12) (by decide)).trans rfl)⟩
  · exact ⟨_, ((xl_at (n := 30) (j := 13) (by decide)).trans rfl)⟩
  · exact ⟨_, ((xl_at (n := 30) (j := 14) (by decide)).trans rfl)⟩
  · exact ⟨_, ((xl_at (n := 30) (j := 15) (by decide)).trans rfl)⟩
  · exact ⟨_, ((xl_at (n := 30) (j := 16) (by decide)).trans rfl)⟩
  · exact ⟨_, ((xl_at (n := 30) (j := 17) (by decide)).trans rfl)⟩
  · exact ⟨_, ((xl_at (n := 30) (j := 18) (by decide)).trans rfl)⟩
  · exact ⟨_, ((xl_at (n := 30) (j := 19) (by decide)).trans rfl)⟩
  · exact ⟨_, ((xl_at (n := 30) (j := 20) (by decide)).trans rfl)⟩
  · exact ⟨_, ((xl_at (n := 30) (j := 21) (by decide)).trans rfl)⟩
  · exact ⟨_, ((xl_at (n := 30) (j := 22) (by decide)).trans rfl)⟩
  · exact ⟨_, ((xl_at (n := 30) (j := 23) (by decide)).trans rfl)⟩
  · exact ⟨_, ((xl_at (n := 30) (j := 24) (by decide)).trans rfl)⟩
  · exact ⟨_, ((xl_at (n := 30) (j := 25) (by decide)).trans rfl)⟩
  · exact ⟨_, ((xl_at (n := 30) (j := 26) (by decide)).trans rfl)⟩
  · exact ⟨_, ((xl_at (n := 30) (j := 27) (by decide)).trans rfl)⟩
  · exact ⟨_, ((xl_at (n := 30) (j := 28) (by decide)).trans rfl)⟩
  · exact ⟨_, ((xl_at (n := 30) (j := 29) (by decide)).trans rfl)⟩
  · exact ⟨_, ((xl_at (n := 30) (j := 4) (by decide)).trans rfl)⟩
set_option maxRecDepth 100000 in
theorem P0 {D : va_G} {ge : Nat → Nat} {b : Nat} {A : Nat → Prop} {cI cG cZ : ClassId} {H : Heap} (he : ge 0 = e0) (hP : va_P D vwCl (xl q0 e0 u.1.1 u.1.2 u.2.1.1 u.2.1.2.1 u.2.1.2.2.1 u.2.1.2.2.2 u.2.2.1 u.2.2.2 5 20 30) H) : va_P (gD (G0 D ge b A q0 u cI cG cZ)) vwCl (wl (G0 D ge b A q0 u cI cG cZ) sg0) H := fun k x hk => by
  have h30 : k < 30 := by
    have h9 := (List.getElem?_eq_some_iff.mp hk).1
    rw [wl_len] at h9
    exact h9
  rw [wl_at _ _ h30] at hk
  cases hk
  subst he
  rcases (show k = 0 ∨ k = 1 ∨ k = 2 ∨ k = 3 ∨ k = 4 ∨ k = 5 ∨ k = 6 ∨ k = 7 ∨ k = 8 ∨ k = 9 ∨ k = 10 ∨ k = 11 ∨ k = 12 ∨ k = 13 ∨ k = 14 ∨ k = 15 ∨ k = 16 ∨ k = 17 ∨ k = 18 ∨ k = 19 ∨ k = 20 ∨ k = 21 ∨ k = 22 ∨ k = 23 ∨ k = 24 ∨ k = 25 ∨ k = 26 ∨ k = 27 ∨ k = 28 ∨ k = 29 by omega) with rfl | rfl | rfl | rfl | rfl | rfl | rfl | rfl | rfl | rfl | rfl | rfl | rfl | rfl | rfl | rfl | rfl | rfl | rfl | rfl | rfl | rfl | rfl | rfl | rfl | rfl | rfl | rfl | rfl | rfl
  · exact hP 0 _ ((xl_at (n := 30) (j := 0) (by decide)).trans rfl)
  · have h9 : H[u.2.1.1]? = some (vp_cell u.1.1 (5, .inr (.inr (.inr (.inr (fS u.2.2.1 5)))))) := hP 1 _ (xl_at (by decide))
    rw [vp_q_congr (g := fun i => some (gB0 q0 u (3 + i))) (fun i hi => by
      rw [Nat.add_comm 3 i]
      show (if i < 5 then some (u.2.2.1 i) else none) = some (if i < 5 then u.2.2.1 i else _)
      rw [if_pos hi, if_pos hi])] at h9
    exact h9
  · have h9 : H[u.2.1.2.1]? = some (vp_cell u.1.2 (20, .inr (.inr (.inr (.inr (fS u.2.2.2 20)))))) := hP 2 _ (xl_at (by decide))
    rw [vp_q_congr (g := fun i => some (gB0 q0 u (9 + i))) (fun i hi => by
      rw [show 9 + i = (6 + i) + 3 by omega]
      show (if i < 20 then some (u.2.2.2 i) else none) = some (if 6 + i < 5 then u.2.2.1 (6 + i) else if 6 + i = 5 then u.2.1.2.2.1 else if 6 + i < 26 then u.2.2.2 (6 + i - 6) else u.2.1.2.2.2)
      rw [if_pos hi, if_neg (by omega), if_neg (by omega), if_pos (by omega), Nat.add_sub_cancel_left])] at h9
    exact h9
  · exact hP 5 _ ((xl_at (n := 30) (j := 5) (by decide)).trans rfl)
  · exact hP 6 _ ((xl_at (n := 30) (j := 6) (by decide)).trans rfl)
  · exact hP 7 _ ((xl_at (n := 30) (j := 7) (by decide)).trans rfl)
  · exact hP 8 _ ((xl_at (n := 30) (j := 8) (by decide)).trans rfl)
  · exact hP 9 _ ((xl_at (n := 30) (j := 9) (by decide)).trans rfl)
  · exact hP 3 _ ((xl_at (n := 30) (j := 3) (by decide)).trans rfl)
  · exact hP 10 _ ((xl_at (n := 30) (j := 10) (by decide)).trans rfl)
  · exact hP 11 _ ((xl_at (n := 30) (j := 11) (by decide)).trans rfl)
  · exact hP 12 _ ((xl_at (n := 30) (j := 12) (by decide)).trans rfl)
  · exact hP 13 _ ((xl_at (n := 30) (j := 13) (by decide)).trans rfl)
  · exact hP 14 _ ((xl_at (n := 30) (j := 14) (by decide)).trans rfl)
  · exact hP 15 _ ((xl_at (n := 30) (j := 15) (by decide)).trans rfl)
  · exact hP 16 _ ((xl_at (n := 30) (j := 16) (by decide)).trans rfl)
  · exact hP 17 _ ((xl_at (n := 30) (j := 17) (by decide)).trans rfl)
  · exact hP 18 _ ((xl_at (n := 30) (j := 18) (by decide)).trans rfl)
  · exact hP 19 _ ((xl_at (n := 30) (j := 19) (by decide)).trans rfl)
  · exact hP 20 _ ((xl_at (n := 30) (j := 20) (by decide)).trans rfl)
  · exact hP 21 _ ((xl_at (n := 30) (j := 21) (by decide)).trans rfl)
  · exact hP 22 _ ((xl_at (n := 30) (j := 22) (by decide)).trans rfl)
  · exact hP 23 _ ((xl_at (n := 30) (j := 23) (by decide)).trans rfl)
  · exact hP 24 _ ((xl_at (n := 30) (j := 24) (by decide)).trans rfl)
  · exact hP 25 _ ((xl_at (n := 30) (j := 25) (by decide)).trans rfl)
  · exact hP 26 _ ((xl_at (n := 30) (j := 26) (by decide)).trans rfl)
  · exact hP 27 _ ((xl_at (n := 30) (j := 27) (by decide)).trans rfl)
  · exact hP 28 _ ((xl_at (n := 30) (j := 28) (by decide)).trans rfl)
  · exact hP 29 _ ((xl_at (n := 30) (j := 29) (by decide)).trans rfl)
  · exact hP 4 _ ((xl_at (n := 30) (j := 4) (by decide)).trans rfl)
theorem D0i {A : Nat → Prop} (hD : va_D A (xl q0 e0 u.1.1 u.1.2 u.2.1.1 u.2.1.2.1 u.2.1.2.2.1 u.2.1.2.2.2 u.2.2.1 u.2.2.2 5 20 30)) : ∀ i k : Nat, i < 30 → k < 30 → gB0 q0 u i = gB0 q0 u k → i = k := fun i k hi hk h => by
  obtain ⟨z1, h1⟩ := W1_at (e0 := e0) (u := u) (q0 := q0) hi
  obtain ⟨z2, h2⟩ := W1_at (e0 := e0) (u := u) (q0 := q0) hk
  exact pm_inj i hi k hk (hD.1 _ _ _ _ h1 h2 h)
theorem D0a {A : Nat → Prop} (hD : va_D A (xl q0 e0 u.1.1 u.1.2 u.2.1.1 u.2.1.2.1 u.2.1.2.2.1 u.2.1.2.2.2 u.2.2.1 u.2.2.2 5 20 30)) : ∀ i : Nat, i < 30 → A (gB0 q0 u i) := fun i hi => by
  obtain ⟨z1, h1⟩ := W1_at (e0 := e0) (u := u) (q0 := q0) hi
  exact hD.2 _ _ h1
end W1S
theorem pct0 : Pct sg0 (0, 1, 0, s18, s18, 0, fun _ => (0, 0, 0, 0, 0, 0, 0)) := by
  refine ⟨⟨by decide, rfl, Or.inr rfl, fun k hk => ⟨(show (-30 : Int32) ≤ -18 by decide), (show (-18 : Int32) ≤ -5 by decide), (show (-30 : Int32) ≤ -18 by decide), (show (-18 : Int32) ≤ 20 by decide)⟩, fun q hq => absurd hq (Nat.not_lt_zero q), fun q _ _ => ⟨rfl, rfl⟩⟩, ⟨rfl, rfl, rfl⟩, fun k hk => ⟨if_pos hk, if_pos hk⟩, fun q hq => absurd hq (Nat.not_lt_zero q)⟩
theorem k_X_pc {D : va_G} {h0 e0 : Nat} {A : Nat → Prop} : FrameBlind (va_Pc [.ref h0] (fun U => X0 D e0 A U ∧ va_P D vwCl [(h0, .inr (2, [.null, .null, .int 0, .int 0, .int 0, .int 0, .null, .null]))] U.heap ∧ A h0 ∧ ∀ z : Nat, U.heap.size ≤ z → A z)) := fun _ U _ _ h =>
  ⟨h.1, ⟨va_K.moved (u := U) (Vm.Alike.refl U.vm) h.2.1.1, va_Z.moved (u := U) (Vm.Alike.refl U.vm) h.2.1.2.1, ⟨va_AO.moved (u := U) (Vm.Alike.refl U.vm) h.2.1.2.2.1.1, va_AO.moved (u := U) (Vm.Alike.refl U.vm) h.2.1.2.2.1.2⟩, fun w hw => nw_warm (s := U) hw (State.WarmedH.refl U) (h.2.1.2.2.2 w hw)⟩, h.2.2⟩
theorem wl_D0 {G : Gt} {s : State} (h : Ev G s) (σ : St) : va_D (gA G) (wl G σ) := wl_D h σ
set_option maxRecDepth 100000 in
set_option maxHeartbeats 4000000 in
theorem law_start {p : Program} {e : Env} {s : State} {m : MethodId} {below : List Frame} {meth : Method} {c : Code} (l : Launch) (hst9 : l.stackTraces = false) (hfl : FLn) (hfc : FLc) {b L : Nat} {xs : Nat → Int32} (hL9 : L ≤ 260) (S : CallFix p m c cL_law 31 s (#[Value.ref b]) AL RL) (hts : ∀ w ∈ lw_tbl, w.before #[Value.ref b] s = true) (hXs : va_X b L xs s s.heap) (hbl : b < s.heap.size) (hgv : gvT.before #[Value.ref b] s = true) {Q : State → Prop} (hend : ∀ (H : Heap) (ls : Array Slot), W p l e room_1 s m #[Value.ref b] below meth c H [] 709312 6973533 Q (F0 m 1428 ls [.int 1])) : W p l e room_1 s m #[Value.ref b] below meth c s.heap [] 0 0 Q (entryFrame m ([Value.ref b] : List Value).toArray 31) := by
  obtain ⟨A, hAe⟩ : ∃ A : Nat → Prop, A = fun q : Nat => s.heap.size ≤ q := ⟨_, rfl⟩
  have hA : ∀ q : Nat, s.heap.size ≤ q → A q := fun q h => by rw [hAe]; exact h
  have hAn : ∀ q : Nat, q < s.heap.size → ¬ A q := fun q h => by rw [hAe]; exact Nat.not_le.mpr h
  have hbA : ¬ A b := hAn b hbl
  obtain ⟨ge, hge, hZ, hT1, hT2, hstr, hNW⟩ := st_all (A := A) hts hgv hAn
  obtain ⟨k0, iS0, hKn0⟩ := u_known (C := RX0) (T := TX0) (N := 6) (n := 6) hts inX0 (S.2.2.2.2 _ (al (List.mem_of_getElem? (i := 68) rfl) rfl))
  obtain ⟨k1, iS1, hKn1⟩ := u_known (C := RX1) (T := TX1) (N := 3) (n := 3) hts inX1 (S.2.2.2.2 _ (al (List.mem_of_getElem? (i := 49) rfl) rfl))
  obtain ⟨k2, iS2, hKn2⟩ := u_known (C := RX3) (T := TX3) (N := 8) (n := 8) hts inX3 (S.2.2.2.2 _ (al (List.mem_of_getElem? (i := 38) rfl) rfl))
  obtain ⟨k3, iS3, hKn3⟩ := u_known (C := RX4) (T := TX4) (N := 6) (n := 6) hts inX4 (S.2.2.2.2 _ (al (List.mem_of_getElem? (i := 572) rfl) rfl))
  obtain ⟨D, hKc⟩ : ∃ D : va_G, ∀ (k : Nat) (q : vw_C), vwCl[k]? = some q → u_Kn s q.1 q.2.1 q.2.2 (D.1 k) (D.2 k) := by
    refine ⟨(fun k => if k = 0 then k0 else if k = 1 then k1 else if k = 2 then k2 else k3, fun k => if k = 0 then iS0 else if k = 1 then iS1 else if k = 2 then iS2 else iS3), ?_⟩
    intro k q hq
    match k, hq with
    | 0, hq => cases hq; exact hKn0
    | 1, hq => cases hq; exact hKn1
    | 2, hq => cases hq; exact hKn2
    | 3, hq => cases hq; exact hKn3
    | k + 4, hq => simp [vwCl] at hq
  have hS : va_S A s.heap s.heap [] := va_S.rf
  have hK : va_K D vwCl [] s := ⟨hKc, fun k q h => by simp at h⟩
  have hP : va_P D vwCl [] s.heap := fun k q h => by simp at h
  have hD : va_D A [] := ⟨fun i j p q h => by simp at h, fun k q h => by simp at h⟩
  obtain ⟨cI, cG, cZ, hKa, hgK⟩ := st_arr D hK hts
  have hO1 : va_AO "PromiseShelves$Shelf" s := va_AO.of (hts _ st_o1)
  have hO2 : va_AO "PromiseShelves$Promise" s := va_AO.of (hts _ st_o2)
  have hl := lv_entry ([.ref b]) (n := 31) (Nat.le_of_ble_eq_true rfl)
  rw [lg_entry_eq]
  generalize (lg_sl ([.ref b]) ++ List.replicate (31 - (lg_sl ([.ref b])).length) Slot.unset).toArray = ls at hl ⊢
  have hl : lv_has ls 31 [(0, .ref b)] := hl
  refine va_new (D := D) (ci := 2) (fs := [.null, .null, .int 0, .int 0, .int 0, .int 0, .null, .null]) (C := RX3) (T := TX3) (N := 8) S.1 S.2.1 S.2.2.2.2 alX3 tyX3 tyX3_ok S.2.2.2.1 (S.2.2.2.2 _ (al (List.mem_of_getElem? (i := 37) rfl) rfl)) (S.2.2.2.2 _ (al (List.mem_of_getElem? (i := 38) rfl) rfl)) (S.2.2.2.2 _ (al (List.mem_of_getElem? (i := 24) rfl) rfl)) hK hP hD hS hA rfl (fun j hj => by rcases (show j = 0 ∨ j = 1 ∨ j = 2 ∨ j = 3 ∨ j = 4 ∨ j = 5 ∨ j = 6 ∨ j = 7 by omega) with rfl | rfl | rfl | rfl | rfl | rfl | rfl | rfl <;> rfl) (Nat.le_of_ble_eq_true rfl) (Nat.le_of_ble_eq_true rfl) dL_law_0 (fun q0 H hP hD hS => ?_)
  refine lv_dup S.1 S.2.1 dL_law_3 rfl ?_
  have hA0 : A q0 := hD.2 0 _ rfl
  refine va_callv (va_runI (As := []) (rest := [.ref q0]) S (k_X l D q0 (ge 0) A) (cwI 0 S.2.2.2.2 (g_C (al (List.mem_of_getElem? (i := 41) rfl) rfl)) rfl rfl rfl (S.2.2.2.2 _ (al (List.mem_of_getElem? (i := 24) rfl) rfl)) (S.2.2.2.2 _ (al (List.mem_of_getElem? (i := 39) rfl) rfl)) (S.2.2.2.2 _ (al (List.mem_of_getElem? (i := 40) rfl) rfl)) rfl (by decide +kernel) ⟨Nat.le_of_ble_eq_true rfl, Nat.le_of_ble_eq_true rfl⟩) ⟨k_X_pc, fun U hU hW => ⟨rfl, ⟨va_K.moved hW.alike hK, by rw [hU]; exact (va_Z.kept (hZ 0 (by decide)) hS.2.1).moved hW.alike, ⟨va_AO.moved hW.alike hO1, va_AO.moved hW.alike hO2⟩, fun w hw => nw_warm hw hW (hNW w hw)⟩, by rw [hU]; exact hP, hA0, fun z hz => hA z (Nat.le_trans hS.1 (by rw [hU] at hz; exact hz))⟩⟩ rfl rfl hl.1 rfl (lv_room (Nat.le_of_ble_eq_true rfl)) dL_law_4 ⟨Nat.le_of_ble_eq_true rfl, Nat.le_of_ble_eq_true rfl⟩) hS (fun _ _ h => h) (fun _ h => h) (fun u t H1 locs ht hvm hw hB hz1 hk1 hS => ?_)
  obtain ⟨hP9, hD, hK9⟩ := hB
  rw [ht] at hP9
  have hK1 := va_K.moved hvm.symm hK9
  have hEv : Ev (G0 D ge b A q0 u cI cG cZ) s := ⟨⟨D0i hD, D0a hD, fun i j hi hj h => by
    have h9 : (if i < 6 then ge i else b) = (if j < 6 then ge j else b) := h
    rw [if_pos hi, if_pos hj] at h9
    exact hge i j hi hj h9⟩, hA, hK1.app hKa, fun k hk => by
      have h9 := hZ k hk
      show va_Z RX2 (enName k) enD (.ref (if k < 6 then ge k else b)) A s s.heap
      rw [if_pos hk]
      exact h9, hT1, hT2, ⟨hstr, hgK, L, xs, hL9, hXs, hbl, hbA⟩, hNW⟩
  have hJ : Jw (G0 D ge b A q0 u cI cG cZ) (wl (G0 D ge b A q0 u cI cG cZ) sg0) s H1 locs := ⟨hEv, P0 rfl hP9, wl_D hEv sg0, hS⟩
  generalize hG : G0 D ge b A q0 u cI cG cZ = G at hJ
  have hq : gB G 0 = q0 := by rw [← hG]; rfl
  have hb6 : gE G 6 = b := by rw [← hG]; rfl
  have hgA : gA G = A := by rw [← hG]; rfl
  rw [← hq]
  rw [← hb6] at hl
  refine lv_astore_n (lv' := [(1, .ref (gB G 0)), (0, .ref (gE G 6))]) S.1 S.2.1 dL_law_7 rfl hl (by decide) rfl (fun ls hl => ?_)
  refine lv_aload_n S.1 S.2.1 dL_law_8 rfl (lv_at hl 0 rfl) ?_
  refine lv_aload_n S.1 S.2.1 dL_law_9 rfl (lv_at hl 1 rfl) ?_
  refine dw_q hJ (rwS (As := [.ref (gB G 0), .ref (gE G 6)]) (rest := []) S hJ (k_build l hst9 G pct0) (cw_L_L_build S.2.2.2.2 ⟨Nat.le_of_ble_eq_true rfl, Nat.le_of_ble_eq_true rfl⟩) rfl hl.1 (Nat.le_of_ble_eq_true rfl) dL_law_10 ⟨Nat.le_of_ble_eq_true rfl, Nat.le_of_ble_eq_true rfl⟩) (fun r1 ws1 H locs hq1 hJ => ?_)
  obtain ⟨σ, q9, q1, q2, q3, aR, hh, pw, ar, st, ht9, n, row, rfl, rfl, hp⟩ := hq1
  show W p l e room_1 s m #[Value.ref b] below meth c H locs (0 + 1 + 29 + 50) (0 + 8 + 169 + 600) Q (F0 m 13 ls [.ref q9])
  refine lv_astore_n (lv' := [(2, .ref q9), (1, .ref (gB G 0)), (0, .ref (gE G 6))]) S.1 S.2.1 dL_law_13 rfl hl (by decide) rfl (fun ls hl => ?_)
  refine lv_aload_n S.1 S.2.1 dL_law_14 rfl (lv_at hl 0 rfl) ?_
  refine lv_ifnonnull (tgt := 20) S.1 S.2.1 dL_law_15 (by decide) ?_
  refine lv_iconst (v := (nI 0)) S.1 S.2.1 dL_law_20 (by rfl) ?_
  refine lv_istore_n (lv' := [(3, .int (nI 0)), (2, .ref q9), (1, .ref (gB G 0)), (0, .ref (gE G 6))]) S.1 S.2.1 dL_law_21 rfl hl (by decide) rfl (fun ls hl => ?_)
  refine W.widen (k := 80 + 108 * 0) (n := 777 + 1808 * 0) (Nat.le_of_ble_eq_true rfl) (Nat.le_of_ble_eq_true rfl) ?_
  refine lg_time (cells := 80) (slots := 777) hst9 hfl hfc S ⟨Nat.le_of_ble_eq_true rfl, Nat.le_of_ble_eq_true rfl⟩ (Nat.le_of_ble_eq_true rfl) (Nat.le_of_ble_eq_true rfl) (fun ws H9 locs9 ls9 hJ9 => ?_) 9 0 _ _ _ _ _ _ _ _ _ _ rfl hp _ _ hJ ls (lv_sub hl [3, 2, 1, 0] rfl)
  refine va_forget (fun q hq => ?_) ?_
  · have h9 : gA G q.base := hJ9.2.2.2.2.2 q hq
    rw [hgA, hAe] at h9
    exact h9
  refine W.widen (k := 709312) (n := 6973533) (Nat.le_of_ble_eq_true rfl) (Nat.le_of_ble_eq_true rfl) ?_
  exact hend _ _
