def gB0 (q0 : Nat) (u : KX) (qm : Nat) (v : KM) (qo : Nat) : Nat → Nat
  | 0 => q0
  | 1 => u.2.1.1
  | 2 => u.2.1.2.1
  | 3 => qm
  | 4 => v.2.1
  | 5 => v.2.2.1
  | 6 => v.2.2.2.1
  | 7 => v.2.2.2.2
  | 8 => qo
  | k + 9 => if k < 5 then u.2.2.1 k else if k = 5 then u.2.1.2.2.1 else if k < 26 then u.2.2.2 (k - 6) else u.2.1.2.2.2
def gC0 (u : KX) (v : KM) (c8 : ClassId) : Nat → ClassId
  | 1 => u.1.1
  | 2 => u.1.2
  | 4 => v.1.1
  | 5 => v.1.2.1
  | 6 => v.1.2.2.1
  | 7 => v.1.2.2.2
  | _ => c8
abbrev G0 (D : va_G) (ge : Nat → Nat) (A : Nat → Prop) (q0 : Nat) (u : KX) (qm : Nat) (v : KM) (qo : Nat) (c8 : ClassId) : Gt := (D.1, D.2, gB0 q0 u qm v qo, gC0 u v c8, ge, A)
def sg0 : St := (((fun _ => (-18, -18)), (fun _ => (0, 6, 0, 0, 0, 0)), 0, 0, 0, 1), (0, 0, (fun _ => 0), (fun _ => 0), nwI 5, (fun _ => 0)), (fun _ => 0))
abbrev ouE (c8 : ClassId) : va_E := .inl (c8, 1, .inr (.inl (fun _ => 0)))
def W1 (e0 q0 : Nat) (u : KX) (qm : Nat) (v : KM) (qo : Nat) (c8 : ClassId) : va_W := (xl q0 e0 u.1.1 u.1.2 u.2.1.1 u.2.1.2.1 u.2.1.2.2.1 u.2.1.2.2.2 u.2.2.1 u.2.2.2 5 20 30 ++ ml qm v (nwI 5)) ++ [(qo, ouE c8)]
def pm (k : Nat) : Nat := if k < 3 then k else if k < 9 then k + 27 else if k < 14 then k - 4 else if k = 14 then 3 else if k < 35 then k - 5 else 4
theorem pm_inj : ∀ i, i < 36 → ∀ j, j < 36 → pm i = pm j → i = j := by decide +kernel
theorem vp_q_congr {cA : ClassId} {n : Nat} {f g : Nat → Option Nat} (h : ∀ i, i < n → f i = g i) : vp_cell cA (n, .inr (.inr (.inr (.inr f)))) = vp_cell cA (n, .inr (.inr (.inr (.inr g)))) := by
  rw [vp_cell_q, vp_cell_q]
  have e9 : (fun j : Fin n => va_rf (f j.val)) = (fun j : Fin n => va_rf (g j.val)) := funext fun j => by rw [h j.val j.isLt]
  unfold arrV
  rw [e9]
section W1S
variable {e0 q0 : Nat} {u : KX} {qm : Nat} {v : KM} {qo : Nat} {c8 : ClassId} {j : Nat}
theorem W1_x (h : j < 30) : (W1 e0 q0 u qm v qo c8)[j]? = some (xe q0 e0 u.1.1 u.1.2 u.2.1.1 u.2.1.2.1 u.2.1.2.2.1 u.2.1.2.2.2 u.2.2.1 u.2.2.2 5 20 j) := by
  unfold W1
  rw [List.getElem?_append_left (by rw [List.length_append, xl_len]; exact Nat.lt_of_lt_of_le h (Nat.le_add_right _ _)), List.getElem?_append_left (by rw [xl_len]; exact h), xl_at h]
theorem W1_m {x : Nat × va_E} (h : (ml qm v (nwI 5))[j]? = some x) : (W1 e0 q0 u qm v qo c8)[30 + j]? = some x := by
  have hj := (List.getElem?_eq_some_iff.mp h).1
  unfold W1
  rw [List.getElem?_append_left (by rw [List.length_append, xl_len]; exact Nat.add_lt_add_left hj _), List.getElem?_append_right (by rw [xl_len]; exact Nat.le_add_right _ _), xl_len, Nat.add_sub_cancel_left]
  exact h
theorem W1_o : (W1 e0 q0 u qm v qo c8)[35]? = some (qo, ouE c8) := by
  unfold W1
  exact app_r (by rw [List.length_append, xl_len]; rfl)
theorem W1_at {k : Nat} (h : k < 36) : ∃ z : va_E, (W1 e0 q0 u qm v qo c8)[pm k]? = some (gB0 q0 u qm v qo k, z) := by
  rcases (show k = 0 ∨ k = 1 ∨ k = 2 ∨ k = 3 ∨ k = 4 ∨ k = 5 ∨ k = 6 ∨ k = 7 ∨ k = 8 ∨ k = 9 ∨ k = 10 ∨ k = 11 ∨ k = 12 ∨ k = 13 ∨ k = 14 ∨ k = 15 ∨ k = 16 ∨ k = 17 ∨ k = 18 ∨ k = 19 ∨ k = 20 ∨ k = 21 ∨ k = 22 ∨ k = 23 ∨ k = 24 ∨ k = 25 ∨ k = 26 ∨ k = 27 ∨ k = 28 ∨ k = 29 ∨ k = 30 ∨ k = 31 ∨ k = 32 ∨ k = 33 ∨ k = 34 ∨ k = 35 by omega) with rfl | rfl | rfl | rfl | rfl | rfl | rfl | rfl | rfl | rfl | rfl | rfl | rfl | rfl | rfl | rfl | rfl | rfl | rfl | rfl | rfl | rfl | rfl | rfl | rfl | rfl | rfl | rfl | rfl | rfl | rfl | rfl | rfl | rfl | rfl | rfl
  · exact ⟨_, ((W1_x (j := 0) (by decide)).trans rfl)⟩
  · exact ⟨_, ((W1_x (j := 1) (by decide)).trans rfl)⟩
  · exact ⟨_, ((W1_x (j := 2) (by decide)).trans rfl)⟩
  · exact ⟨_, (W1_m (j := 0) rfl)⟩
  · exact ⟨_, (W1_m (j := 1) rfl)⟩
  · exact ⟨_, (W1_m (j := 2) rfl)⟩
  · exact ⟨_, (W1_m (j := 3) rfl)⟩
  · exact ⟨_, (W1_m (j := 4) rfl)⟩
  · exact ⟨_, W1_o⟩
  · exact ⟨_, ((W1_x (j := 5) (by decide)).trans rfl)⟩
  · exact ⟨_, ((W1_x (j := 6) (by decide)).trans rfl)⟩
  · exact ⟨_, ((W1_x (j := 7) (by decide)).trans rfl)⟩
  · exact ⟨_, ((W1_x (j := 8) (by decide)).trans rfl)⟩
  · exact ⟨_, ((W1_x (j := 9) (by decide)).trans rfl)⟩
  · exact ⟨_, ((W1_x (j := 3) (by decide)).trans rfl)⟩
  · exact ⟨_, ((W1_x (j := 10) (by decide)).trans rfl)⟩
  · exact ⟨_, ((W1_x (j := 11) (by decide)).trans rfl)⟩
  · exact ⟨_, ((W1_x (j := 12) (by decide)).trans rfl)⟩
  · exact ⟨_, ((W1_x (j := 13) (by decide)).trans rfl)⟩
  · exact ⟨_, ((W1_x (j := 14) (by decide)).trans rfl)⟩
  · exact ⟨_, ((W1_x (j := 15) (by decide)).trans rfl)⟩
  · exact ⟨_, ((W1_x (j := 16) (by decide)).trans rfl)⟩
  · exact ⟨_, ((W1_x (j := 17) (by decide)).trans rfl)⟩
  · exact ⟨_, ((W1_x (j := 18) (by decide)).trans rfl)⟩
  · exact ⟨_, ((W1_x (j := 19) (by decide)).trans rfl)⟩
  · exact ⟨_, ((W1_x (j := 20) (by decide)).trans rfl)⟩
  · exact ⟨_, ((W1_x (j := 21) (by decide)).trans rfl)⟩
  · exact ⟨_, ((W1_x (j := 22) (by decide)).trans rfl)⟩
  · exact ⟨_, ((W1_x (j := 23) (by decide)).trans rfl)⟩
  · exact ⟨_, ((W1_x (j := 24) (by decide)).trans rfl)⟩
  · exact ⟨_, ((W1_x (j := 25) (by decide)).trans rfl)⟩
  · exact ⟨_, ((W1_x (j := 26) (by decide)).trans rfl)⟩
  · exact ⟨_, ((W1_x (j := 27) (by decide)).trans rfl)⟩
  · exact ⟨_, ((W1_x (j := 28) (by decide)).trans rfl)⟩
  · exact ⟨_, ((W1_x (j := 29) (by decide)).trans rfl)⟩
  · exact ⟨_, ((W1_x (j := 4) (by decide)).trans rfl)⟩
set_option maxRecDepth 100000 in
theorem P0 {D : va_G} {ge : Nat → Nat} {A : Nat → Prop} {H : Heap} (he : ge 0 = e0) (hP : va_P D vwCl (W1 e0 q0 u qm v qo c8) H) : va_P (gD (G0 D ge A q0 u qm v qo c8)) vwCl (wl (G0 D ge A q0 u qm v qo c8) sg0) H := fun k x hk => by
  have h36 : k < 36 := by
    have h9 := (List.getElem?_eq_some_iff.mp hk).1
    rw [wl_len] at h9
    exact h9
  rw [wl_at _ _ h36] at hk
  cases hk
  subst he
  rcases (show k = 0 ∨ k = 1 ∨ k = 2 ∨ k = 3 ∨ k = 4 ∨ k = 5 ∨ k = 6 ∨ k = 7 ∨ k = 8 ∨ k = 9 ∨ k = 10 ∨ k = 11 ∨ k = 12 ∨ k = 13 ∨ k = 14 ∨ k = 15 ∨ k = 16 ∨ k = 17 ∨ k = 18 ∨ k = 19 ∨ k = 20 ∨ k = 21 ∨ k = 22 ∨ k = 23 ∨ k = 24 ∨ k = 25 ∨ k = 26 ∨ k = 27 ∨ k = 28 ∨ k = 29 ∨ k = 30 ∨ k = 31 ∨ k = 32 ∨ k = 33 ∨ k = 34 ∨ k = 35 by omega) with rfl | rfl | rfl | rfl | rfl | rfl | rfl | rfl | rfl | rfl | rfl | rfl | rfl | rfl | rfl | rfl | rfl | rfl | rfl | rfl | rfl | rfl | rfl | rfl | rfl | rfl | rfl | rfl | rfl | rfl | rfl | rfl | rfl | rfl | rfl | rfl
  · exact hP 0 _ ((W1_x (j := 0) (by decide)).trans rfl)
  · have h9 : H[u.2.1.1]? = some (vp_cell u.1.1 (5, .inr (.inr (.inr (.inr (fS u.2.2.1 5)))))) := hP 1 _ (W1_x (by decide))
    rw [vp_q_congr (g := fun i => some (gB0 q0 u qm v qo (9 + i))) (fun i hi => by
      rw [Nat.add_comm 9 i]
      show (if i < 5 then some (u.2.2.1 i) else none) = some (if i < 5 then u.2.2.1 i else _)
      rw [if_pos hi, if_pos hi])] at h9
    exact h9
  · have h9 : H[u.2.1.2.1]? = some (vp_cell u.1.2 (20, .inr (.inr (.inr (.inr (fS u.2.2.2 20)))))) := hP 2 _ (W1_x (by decide))
    rw [vp_q_congr (g := fun i => some (gB0 q0 u qm v qo (15 + i))) (fun i hi => by
      rw [show 15 + i = (6 + i) + 9 by omega]
      show (if i < 20 then some (u.2.2.2 i) else none) = some (if 6 + i < 5 then u.2.2.1 (6 + i) else if 6 + i = 5 then u.2.1.2.2.1 else if 6 + i < 26 then u.2.2.2 (6 + i - 6) else u.2.1.2.2.2)
      rw [if_pos hi, if_neg (by omega), if_neg (by omega), if_pos (by omega), Nat.add_sub_cancel_left])] at h9
    exact h9
  · exact hP 30 _ (W1_m (j := 0) rfl)
  · exact hP 31 _ (W1_m (j := 1) rfl)
  · exact hP 32 _ (W1_m (j := 2) rfl)
  · exact hP 33 _ (W1_m (j := 3) rfl)
  · exact hP 34 _ (W1_m (j := 4) rfl)
  · exact hP 35 _ W1_o
  · exact hP 5 _ ((W1_x (j := 5) (by decide)).trans rfl)
  · exact hP 6 _ ((W1_x (j := 6) (by decide)).trans rfl)
  · exact hP 7 _ ((W1_x (j := 7) (by decide)).trans rfl)
  · exact hP 8 _ ((W1_x (j := 8) (by decide)).trans rfl)
  · exact hP 9 _ ((W1_x (j := 9) (by decide)).trans rfl)
  · exact hP 3 _ ((W1_x (j := 3) (by decide)).trans rfl)
  · exact hP 10 _ ((W1_x (j := 10) (by decide)).trans rfl)
  · exact hP 11 _ ((W1_x (j := 11) (by decide)).trans rfl)
  · exact hP 12 _ ((W1_x (j := 12) (by decide)).trans rfl)
  · exact hP 13 _ ((W1_x (j := 13) (by decide)).trans rfl)
  · exact hP 14 _ ((W1_x (j := 14) (by decide)).trans rfl)
  · exact hP 15 _ ((W1_x (j := 15) (by decide)).trans rfl)
  · exact hP 16 _ ((W1_x (j := 16) (by decide)).trans rfl)
  · exact hP 17 _ ((W1_x (j := 17) (by decide)).trans rfl)
  · exact hP 18 _ ((W1_x (j := 18) (by decide)).trans rfl)
  · exact hP 19 _ ((W1_x (j := 19) (by decide)).trans rfl)
  · exact hP 20 _ ((W1_x (j := 20) (by decide)).trans rfl)
  · exact hP 21 _ ((W1_x (j := 21) (by decide)).trans rfl)
  · exact hP 22 _ ((W1_x (j := 22) (by decide)).trans rfl)
  · exact hP 23 _ ((W1_x (j := 23) (by decide)).trans rfl)
  · exact hP 24 _ ((W1_x (j := 24) (by decide)).trans rfl)
  · exact hP 25 _ ((W1_x (j := 25) (by decide)).trans rfl)
  · exact hP 26 _ ((W1_x (j := 26) (by decide)).trans rfl)
  · exact hP 27 _ ((W1_x (j := 27) (by decide)).trans rfl)
  · exact hP 28 _ ((W1_x (j := 28) (by decide)).trans rfl)
  · exact hP 29 _ ((W1_x (j := 29) (by decide)).trans rfl)
  · exact hP 4 _ ((W1_x (j := 4) (by decide)).trans rfl)
theorem D0i {A : Nat → Prop} (hD : va_D A (W1 e0 q0 u qm v qo c8)) : ∀ i k : Nat, i < 36 → k < 36 → gB0 q0 u qm v qo i = gB0 q0 u qm v qo k → i = k := fun i k hi hk h => by
  obtain ⟨z1, h1⟩ := W1_at (e0 := e0) (u := u) (q0 := q0) (qm := qm) (v := v) (qo := qo) (c8 := c8) hi
  obtain ⟨z2, h2⟩ := W1_at (e0 := e0) (u := u) (q0 := q0) (qm := qm) (v := v) (qo := qo) (c8 := c8) hk
  exact pm_inj i hi k hk (hD.1 _ _ _ _ h1 h2 h)
theorem D0a {A : Nat → Prop} (hD : va_D A (W1 e0 q0 u qm v qo c8)) : ∀ i : Nat, i < 36 → A (gB0 q0 u qm v qo i) := fun i hi => by
  obtain ⟨z1, h1⟩ := W1_at (e0 := e0) (u := u) (q0 := q0) (qm := qm) (v := v) (qo := qo) (c8 := c8) hi
  exact hD.2 _ _ h1
end W1S
theorem rel0 : Rel sg0 := by
  refine ⟨0, 0, (fun _ => 0), (fun _ => 0), nwI 5, (fun _ => 0), rfl, rfl, ⟨by omega, ⟨rfl, rfl, rfl⟩, Or.inr rfl, fun k hk => ?_, fun q hq => absurd hq (Nat.not_lt_zero q), fun q _ _ => ⟨rfl, rfl⟩⟩⟩
  have hb : inB ((-18, -18) : Sh) := ⟨by decide, by decide, by decide, by decide⟩
  rcases (show k = 0 ∨ k = 1 ∨ k = 2 ∨ k = 3 ∨ k = 4 by omega) with rfl | rfl | rfl | rfl | rfl <;> exact ⟨rfl, rfl, hb⟩
theorem k_join2 {D : va_G} {A : Nat → Prop} {ws w1 : va_W} {q : Nat} {e1 : va_E} {H H1 : Heap} (hP : va_P D vwCl (ws ++ [(q, e1)]) H) (hD : va_D A (ws ++ [(q, e1)])) (hA : ∀ z : Nat, (z = q ∨ H.size ≤ z) → A z) (hk : ∀ z : Nat, z < H.size → ¬ (z = q ∨ H.size ≤ z) → H1[z]? = H[z]?) (h1 : va_P D vwCl w1 H1) (hD1 : va_D (fun z => z = q ∨ H.size ≤ z) w1) : va_P D vwCl (ws ++ w1) H1 ∧ va_D A (ws ++ w1) := by
  have hw : ∀ (k : Nat) (x : Nat × va_E), ws[k]? = some x → (ws ++ [(q, e1)])[k]? = some x := fun k x hx => app_l hx
  have hl : (ws ++ [(q, e1)])[ws.length]? = some (q, e1) := app_r rfl
  have hlt : ∀ (k : Nat) (x : Nat × va_E), ws[k]? = some x → x.1 < H.size := fun k x hx => (hP k x (hw k x hx)).lt
  have hne : ∀ (k : Nat) (x : Nat × va_E), ws[k]? = some x → ¬ (x.1 = q ∨ H.size ≤ x.1) := fun k x hx h9 => by
    rcases h9 with h9 | h9
    · have h5 := hD.1 k ws.length x (q, e1) (hw k x hx) hl h9
      have h6 := (List.getElem?_eq_some_iff.mp hx).1
      omega
    · exact absurd (hlt k x hx) (Nat.not_lt.mpr h9)
  have hP0 : va_P D vwCl ws H := fun k x hx => hP k x (hw k x hx)
  have hD0 : va_D A ws := ⟨fun i j x y hx hy e9 => hD.1 i j x y (hw i x hx) (hw j y hy) e9, fun k x hx => hD.2 k x (hw k x hx)⟩
  refine ⟨(hP0.kept (fun k x hx => hk x.1 (hlt k x hx) (hne k x hx))).app h1, hD0.app (hD1.weaken (fun _ _ _ h => hA _ h)) (fun i j x y hx hy e9 => hne i x hx ?_)⟩
  rw [e9]
  exact hD1.2 j y hy
