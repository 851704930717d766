section ARRS
variable {p : Program} {l : Launch} {e : Env} {R : Room} {s : State} {m : MethodId} {args : Array Value} {below : List Frame} {meth : Method} {c : Code} {H : Heap} {locs : List Loc} {cells slots : Nat} {Q : State → Prop}
variable {cc : ByteArray} {pc nL : Nat} {ls : Array Slot} {rest : List Value} {G : Gt} {σ : St} {own : String}
theorem vp_nI {j n : Nat} (h : j < n) (hn : n < 2 ^ 31) : vp_in (nI j) n := vp_in_nI h hn
theorem a_SA (S : CallFix p m c cc nL s args AL own) (hI : Iv G σ s H locs) {j : Nat} (hj : j < 5) (hdg : decode cc pc = .ok (.aaload, 1)) (kk : W p l e R s m args below meth c H locs cells slots Q (F0 m (pc + 1) ls (.ref (gB G (9 + j)) :: rest))) : W p l e R s m args below meth c H locs cells slots Q (F0 m pc ls (.int (nI j) :: .ref (gB G 1) :: rest)) := by
  refine va_aldq S.1 S.2.1 hI.K hI.2.1 1 0 (wl_at G σ (by decide)) rfl (vp_nI hj (by omega)) hdg ?_
  rw [nI_clamp (by omega)]
  exact kk
theorem a_PA (S : CallFix p m c cc nL s args AL own) (hI : Iv G σ s H locs) {j : Nat} (hj : j < 20) (hdg : decode cc pc = .ok (.aaload, 1)) (kk : W p l e R s m args below meth c H locs cells slots Q (F0 m (pc + 1) ls (.ref (gB G (15 + j)) :: rest))) : W p l e R s m args below meth c H locs cells slots Q (F0 m pc ls (.int (nI j) :: .ref (gB G 2) :: rest)) := by
  refine va_aldq S.1 S.2.1 hI.K hI.2.1 2 1 (wl_at G σ (by decide)) rfl (vp_nI hj (by omega)) hdg ?_
  rw [nI_clamp (by omega)]
  exact kk
theorem n_SA (S : CallFix p m c cc nL s args AL own) (hI : Iv G σ s H locs) (hdg : decode cc pc = .ok (.arraylength, 1)) (kk : W p l e R s m args below meth c H locs cells slots Q (F0 m (pc + 1) ls (.int (nI 5) :: rest))) : W p l e R s m args below meth c H locs cells slots Q (F0 m pc ls (.ref (gB G 1) :: rest)) :=
  va_alen S.1 S.2.1 hI.K hI.2.1 1 0 (wl_at G σ (by decide)) rfl rfl hdg kk
theorem n_PA (S : CallFix p m c cc nL s args AL own) (hI : Iv G σ s H locs) (hdg : decode cc pc = .ok (.arraylength, 1)) (kk : W p l e R s m args below meth c H locs cells slots Q (F0 m (pc + 1) ls (.int (nI 20) :: rest))) : W p l e R s m args below meth c H locs cells slots Q (F0 m pc ls (.ref (gB G 2) :: rest)) :=
  va_alen S.1 S.2.1 hI.K hI.2.1 2 1 (wl_at G σ (by decide)) rfl rfl hdg kk
/-! the reference's rows of ints -/
theorem a_mk (S : CallFix p m c cc nL s args AL own) (hI : Iv G σ s H locs) {th np : Int32} {mk lf nw kp : Nat → Int32} (hm : gM σ = (th, np, mk, lf, nw, kp)) {j : Nat} (hj : j < 20) (hdg : decode cc pc = .ok (.iaload, 1)) (kk : W p l e R s m args below meth c H locs cells slots Q (F0 m (pc + 1) ls (.int (mk j) :: rest))) : W p l e R s m args below meth c H locs cells slots Q (F0 m pc ls (.int (nI j) :: .ref (gB G 4) :: rest)) := by
  refine va_iald S.1 S.2.1 hI.K hI.2.1 4 2 (f := mk) (n := 20) (cA := gC G 4) (by rw [wl_at G σ (by decide), ent, show σ.2.1 = _ from hm]) rfl (vp_nI hj (by omega)) hdg ?_
  rw [nI_clamp (by omega)]
  exact kk
theorem a_lf (S : CallFix p m c cc nL s args AL own) (hI : Iv G σ s H locs) {th np : Int32} {mk lf nw kp : Nat → Int32} (hm : gM σ = (th, np, mk, lf, nw, kp)) {j : Nat} (hj : j < 20) (hdg : decode cc pc = .ok (.iaload, 1)) (kk : W p l e R s m args below meth c H locs cells slots Q (F0 m (pc + 1) ls (.int (lf j) :: rest))) : W p l e R s m args below meth c H locs cells slots Q (F0 m pc ls (.int (nI j) :: .ref (gB G 5) :: rest)) := by
  refine va_iald S.1 S.2.1 hI.K hI.2.1 5 3 (f := lf) (n := 20) (cA := gC G 5) (by rw [wl_at G σ (by decide), ent, show σ.2.1 = _ from hm]) rfl (vp_nI hj (by omega)) hdg ?_
  rw [nI_clamp (by omega)]
  exact kk
theorem a_nw (S : CallFix p m c cc nL s args AL own) (hI : Iv G σ s H locs) {th np : Int32} {mk lf nw kp : Nat → Int32} (hm : gM σ = (th, np, mk, lf, nw, kp)) {j : Nat} (hj : j < 113) (hdg : decode cc pc = .ok (.iaload, 1)) (kk : W p l e R s m args below meth c H locs cells slots Q (F0 m (pc + 1) ls (.int (nw j) :: rest))) : W p l e R s m args below meth c H locs cells slots Q (F0 m pc ls (.int (nI j) :: .ref (gB G 6) :: rest)) := by
  refine va_iald S.1 S.2.1 hI.K hI.2.1 6 4 (f := nw) (n := 113) (cA := gC G 6) (by rw [wl_at G σ (by decide), ent, show σ.2.1 = _ from hm]) rfl (vp_nI hj (by omega)) hdg ?_
  rw [nI_clamp (by omega)]
  exact kk
theorem k_ne (k : Nat) {P : Nat → Prop} (h : (List.range 9).all (fun j => decide (j = k) || true) = true) (h0 : k ≠ 0 → P 0) (h1 : k ≠ 1 → P 1) (h2 : k ≠ 2 → P 2) (h3 : k ≠ 3 → P 3) (h4 : k ≠ 4 → P 4) (h5 : k ≠ 5 → P 5) (h6 : k ≠ 6 → P 6) (h7 : k ≠ 7 → P 7) (h8 : k ≠ 8 → P 8) : ∀ j, j < 9 → j ≠ k → P j := by
  intro j hj hne
  rcases (show j = 0 ∨ j = 1 ∨ j = 2 ∨ j = 3 ∨ j = 4 ∨ j = 5 ∨ j = 6 ∨ j = 7 ∨ j = 8 by omega) with rfl | rfl | rfl | rfl | rfl | rfl | rfl | rfl | rfl
  · exact h0 (Ne.symm hne)
  · exact h1 (Ne.symm hne)
  · exact h2 (Ne.symm hne)
  · exact h3 (Ne.symm hne)
  · exact h4 (Ne.symm hne)
  · exact h5 (Ne.symm hne)
  · exact h6 (Ne.symm hne)
  · exact h7 (Ne.symm hne)
  · exact h8 (Ne.symm hne)
/-- a cell of the reference, or out: the world behind a store -/
theorem setM_k (G : Gt) (σ : St) (y : Km) (k : Nat) (hk : k = 3 ∨ k = 4 ∨ k = 5 ∨ k = 6 ∨ k = 7) (ho : ∀ j, 3 ≤ j → j < 8 → j ≠ k → ent G (setM σ y) j = ent G σ j) : (wl G σ).set k (gB G k, ent G (setM σ y) k) = wl G (setM σ y) := by
  refine set_k G σ (setM σ y) (by omega) rfl rfl rfl (fun j hj hne => ?_)
  rcases (show j = 0 ∨ j = 1 ∨ j = 2 ∨ j = 8 ∨ (3 ≤ j ∧ j < 8) by omega) with rfl | rfl | rfl | rfl | h
  · rfl
  · rfl
  · rfl
  · rfl
  · exact ho j h.1 h.2 hne
theorem s_mk (S : CallFix p m c cc nL s args AL own) (hI : Iv G σ s H locs) {th np : Int32} {mk lf nw kp : Nat → Int32} (hm : gM σ = (th, np, mk, lf, nw, kp)) {j : Nat} (hj : j < 20) {v : Int32} (hdg : decode cc pc = .ok (.iastore, 1)) (kk : ∀ (σ' : St) (H1 : Heap) (locs1 : List Loc), σ' = setM σ (th, np, va_up mk j v, lf, nw, kp) → gM σ' = (th, np, va_up mk j v, lf, nw, kp) → Iv G σ' s H1 locs1 → W p l e R s m args below meth c H1 locs1 cells slots Q (F0 m (pc + 1) ls rest)) : W p l e R s m args below meth c H locs cells slots Q (F0 m pc ls (.int v :: .int (nI j) :: .ref (gB G 4) :: rest)) := by
  refine va_iast S.1 S.2.1 hI.K hI.2.1 hI.D hI.2.2 4 2 (f := mk) (n := 20) (cA := gC G 4) (by rw [wl_at G σ (by decide), ent, show σ.2.1 = _ from hm]) rfl (vp_nI hj (by omega)) hdg (fun H1 locs1 hP _ hS => kk _ H1 locs1 rfl rfl ⟨hI.1, ?_, hS⟩)
  rw [nI_clamp (by omega)] at hP
  rw [← setM_k G σ _ 4 (by omega) (fun i h1 h2 h3 => by
    rcases (show i = 3 ∨ i = 5 ∨ i = 6 ∨ i = 7 by omega) with rfl | rfl | rfl | rfl <;> simp only [ent, setM, show σ.2.1 = _ from hm])]
  exact hP
theorem s_lf (S : CallFix p m c cc nL s args AL own) (hI : Iv G σ s H locs) {th np : Int32} {mk lf nw kp : Nat → Int32} (hm : gM σ = (th, np, mk, lf, nw, kp)) {j : Nat} (hj : j < 20) {v : Int32} (hdg : decode cc pc = .ok (.iastore, 1)) (kk : ∀ (σ' : St) (H1 : Heap) (locs1 : List Loc), σ' = setM σ (th, np, mk, va_up lf j v, nw, kp) → gM σ' = (th, np, mk, va_up lf j v, nw, kp) → Iv G σ' s H1 locs1 → W p l e R s m args below meth c H1 locs1 cells slots Q (F0 m (pc + 1) ls rest)) : W p l e R s m args below meth c H locs cells slots Q (F0 m pc ls (.int v :: .int (nI j) :: .ref (gB G 5) :: rest)) := by
  refine va_iast S.1 S.2.1 hI.K hI.2.1 hI.D hI.2.2 5 3 (f := lf) (n := 20) (cA := gC G 5) (by rw [wl_at G σ (by decide), ent, show σ.2.1 = _ from hm]) rfl (vp_nI hj (by omega)) hdg (fun H1 locs1 hP _ hS => kk _ H1 locs1 rfl rfl ⟨hI.1, ?_, hS⟩)
  rw [nI_clamp (by omega)] at hP
  rw [← setM_k G σ _ 5 (by omega) (fun i h1 h2 h3 => by
    rcases (show i = 3 ∨ i = 4 ∨ i = 6 ∨ i = 7 by omega) with rfl | rfl | rfl | rfl <;> simp only [ent, setM, show σ.2.1 = _ from hm])]
  exact hP
theorem s_nw (S : CallFix p m c cc nL s args AL own) (hI : Iv G σ s H locs) {th np : Int32} {mk lf nw kp : Nat → Int32} (hm : gM σ = (th, np, mk, lf, nw, kp)) {j : Nat} (hj : j < 113) {v : Int32} (hdg : decode cc pc = .ok (.iastore, 1)) (kk : ∀ (σ' : St) (H1 : Heap) (locs1 : List Loc), σ' = setM σ (th, np, mk, lf, va_up nw j v, kp) → gM σ' = (th, np, mk, lf, va_up nw j v, kp) → Iv G σ' s H1 locs1 → W p l e R s m args below meth c H1 locs1 cells slots Q (F0 m (pc + 1) ls rest)) : W p l e R s m args below meth c H locs cells slots Q (F0 m pc ls (.int v :: .int (nI j) :: .ref (gB G 6) :: rest)) := by
  refine va_iast S.1 S.2.1 hI.K hI.2.1 hI.D hI.2.2 6 4 (f := nw) (n := 113) (cA := gC G 6) (by rw [wl_at G σ (by decide), ent, show σ.2.1 = _ from hm]) rfl (vp_nI hj (by omega)) hdg (fun H1 locs1 hP _ hS => kk _ H1 locs1 rfl rfl ⟨hI.1, ?_, hS⟩)
  rw [nI_clamp (by omega)] at hP
  rw [← setM_k G σ _ 6 (by omega) (fun i h1 h2 h3 => by
    rcases (show i = 3 ∨ i = 4 ∨ i = 5 ∨ i = 7 by omega) with rfl | rfl | rfl | rfl <;> simp only [ent, setM, show σ.2.1 = _ from hm])]
  exact hP
/-! references side by side -/
theorem gE_inj (hI : Iv G σ s H locs) {i j : Nat} (hi : i < 6) (hj : j < 6) : gE G i = gE G j ↔ i = j := ⟨hI.1.1.2.2 i j hi hj, fun h => by rw [h]⟩
theorem gB_inj (hI : Iv G σ s H locs) {i j : Nat} (hi : i < 36) (hj : j < 36) : gB G i = gB G j ↔ i = j := ⟨hI.1.1.1 i j hi hj, fun h => by rw [h]⟩
theorem ac_eq (S : CallFix p m c cc nL s args AL own) {a b : Nat} {off : Int} {tgt : Nat} (hdg : decode cc pc = .ok (.if_acmp .eq off, 3)) (ht : (pc : Int) + off = (tgt : Int)) (kt : a = b → W p l e R s m args below meth c H locs cells slots Q (F0 m tgt ls rest)) (kf : ¬ a = b → W p l e R s m args below meth c H locs cells slots Q (F0 m (pc + 3) ls rest)) : W p l e R s m args below meth c H locs cells slots Q (F0 m pc ls (.ref b :: .ref a :: rest)) :=
  lv_acmp_eq (rx := some a) (ry := some b) S.1 S.2.1 hdg ht (fun h => kt (Option.some.inj h)) (fun h => kf (fun q => h (by rw [q])))
theorem ac_ne (S : CallFix p m c cc nL s args AL own) {a b : Nat} {off : Int} {tgt : Nat} (hdg : decode cc pc = .ok (.if_acmp .ne off, 3)) (ht : (pc : Int) + off = (tgt : Int)) (kt : ¬ a = b → W p l e R s m args below meth c H locs cells slots Q (F0 m tgt ls rest)) (kf : a = b → W p l e R s m args below meth c H locs cells slots Q (F0 m (pc + 3) ls rest)) : W p l e R s m args below meth c H locs cells slots Q (F0 m pc ls (.ref b :: .ref a :: rest)) :=
  lv_acmp_ne (rx := some a) (ry := some b) S.1 S.2.1 hdg ht (fun h => kt (fun q => h (by rw [q]))) (fun h => kf (Option.some.inj h))
/-- stages side by side -/
theorem ag_eq (S : CallFix p m c cc nL s args AL own) (hI : Iv G σ s H locs) {a b : Nat} (ha : a < 6) (hb : b < 6) {off : Int} {tgt : Nat} (hdg : decode cc pc = .ok (.if_acmp .eq off, 3)) (ht : (pc : Int) + off = (tgt : Int)) (kt : a = b → W p l e R s m args below meth c H locs cells slots Q (F0 m tgt ls rest)) (kf : ¬ a = b → W p l e R s m args below meth c H locs cells slots Q (F0 m (pc + 3) ls rest)) : W p l e R s m args below meth c H locs cells slots Q (F0 m pc ls (.ref (gE G b) :: .ref (gE G a) :: rest)) :=
  ac_eq S hdg ht (fun h => kt ((gE_inj hI ha hb).mp h)) (fun h => kf (fun q => h ((gE_inj hI ha hb).mpr q)))
theorem ag_ne (S : CallFix p m c cc nL s args AL own) (hI : Iv G σ s H locs) {a b : Nat} (ha : a < 6) (hb : b < 6) {off : Int} {tgt : Nat} (hdg : decode cc pc = .ok (.if_acmp .ne off, 3)) (ht : (pc : Int) + off = (tgt : Int)) (kt : ¬ a = b → W p l e R s m args below meth c H locs cells slots Q (F0 m tgt ls rest)) (kf : a = b → W p l e R s m args below meth c H locs cells slots Q (F0 m (pc + 3) ls rest)) : W p l e R s m args below meth c H locs cells slots Q (F0 m pc ls (.ref (gE G b) :: .ref (gE G a) :: rest)) :=
  ac_ne S hdg ht (fun h => kt (fun q => h ((gE_inj hI ha hb).mpr q))) (fun h => kf ((gE_inj hI ha hb).mp h))
/-- a promise's shelf and a shelf -/
theorem shO_eq (hI : Iv G σ s H locs) {a b : Nat} (hb : b < 6) : shO G a = some (gB G (9 + b)) ↔ a = b := by
  unfold shO
  by_cases h : a < 6
  · rw [if_pos h]
    exact ⟨fun q => by have := (gB_inj hI (i := 9 + a) (j := 9 + b) (by omega) (by omega)).mp (Option.some.inj q); omega, fun q => by rw [q]⟩
  · rw [if_neg h]
    exact ⟨fun q => (by cases q), fun q => (by omega)⟩
theorem as_ne (S : CallFix p m c cc nL s args AL own) (hI : Iv G σ s H locs) {a b : Nat} (hb : b < 6) {off : Int} {tgt : Nat} (hdg : decode cc pc = .ok (.if_acmp .ne off, 3)) (ht : (pc : Int) + off = (tgt : Int)) (kt : ¬ a = b → W p l e R s m args below meth c H locs cells slots Q (F0 m tgt ls rest)) (kf : a = b → W p l e R s m args below meth c H locs cells slots Q (F0 m (pc + 3) ls rest)) : W p l e R s m args below meth c H locs cells slots Q (F0 m pc ls (.ref (gB G (9 + b)) :: va_rf (shO G a) :: rest)) :=
  lv_acmp_ne (rx := shO G a) (ry := some (gB G (9 + b))) S.1 S.2.1 hdg ht (fun h => kt (fun q => h ((shO_eq hI hb).mpr q))) (fun h => kf ((shO_eq hI hb).mp h))
/-- two shelves -/
theorem ass_ne (S : CallFix p m c cc nL s args AL own) (hI : Iv G σ s H locs) {a b : Nat} (ha : a < 6) (hb : b < 6) {off : Int} {tgt : Nat} (hdg : decode cc pc = .ok (.if_acmp .ne off, 3)) (ht : (pc : Int) + off = (tgt : Int)) (kt : ¬ a = b → W p l e R s m args below meth c H locs cells slots Q (F0 m tgt ls rest)) (kf : a = b → W p l e R s m args below meth c H locs cells slots Q (F0 m (pc + 3) ls rest)) : W p l e R s m args below meth c H locs cells slots Q (F0 m pc ls (.ref (gB G (9 + b)) :: .ref (gB G (9 + a)) :: rest)) :=
  ac_ne S hdg ht (fun h => kt (fun q => h (by rw [q]))) (fun h => kf (by have := (gB_inj hI (i := 9 + a) (j := 9 + b) (by omega) (by omega)).mp h; omega))
/-- is it on a shelf? -/
theorem nn_yes (S : CallFix p m c cc nL s args AL own) {a : Nat} {off : Int} {tgt : Nat} (hdg : decode cc pc = .ok (.ifnonnull off, 3)) (ht : (pc : Int) + off = (tgt : Int)) (kt : a < 6 → W p l e R s m args below meth c H locs cells slots Q (F0 m tgt ls rest)) (kf : ¬ a < 6 → W p l e R s m args below meth c H locs cells slots Q (F0 m (pc + 3) ls rest)) : W p l e R s m args below meth c H locs cells slots Q (F0 m pc ls (va_rf (shO G a) :: rest)) := by
  by_cases h : a < 6
  · rw [shO_s h]
    exact lv_ifnonnull S.1 S.2.1 hdg ht (kt h)
  · rw [shO, if_neg h]
    exact lv_ifnonnullN S.1 S.2.1 hdg (kf h)
theorem nn_no (S : CallFix p m c cc nL s args AL own) {a : Nat} {off : Int} {tgt : Nat} (hdg : decode cc pc = .ok (.ifnull off, 3)) (ht : (pc : Int) + off = (tgt : Int)) (kt : ¬ a < 6 → W p l e R s m args below meth c H locs cells slots Q (F0 m tgt ls rest)) (kf : a < 6 → W p l e R s m args below meth c H locs cells slots Q (F0 m (pc + 3) ls rest)) : W p l e R s m args below meth c H locs cells slots Q (F0 m pc ls (va_rf (shO G a) :: rest)) := by
  by_cases h : a < 6
  · rw [shO_s h]
    exact lv_ifnull S.1 S.2.1 hdg (kf h)
  · rw [shO, if_neg h]
    exact lv_ifnullN S.1 S.2.1 hdg ht (kt h)
end ARRS
