section ARRS
variable {p : Program} {l : Launch} {e : Env} {R : Room} {s : State} {m : MethodId} {args : Array Value} {below : List Frame} {meth : Method} {c : Code} {H : Heap} {locs : List Loc} {cells slots : Nat} {Q : State → Prop}
variable {cc : ByteArray} {pc nL : Nat} {ls : Array Slot} {rest : List Value} {G : Gt} {σ : St} {own : String}
theorem vp_nI {j n : Nat} (h : j < n) (hn : n < 2 ^ 31) : vp_in (nI j) n := vp_in_nI h hn
theorem a_SA (S : CallFix p m c cc nL s args AL own) (hI : Iv G σ s H locs) {j : Nat} (hj : j < 5) (hdg : decode cc pc = .ok (.aaload, 1)) (kk : W p l e R s m args below meth c H locs cells slots Q (F0 m (pc + 1) ls (.ref (gB G (3 + j)) :: rest))) : W p l e R s m args below meth c H locs cells slots Q (F0 m pc ls (.int (nI j) :: .ref (gB G 1) :: rest)) := by
  refine va_aldq S.1 S.2.1 hI.K hI.2.1 1 0 (wl_at G σ (by decide)) rfl (vp_nI hj (by omega)) hdg ?_
  rw [nI_clamp (by omega)]
  exact kk
theorem a_PA (S : CallFix p m c cc nL s args AL own) (hI : Iv G σ s H locs) {j : Nat} (hj : j < 20) (hdg : decode cc pc = .ok (.aaload, 1)) (kk : W p l e R s m args below meth c H locs cells slots Q (F0 m (pc + 1) ls (.ref (gB G (9 + j)) :: rest))) : W p l e R s m args below meth c H locs cells slots Q (F0 m pc ls (.int (nI j) :: .ref (gB G 2) :: rest)) := by
  refine va_aldq S.1 S.2.1 hI.K hI.2.1 2 1 (wl_at G σ (by decide)) rfl (vp_nI hj (by omega)) hdg ?_
  rw [nI_clamp (by omega)]
  exact kk
theorem n_SA (S : CallFix p m c cc nL s args AL own) (hI : Iv G σ s H locs) (hdg : decode cc pc = .ok (.arraylength, 1)) (kk : W p l e R s m args below meth c H locs cells slots Q (F0 m (pc + 1) ls (.int (nI 5) :: rest))) : W p l e R s m args below meth c H locs cells slots Q (F0 m pc ls (.ref (gB G 1) :: rest)) :=
  va_alen S.1 S.2.1 hI.K hI.2.1 1 0 (wl_at G σ (by decide)) rfl rfl hdg kk
theorem n_PA (S : CallFix p m c cc nL s args AL own) (hI : Iv G σ s H locs) (hdg : decode cc pc = .ok (.arraylength, 1)) (kk : W p l e R s m args below meth c H locs cells slots Q (F0 m (pc + 1) ls (.int (nI 20) :: rest))) : W p l e R s m args below meth c H locs cells slots Q (F0 m pc ls (.ref (gB G 2) :: rest)) :=
  va_alen S.1 S.2.1 hI.K hI.2.1 2 1 (wl_at G σ (by decide)) rfl rfl hdg kk
/-! references side by side -/
theorem gE_inj (hI : Iv G σ s H locs) {i j : Nat} (hi : i < 6) (hj : j < 6) : gE G i = gE G j ↔ i = j := ⟨hI.1.1.2.2 i j hi hj, fun h => by rw [h]⟩
theorem gB_inj (hI : Iv G σ s H locs) {i j : Nat} (hi : i < 30) (hj : j < 30) : gB G i = gB G j ↔ i = j := ⟨hI.1.1.1 i j hi hj, fun h => by rw [h]⟩
theorem ac_eq (S : CallFix p m c cc nL s args AL own) {a b : Nat} {off : Int} {tgt : Nat} (hdg : decode cc pc = .ok (.if_acmp .eq off, 3)) (ht : (pc : Int) + off = (tgt : Int)) (kt : a = b → W p l e R s m args below meth c H locs cells slots Q (F0 m tgt ls rest)) (kf : ¬ a = b → W p l e R s m args below meth c H locs cells slots Q (F0 m (pc + 3) ls rest)) : W p l e R s m args below meth c H locs cells slots Q (F0 m pc ls (.ref b :: .ref a :: rest)) :=
  lv_acmp_eq (rx := some a) (ry := some b) S.1 S.2.1 hdg ht (fun h => kt (Option.some.inj h)) (fun h => kf (fun q => h (by rw [q])))
theorem ac_ne (S : CallFix p m c cc nL s args AL own) {a b : Nat} {off : Int} {tgt : Nat} (hdg : decode cc pc = .ok (.if_acmp .ne off, 3)) (ht : (pc : Int) + off = (tgt : Int)) (kt : ¬ a = b → W p l e R s m args below meth c H locs cells slots Q (F0 m tgt ls rest)) (kf : a = b → W p l e R s m args below meth c H locs cells slots Q (F0 m (pc + 3) ls rest)) : W p l e R s m args below meth c H locs cells slots Q (F0 m pc ls (.ref b :: .ref a :: rest)) :=
  lv_acmp_ne (rx := some a) (ry := some b) S.1 S.2.1 hdg ht (fun h => kt (fun q => h (by rw [q]))) (fun h => kf (Option.some.inj h))
/-- stages side by side -/
theorem ag_eq (S : CallFix p m c cc nL s args AL own) (hI : Iv G σ s H locs) {a b : Nat} (ha : a < 6) (hb : b < 6) {off : Int} {tgt : Nat} (hdg : decode cc pc = .ok (.if_acmp .eq off, 3)) (ht : (pc : Int) + off = (tgt : Int)) (kt : a = b → W p l e R s m args below meth c H locs cells slots Q (F0 m tgt ls rest)) (kf : ¬ a = b → W p l e R s m args below meth c H locs cells slots Q (F0 m (pc + 3) ls rest)) : W p l e R s m args below meth c H locs cells slots Q (F0 m pc ls (.ref (gE G b) :: .ref (gE G a) :: rest)) :=
  ac_eq S hdg ht (fun h => kt ((gE_inj hI ha hb).mp h)) (fun h => kf (fun q => h ((gE_inj hI ha hb).mpr q)))
theorem ag_ne (S : CallFix p m c cc nL s args AL own) (hI : Iv G σ s H locs) {a b : Nat} (ha : a < 6) (hb : b < 6) {off : Int} {tgt : Nat} (hdg : decode cc pc = .ok (.if_acmp .ne off, 3)) (ht : (pc : Int) + off = (tgt : Int)) (kt : ¬ a = b → W p l e R s m args below meth c H locs cells slots Q (F0 m tgt ls rest)) (kf : a = b → W p l e R s m args below meth c H locs cells slots Q (F0 m (pc + 3) ls rest)) : W p l e R s m args below meth c H locs cells slots Q (F0 m pc ls (.ref (gE G b) :: .ref (gE G a) :: rest)) :=
  ac_ne S hdg ht (fun h => kt (fun q => h ((gE_inj hI ha hb).mpr q))) (fun h => kf ((gE_inj hI ha hb).mp h))
/-- a promise's shelf and a shelf -/
theorem shO_eq (hI : Iv G σ s H locs) {a b : Nat} (hb : b < 6) : shO G a = some (gB G (3 + b)) ↔ a = b := by
  unfold shO
  by_cases h : a < 6
  · rw [if_pos h]
    exact ⟨fun q => by have := (gB_inj hI (i := 3 + a) (j := 3 + b) (by omega) (by omega)).mp (Option.some.inj q); omega, fun q => by rw [q]⟩
  · rw [if_neg h]
    exact ⟨fun q => (by cases q), fun q => (by omega)⟩
theorem as_ne (S : CallFix p m c cc nL s args AL own) (hI : Iv G σ s H locs) {a b : Nat} (hb : b < 6) {off : Int} {tgt : Nat} (hdg : decode cc pc = .ok (.if_acmp .ne off, 3)) (ht : (pc : Int) + off = (tgt : Int)) (kt : ¬ a = b → W p l e R s m args below meth c H locs cells slots Q (F0 m tgt ls rest)) (kf : a = b → W p l e R s m args below meth c H locs cells slots Q (F0 m (pc + 3) ls rest)) : W p l e R s m args below meth c H locs cells slots Q (F0 m pc ls (.ref (gB G (3 + b)) :: va_rf (shO G a) :: rest)) :=
  lv_acmp_ne (rx := shO G a) (ry := some (gB G (3 + b))) S.1 S.2.1 hdg ht (fun h => kt (fun q => h ((shO_eq hI hb).mpr q))) (fun h => kf ((shO_eq hI hb).mp h))
/-- two shelves -/
theorem ass_ne (S : CallFix p m c cc nL s args AL own) (hI : Iv G σ s H locs) {a b : Nat} (ha : a < 6) (hb : b < 6) {off : Int} {tgt : Nat} (hdg : decode cc pc = .ok (.if_acmp .ne off, 3)) (ht : (pc : Int) + off = (tgt : Int)) (kt : ¬ a = b → W p l e R s m args below meth c H locs cells slots Q (F0 m tgt ls rest)) (kf : a = b → W p l e R s m args below meth c H locs cells slots Q (F0 m (pc + 3) ls rest)) : W p l e R s m args below meth c H locs cells slots Q (F0 m pc ls (.ref (gB G (3 + b)) :: .ref (gB G (3 + a)) :: rest)) :=
  ac_ne S hdg ht (fun h => kt (fun q => h (by rw [q]))) (fun h => kf (by have := (gB_inj hI (i := 3 + a) (j := 3 + b) (by omega) (by omega)).mp h; omega))
/-- is it on a shelf? -/
theorem nn_yes (S : CallFix p m c cc nL s args AL own) {a : Nat} {off : Int} {tgt : Nat} (hdg : decode cc pc = .ok (.ifnonnull off, 3)) (ht : (pc : Int) + off = (tgt : Int)) (kt : a < 6 → W p l e R s m args below meth c H locs cells slots Q (F0 m tgt ls rest)) (kf : ¬ a < 6 → W p l e R s m args below meth c H locs cells slots Q (F0 m (pc + 3) ls rest)) : W p l e R s m args below meth c H locs cells slots Q (F0 m pc ls (va_rf (shO G a) :: rest)) := by
  by_cases h : a < 6
  · rw [shO_s h]
    exact lv_ifnonnull S.1 S.2.1 hdg ht (kt h)
  · rw [shO, if_neg h]
    exact lv_ifnonnullN S.1 S.2.1 hdg (kf h)
theorem nn_no (S : CallFix p m c cc nL s args AL own) {a : Nat} {off : Int} {tgt : Nat} (hdg : decode cc pc = .ok (.ifnull off, 3)) (ht : (pc : Int) + off = (tgt : Int)) (kt : ¬ a < 6 → W p l e R s m args below meth c H locs cells slots Q (F0 m tgt ls rest)) (kf : a < 6 → W p l e R s m args below meth c H locs cells slots Q (F0 m (pc + 3) ls rest)) : W p l e R s m args below meth c H locs cells slots Q (F0 m pc ls (va_rf (shO G a) :: rest)) := by
  by_cases h : a < 6
  · rw [shO_s h]
    exact lv_ifnull S.1 S.2.1 hdg (kf h)
  · rw [shO, if_neg h]
    exact lv_ifnullN S.1 S.2.1 hdg ht (kt h)
end ARRS
