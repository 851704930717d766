abbrev Qd (G : Gt) (post : UInt64 → St → Prop) := va_Qd post (We G) (gA G)
section MEAN
variable {p : Program} {l : Launch} {e : Env} {R : Room} {s : State} {m : MethodId} {args : Array Value} {below : List Frame} {meth : Method} {c : Code} {H : Heap} {locs : List Loc} {cells slots mc ms : Nat} {Q : State → Prop}
variable {cc : ByteArray} {pc nL : Nat} {ls : Array Slot} {rest : List Value} {G : Gt} {σ : St} {own : String}
theorem xt_d {v : UInt64} {σ' : St} {post : UInt64 → St → Prop} (S : CallFix p m c cc nL s args AL own) (hI : Iv G σ' s H locs) (hr : meth.sig.returnType = some .double) (hlk : meth.locks = false) (hp : post v σ') (hc : cells ≤ mc) (hs : slots ≤ ms) (hdg : decode cc pc = .ok (.dreturn, 1)) :
    W p l e R s m args below meth c H locs cells slots (MQ below (Qd G post) args s mc ms (gA G)) (F0 m pc ls [.double v]) :=
  W.widen hc hs (W.dret S.1 S.2.1 hr (fun t ht _ => ⟨⟨v, σ', rfl, hp, by unfold We; rw [ht]; exact hI.2.1⟩, hI.2.2.F ht⟩) hI.2.2.2.2 hdg hlk)
theorem cl_d {post : UInt64 → St → Prop} {st0 : List Value} {a : Array Value} (hI : Iv G σ s H locs) (hr : va_Run p l e R s m args below meth c H locs cells slots mc ms (F0 m pc ls st0) rest (Qd G post a) (gA G))
    (kk : ∀ (r : UInt64) (σ' : St) (H1 : Heap) (locs1 : List Loc), post r σ' → Iv G σ' s H1 locs1 → W p l e R s m args below meth c H1 locs1 (cells + mc) (slots + ms) Q (F0 m (pc + 3) ls (.double r :: rest))) : W p l e R s m args below meth c H locs cells slots Q (F0 m pc ls st0) :=
  va_calld hr hI.2.2 (fun _ _ h => h) (fun _ h => h) (fun r u t H1 locs1 ht _ hp hb _ _ hS => kk r u H1 locs1 hp ⟨hI.1, by rw [← ht]; exact hb, hS⟩)
end MEAN
/-- a whole number by a whole number that isn't 0 is a number -/
def FLn : Prop := ∀ a b : Int32, ¬ b = 0 → vf_n64 (FP.ddiv (FP.i2d a) (FP.i2d b))
def mnS (σ : St) : Nat → Int32 := fun i => if (gP σ i).2.1 < 6 then (gP σ i).2.2.2.2.2 else 0
def mnC (σ : St) : Nat → Int32 := fun i => if (gP σ i).2.1 < 6 then 1 else 0
def meanF (σ : St) : UInt64 := if sumN (mnC σ) 20 = 0 then FP.dconst0 else FP.ddiv (FP.i2d (sumN (mnS σ) 20)) (FP.i2d (sumN (mnC σ) 20))
set_option maxRecDepth 100000 in
set_option maxHeartbeats 4000000 in
theorem c_meanHeat (l : Launch) (G : Gt) (σ : St) (hfl : FLn) : Ct l G yX3_meanHeat cX3_meanHeat 7 (some .double) 2 0 0 [.ref (gB G 0)] σ (Qd G (fun r σ' => r = meanF σ ∧ σ' = σ)) := by
  refine mt_intro (by decide +kernel) (Nat.le_of_ble_eq_true rfl) ?_
  intro p e s m below meth c S hr hlk hnm hI ls hl
  have hl : lv_has ls 7 [(0, .ref (gB G 0))] := hl
  have loop : ∀ (n : Nat) (k : Nat), k + n = 20 → ∀ (H : Heap) (locs : List Loc), Iv G σ s H locs → ∀ ls : Array Slot, lv_has ls 7 [(0, .ref (gB G 0)), (1, .int (sumN (mnS σ) k)), (2, .int (sumN (mnC σ) k)), (3, .ref (gB G 2)), (4, .int (nI 20)), (5, .int (nI k))] → W p l e (rm 2 0 0) s m ([.ref (gB G 0)] : List Value).toArray below meth c H locs 0 0 (MQ below (Qd G (fun r σ' => r = meanF σ ∧ σ' = σ)) ([.ref (gB G 0)] : List Value).toArray s 0 0 (gA G)) (F0 m 16 ls []) := by
    intro n
    induction n with
    | zero =>
      intro k hk0 H locs hI ls hl
      obtain rfl : k = 20 := by omega
      refine lv_iload S.1 S.2.1 dX3_meanHeat_16 (lv_at hl 5 rfl) ?_
      refine lv_iload S.1 S.2.1 dX3_meanHeat_18 (lv_at hl 4 rfl) ?_
      refine lv_icmp_ge (tgt := 54) S.1 S.2.1 dX3_meanHeat_20 (by decide) (fun cz_20 => ?_) (fun c9 => absurd (nI_le (Nat.le_refl 20) (by omega)) c9)
      refine lv_iload_n S.1 S.2.1 dX3_meanHeat_54 rfl (lv_at hl 2 rfl) ?_
      refine lv_if_ne (tgt := 62) S.1 S.2.1 dX3_meanHeat_55 (by decide) (fun cz_55 => ?_) (fun cz_55 => ?_)
      · refine lv_iload_n S.1 S.2.1 dX3_meanHeat_62 rfl (lv_at hl 1 rfl) ?_
        refine lv_i2d S.1 S.2.1 dX3_meanHeat_63 ?_
        refine lv_iload_n S.1 S.2.1 dX3_meanHeat_64 rfl (lv_at hl 2 rfl) ?_
        refine lv_i2d S.1 S.2.1 dX3_meanHeat_65 ?_
        refine lv_ddiv S.1 S.2.1 dX3_meanHeat_66 (hfl _ _ cz_55) ?_
        exact xt_d S hI hr hlk (⟨(if_neg cz_55).symm, rfl⟩) (by decide) (by decide) dX3_meanHeat_67
      · refine lv_dconst0 S.1 S.2.1 dX3_meanHeat_58 ?_
        refine lv_goto (tgt := 67) S.1 S.2.1 dX3_meanHeat_59 (by decide) ?_
        exact xt_d S hI hr hlk (⟨(if_pos cz_55).symm, rfl⟩) (by decide) (by decide) dX3_meanHeat_67
    | succ n ih =>
      intro k hk0 H locs hI ls hl
      have hk2 : k < 20 := by omega
      refine lv_iload S.1 S.2.1 dX3_meanHeat_16 (lv_at hl 5 rfl) ?_
      refine lv_iload S.1 S.2.1 dX3_meanHeat_18 (lv_at hl 4 rfl) ?_
      refine lv_icmp_ge (tgt := 54) S.1 S.2.1 dX3_meanHeat_20 (by decide) (fun c9 => absurd c9 (nI_ge hk2 (by omega))) (fun cz_20 => ?_)
      refine lv_aload_n S.1 S.2.1 dX3_meanHeat_23 rfl (lv_at hl 3 rfl) ?_
      refine lv_iload S.1 S.2.1 dX3_meanHeat_24 (lv_at hl 5 rfl) ?_
      refine a_PA S hI hk2 dX3_meanHeat_26 ?_
      refine lv_astore (lv' := [(6, .ref (gB G (9 + k))), (0, .ref (gB G 0)), (1, .int (sumN (mnS σ) k)), (2, .int (sumN (mnC σ) k)), (3, .ref (gB G 2)), (4, .int (nI 20)), (5, .int (nI k))]) S.1 S.2.1 dX3_meanHeat_27 hl (by decide) rfl (fun ls hl => ?_)
      refine lv_aload S.1 S.2.1 dX3_meanHeat_29 (lv_at hl 0 rfl) ?_
      refine g_X3_P_shelf_r S hI (by omega) (pEta (gP σ k)) dX3_meanHeat_31 ?_
      refine nn_no S (tgt := 48) dX3_meanHeat_34 (by decide) (fun cz_34 => ?_) (fun cz_34 => ?_)
      · refine lv_iinc (v := (nI (k + 1))) (lv' := [(5, .int (nI (k + 1))), (6, .ref (gB G (9 + k))), (0, .ref (gB G 0)), (1, .int (sumN (mnS σ) k)), (2, .int (sumN (mnC σ) k)), (3, .ref (gB G 2)), (4, .int (nI 20))]) S.1 S.2.1 dX3_meanHeat_48 hl (k := 6) rfl (nI_1 k) (by decide) rfl (fun ls hl => ?_)
        refine lv_goto (tgt := 16) S.1 S.2.1 dX3_meanHeat_51 (by decide) ?_
        exact ih (k + 1) (by omega) _ _ hI ls (by rw [show sumN (mnS σ) (k + 1) = (sumN (mnS σ) k) from by simp [sumN_s, mnS, cz_34], show sumN (mnC σ) (k + 1) = (sumN (mnC σ) k) from by simp [sumN_s, mnC, cz_34]]; exact lv_sub hl [2, 3, 4, 5, 6, 0] rfl)
      · refine lv_iload_n S.1 S.2.1 dX3_meanHeat_37 rfl (lv_at hl 2 rfl) ?_
        refine lv_aload S.1 S.2.1 dX3_meanHeat_38 (lv_at hl 0 rfl) ?_
        refine g_X3_P_heat S hI (by omega) (pEta (gP σ k)) dX3_meanHeat_40 ?_
        refine lv_iadd S.1 S.2.1 dX3_meanHeat_43 ?_
        refine lv_istore_n (lv' := [(1, .int ((sumN (mnS σ) k) + (gP σ k).2.2.2.2.2)), (6, .ref (gB G (9 + k))), (0, .ref (gB G 0)), (2, .int (sumN (mnC σ) k)), (3, .ref (gB G 2)), (4, .int (nI 20)), (5, .int (nI k))]) S.1 S.2.1 dX3_meanHeat_44 rfl hl (by decide) rfl (fun ls hl => ?_)
        refine lv_iinc (v := ((sumN (mnC σ) k) + 1)) (lv' := [(2, .int ((sumN (mnC σ) k) + 1)), (1, .int ((sumN (mnS σ) k) + (gP σ k).2.2.2.2.2)), (6, .ref (gB G (9 + k))), (0, .ref (gB G 0)), (3, .ref (gB G 2)), (4, .int (nI 20)), (5, .int (nI k))]) S.1 S.2.1 dX3_meanHeat_45 hl (k := 3) rfl rfl (by decide) rfl (fun ls hl => ?_)
        refine lv_iinc (v := (nI (k + 1))) (lv' := [(5, .int (nI (k + 1))), (2, .int ((sumN (mnC σ) k) + 1)), (1, .int ((sumN (mnS σ) k) + (gP σ k).2.2.2.2.2)), (6, .ref (gB G (9 + k))), (0, .ref (gB G 0)), (3, .ref (gB G 2)), (4, .int (nI 20))]) S.1 S.2.1 dX3_meanHeat_48 hl (k := 6) rfl (nI_1 k) (by decide) rfl (fun ls hl => ?_)
        refine lv_goto (tgt := 16) S.1 S.2.1 dX3_meanHeat_51 (by decide) ?_
        exact ih (k + 1) (by omega) _ _ hI ls (by rw [show sumN (mnS σ) (k + 1) = ((sumN (mnS σ) k) + (gP σ k).2.2.2.2.2) from by simp [sumN_s, mnS, cz_34], show sumN (mnC σ) (k + 1) = ((sumN (mnC σ) k) + 1) from by simp [sumN_s, mnC, cz_34]]; exact lv_sub hl [4, 2, 1, 5, 6, 0] rfl)
  refine lv_iconst (v := 0) S.1 S.2.1 dX3_meanHeat_0 (by decide) ?_
  refine lv_istore_n (lv' := [(1, .int 0), (0, .ref (gB G 0))]) S.1 S.2.1 dX3_meanHeat_1 rfl hl (by decide) rfl (fun ls hl => ?_)
  refine lv_iconst (v := 0) S.1 S.2.1 dX3_meanHeat_2 (by decide) ?_
  refine lv_istore_n (lv' := [(2, .int 0), (1, .int 0), (0, .ref (gB G 0))]) S.1 S.2.1 dX3_meanHeat_3 rfl hl (by decide) rfl (fun ls hl => ?_)
  refine lv_aload_n S.1 S.2.1 dX3_meanHeat_4 rfl (lv_at hl 2 rfl) ?_
  refine g_X3_X_promises S hI dX3_meanHeat_5 ?_
  refine lv_astore_n (lv' := [(3, .ref (gB G 2)), (2, .int 0), (1, .int 0), (0, .ref (gB G 0))]) S.1 S.2.1 dX3_meanHeat_8 rfl hl (by decide) rfl (fun ls hl => ?_)
  refine lv_aload_n S.1 S.2.1 dX3_meanHeat_9 rfl (lv_at hl 0 rfl) ?_
  refine n_PA S hI dX3_meanHeat_10 ?_
  refine lv_istore (lv' := [(4, .int (nI 20)), (3, .ref (gB G 2)), (2, .int 0), (1, .int 0), (0, .ref (gB G 0))]) S.1 S.2.1 dX3_meanHeat_11 hl (by decide) rfl (fun ls hl => ?_)
  refine lv_iconst (v := (nI 0)) S.1 S.2.1 dX3_meanHeat_13 (by rfl) ?_
  refine lv_istore (lv' := [(5, .int (nI 0)), (4, .int (nI 20)), (3, .ref (gB G 2)), (2, .int 0), (1, .int 0), (0, .ref (gB G 0))]) S.1 S.2.1 dX3_meanHeat_14 hl (by decide) rfl (fun ls hl => ?_)
  exact loop 20 0 rfl _ _ hI ls (lv_sub hl [5, 4, 3, 2, 1, 0] rfl)
