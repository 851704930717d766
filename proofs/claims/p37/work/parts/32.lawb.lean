/-- a row holds F, as far as k -/
def upTo (F : Nat → Int32) (k : Nat) (f : Nat → Int32) : Prop := ∀ i, i < k → f i = F i
theorem upTo.up {F : Nat → Int32} {k : Nat} {f : Nat → Int32} (h : upTo F k f) : upTo F (k + 1) (va_up f k (F k)) := fun i hi => by
  by_cases e9 : i = k
  · subst e9; rw [va_up_self]
  · rw [va_up_ne _ _ e9]; exact h i (by omega)
theorem upTo.zero {F f : Nat → Int32} : upTo F 0 f := fun i hi => absurd hi (Nat.not_lt_zero i)
def hSf (α : St) : Nat → Int32 := fun k => (gS α k).2
def hTf (α : St) : Nat → Int32 := fun k => (gP α k).2.2.2.2.2
def aGf (α : St) : Nat → Int32 := fun k => (gP α k).2.2.2.2.1
def lYf (α : St) : Nat → Int32 := fun k => if (gP α k).2.1 < 5 then nI (gP α k).2.1 else -1
def zFf (α : St) : Nat → Int32 := fun k => if (gP α k).1 = 2 then 1 else 0
theorem zFf_n (α : St) (k : Nat) : vp_nar .boolean (zFf α k) = zFf α k := by unfold zFf; split <;> rfl
theorem pos_ne {d : Int32} (h : 0 < d) : ¬ d = 0 := fun q => by rw [q] at h; exact absurd h Int32.lt_irrefl
theorem neg_ne {d : Int32} (h : d < 0) : ¬ d = 0 := fun q => by rw [q] at h; exact absurd h Int32.lt_irrefl
theorem one_ne {d : Int32} (h : 1 ≤ d) : ¬ d = 0 := fun q => by rw [q] at h; exact absurd h (by decide)
theorem mone_ne {d : Int32} (h : d ≤ -1) : ¬ d = 0 := fun q => by rw [q] at h; exact absurd h (by decide)
theorem young_ne {lf ag : Nat} (h : nI ag + 1 < nI lf) (ha : ag < lf) (hl : lf ≤ 100) : ¬ nI lf - (nI ag + 1) = 0 := by
  rw [nI_1] at h ⊢
  have h2 : ag + 1 < lf := by
    rcases Nat.lt_or_ge (ag + 1) lf with q | q
    · exact q
    · exact absurd h (Int32.not_lt.mpr (nI_le q (by omega)))
  rw [nI_sub' (by omega)]
  exact nI_nz9 (by omega) (by omega)
theorem same_ne {lf ag : Nat} (ha : ag < lf) (hl : lf ≤ 100) : ¬ nI lf - nI ag = 0 := by
  rw [nI_sub' (by omega)]
  exact nI_nz9 (by omega) (by omega)
theorem old_0 {lf ag : Nat} (h : ¬ nI ag + 1 < nI lf) (ha : ag < lf) (hl : lf ≤ 100) : nI lf - (nI ag + 1) = 0 := by
  rw [(old_eq ha hl).mpr h, Int32.sub_self]
section LAWS
variable {p : Program} {l : Launch} {e : Env} {R : Room} {s : State} {m : MethodId} {args : Array Value} {below : List Frame} {meth : Method} {c : Code} {H : Heap} {locs : List Loc} {cells slots : Nat} {Q : State → Prop} {ls : Array Slot} {G : Gt} {q0 q1 q2 tt : Nat} {x4 : Int32}
set_option maxRecDepth 100000 in
set_option maxHeartbeats 4000000 in
theorem lg_h1 (S : CallFix p m c cL_law 31 s args AL RL) (hF9 : 12 ≤ R.frames ∧ 448 ≤ R.locals) (hC9 : cells + 5 ≤ R.cells) (hS9 : slots + 85 ≤ R.slots) {α : St} {q3 : Nat} {aR : Nat → Nat} {hh pw ar : Int32} {st ht : Nat → Int32} {n : Nat} {row : Nat → Z7} {o9 hN jh : Nat} {F1 F2 F3 lf9 : Int32} (hp : Pct α (hh, pw, ar, st, ht, n, row)) (kk9 : ∀ (qa qb qc qd qe : Nat) (f1 f2 f3 f4 f5 : Nat → Int32), upTo (hSf α) 5 f1 → upTo (hTf α) n f2 → upTo (aGf α) n f3 → upTo (lYf α) n f4 → upTo (zFf α) n f5 → ∀ (H : Heap) (locs : List Loc), Jw G (fw G α ((q0, q1, q2, q3), aR) (hh, pw, ar, st, ht, n, row) [(qa, .inl (gC G 4, 5, .inl f1)), (qb, .inl (gC G 4, n, .inl f2)), (qc, .inl (gC G 4, n, .inl f3)), (qd, .inl (gC G 4, n, .inl f4)), (qe, .inl (gC G 6, n, .inl f5))]) s H locs → ∀ ls : Array Slot, lv_has ls 31 [(0, .ref (gE G 6)), (1, .ref (gB G 0)), (2, .ref q0), (3, .int (nI tt)), (7, .int (nI n)), (13, .int (nI o9)), (14, .int F1), (15, .int F2), (16, .int F3), (18, .int (nI hN)), (19, .int lf9), (20, .int (nI jh)), (21, .ref qa), (22, .ref qb), (23, .ref qc), (24, .ref qd), (25, .ref qe)] → W p l e R s m args below meth c H locs (cells + 5) (slots + 85) Q (F0 m 801 ls [])) (hJ : Jw G (fw G α ((q0, q1, q2, q3), aR) (hh, pw, ar, st, ht, n, row) []) s H locs) (hl : lv_has ls 31 [(0, .ref (gE G 6)), (1, .ref (gB G 0)), (2, .ref q0), (3, .int (nI tt)), (7, .int (nI n)), (13, .int (nI o9)), (14, .int F1), (15, .int F2), (16, .int F3), (18, .int (nI hN)), (19, .int lf9), (20, .int (nI jh))]) : W p l e R s m args below meth c H locs cells slots Q (F0 m 686 ls []) := by
  have hn : n ≤ 20 := hp.1.1
  have hok := hp.1.ok
  have hX := hp.1.gx
  have loop2 : ∀ (n9 k : Nat) (qa qb qc qd qe : Nat) (f1 f2 f3 f4 f5 : Nat → Int32), k + n9 = n → upTo (hSf α) 5 f1 → upTo (hTf α) k f2 → upTo (aGf α) k f3 → upTo (lYf α) k f4 → upTo (zFf α) k f5 → ∀ (H : Heap) (locs : List Loc), Jw G (fw G α ((q0, q1, q2, q3), aR) (hh, pw, ar, st, ht, n, row) [(qa, .inl (gC G 4, 5, .inl f1)), (qb, .inl (gC G 4, n, .inl f2)), (qc, .inl (gC G 4, n, .inl f3)), (qd, .inl (gC G 4, n, .inl f4)), (qe, .inl (gC G 6, n, .inl f5))]) s H locs → ∀ ls : Array Slot, lv_has ls 31 [(0, .ref (gE G 6)), (1, .ref (gB G 0)), (2, .ref q0), (3, .int (nI tt)), (7, .int (nI n)), (13, .int (nI o9)), (14, .int F1), (15, .int F2), (16, .int F3), (18, .int (nI hN)), (19, .int lf9), (20, .int (nI jh)), (21, .ref qa), (22, .ref qb), (23, .ref qc), (24, .ref qd), (25, .ref qe), (26, .int (nI k))] → W p l e R s m args below meth c H locs (cells + 5) (slots + 85) Q (F0 m 744 ls []) := by
    intro n9
    induction n9 with
    | zero =>
      intro k qa qb qc qd qe f1 f2 f3 f4 f5 hk0 u1 u2 u3 u4 u5 H locs hJ ls hl
      have hkn : k = n := by omega
      refine lv_iload S.1 S.2.1 dL_law_744 (lv_at hl 17 rfl) ?_
      refine lv_iload S.1 S.2.1 dL_law_746 (lv_at hl 4 rfl) ?_
      refine lv_icmp_ge (tgt := 801) S.1 S.2.1 dL_law_748 (by decide) (fun cz_748 => ?_) (fun c9 => absurd (nI_le (show n ≤ k by omega) (by omega)) c9)
      rw [hkn] at u2 u3 u4 u5
      exact kk9 qa qb qc qd qe f1 f2 f3 f4 f5 u1 u2 u3 u4 u5 _ _ hJ ls (lv_sub hl [0, 1, 2, 3, 4, 5, 6, 7, 8, 9, 10, 11, 12, 13, 14, 15, 16] rfl)
    | succ n9 ih =>
      intro k qa qb qc qd qe f1 f2 f3 f4 f5 hk0 u1 u2 u3 u4 u5 H locs hJ ls hl
      have hk2 : k < n := by omega
      refine lv_iload S.1 S.2.1 dL_law_744 (lv_at hl 17 rfl) ?_
      refine lv_iload S.1 S.2.1 dL_law_746 (lv_at hl 4 rfl) ?_
      refine lv_icmp_ge (tgt := 801) S.1 S.2.1 dL_law_748 (by decide) (fun c9 => absurd c9 (nI_ge hk2 (by omega))) (fun cz_748 => ?_)
      refine lv_aload S.1 S.2.1 dL_law_751 (lv_at hl 13 rfl) ?_
      refine lv_iload S.1 S.2.1 dL_law_753 (lv_at hl 17 rfl) ?_
      refine lv_aload_n S.1 S.2.1 dL_law_755 rfl (lv_at hl 1 rfl) ?_
      refine lv_iload S.1 S.2.1 dL_law_756 (lv_at hl 17 rfl) ?_
      refine cz_i hJ (rzV (As := [.int (nI k)]) (rest := [.int (nI k), .ref qb]) S hJ (c_heatOf l _ α hk2 hn hX) (cw_L_X3_heatOf S.2.2.2.2 ⟨by omega, by omega⟩) (rcX hJ.iv) rfl hl.1 (Nat.le_of_ble_eq_true rfl) dL_law_758 ⟨by omega, by omega⟩) (fun r1 σ1 H locs hq1 hJ => ?_)
      obtain ⟨hr1, hs1⟩ := hq1
      rw [hs1] at hJ
      rw [hr1]
      refine o_y S hJ 1 rfl (j := k) hk2 (by omega) dL_law_761 (fun H locs hJ => ?_)
      have hJ : Jw G (fw G α ((q0, q1, q2, q3), aR) (hh, pw, ar, st, ht, n, row) [(qa, .inl (gC G 4, 5, .inl f1)), (qb, .inl (gC G 4, n, .inl (va_up f2 k (hTf α k)))), (qc, .inl (gC G 4, n, .inl f3)), (qd, .inl (gC G 4, n, .inl f4)), (qe, .inl (gC G 6, n, .inl f5))]) s H locs := hJ
      refine lv_aload S.1 S.2.1 dL_law_762 (lv_at hl 14 rfl) ?_
      refine lv_iload S.1 S.2.1 dL_law_764 (lv_at hl 17 rfl) ?_
      refine lv_aload_n S.1 S.2.1 dL_law_766 rfl (lv_at hl 1 rfl) ?_
      refine lv_iload S.1 S.2.1 dL_law_767 (lv_at hl 17 rfl) ?_
      refine cz_i hJ (rzV (As := [.int (nI k)]) (rest := [.int (nI k), .ref qc]) S hJ (c_ageOf l _ α hk2 hn hX) (cw_L_X3_ageOf S.2.2.2.2 ⟨by omega, by omega⟩) (rcX hJ.iv) rfl hl.1 (Nat.le_of_ble_eq_true rfl) dL_law_769 ⟨by omega, by omega⟩) (fun r2 σ2 H locs hq2 hJ => ?_)
      obtain ⟨hr2, hs2⟩ := hq2
      rw [hs2] at hJ
      rw [hr2]
      refine o_y S hJ 2 rfl (j := k) hk2 (by omega) dL_law_772 (fun H locs hJ => ?_)
      have hJ : Jw G (fw G α ((q0, q1, q2, q3), aR) (hh, pw, ar, st, ht, n, row) [(qa, .inl (gC G 4, 5, .inl f1)), (qb, .inl (gC G 4, n, .inl (va_up f2 k (hTf α k)))), (qc, .inl (gC G 4, n, .inl (va_up f3 k (aGf α k)))), (qd, .inl (gC G 4, n, .inl f4)), (qe, .inl (gC G 6, n, .inl f5))]) s H locs := hJ
      refine lv_aload S.1 S.2.1 dL_law_773 (lv_at hl 15 rfl) ?_
      refine lv_iload S.1 S.2.1 dL_law_775 (lv_at hl 17 rfl) ?_
      refine lv_aload_n S.1 S.2.1 dL_law_777 rfl (lv_at hl 1 rfl) ?_
      refine lv_iload S.1 S.2.1 dL_law_778 (lv_at hl 17 rfl) ?_
      refine cz_i hJ (rzV (As := [.int (nI k)]) (rest := [.int (nI k), .ref qd]) S hJ (c_shelfOf l _ α hok hk2 hn hX) (cw_L_X3_shelfOf S.2.2.2.2 ⟨by omega, by omega⟩) (rcX hJ.iv) rfl hl.1 (Nat.le_of_ble_eq_true rfl) dL_law_780 ⟨by omega, by omega⟩) (fun r3 σ3 H locs hq3 hJ => ?_)
      obtain ⟨hr3, hs3⟩ := hq3
      rw [hs3] at hJ
      rw [hr3]
      refine o_y S hJ 3 rfl (j := k) hk2 (by omega) dL_law_783 (fun H locs hJ => ?_)
      have hJ : Jw G (fw G α ((q0, q1, q2, q3), aR) (hh, pw, ar, st, ht, n, row) [(qa, .inl (gC G 4, 5, .inl f1)), (qb, .inl (gC G 4, n, .inl (va_up f2 k (hTf α k)))), (qc, .inl (gC G 4, n, .inl (va_up f3 k (aGf α k)))), (qd, .inl (gC G 4, n, .inl (va_up f4 k (lYf α k)))), (qe, .inl (gC G 6, n, .inl f5))]) s H locs := hJ
      refine lv_aload S.1 S.2.1 dL_law_784 (lv_at hl 16 rfl) ?_
      refine lv_iload S.1 S.2.1 dL_law_786 (lv_at hl 17 rfl) ?_
      refine lv_aload_n S.1 S.2.1 dL_law_788 rfl (lv_at hl 1 rfl) ?_
      refine lv_iload S.1 S.2.1 dL_law_789 (lv_at hl 17 rfl) ?_
      refine cz_i hJ (rzV (As := [.int (nI k)]) (rest := [.int (nI k), .ref qe]) S hJ (c_isFrozen l _ α hok hk2 hn hX) (cw_L_X3_isFrozen S.2.2.2.2 ⟨by omega, by omega⟩) (rcX hJ.iv) rfl hl.1 (Nat.le_of_ble_eq_true rfl) dL_law_791 ⟨by omega, by omega⟩) (fun r4 σ4 H locs hq4 hJ => ?_)
      obtain ⟨hr4, hs4⟩ := hq4
      rw [hs4] at hJ
      rw [hr4]
      refine o_yz S hJ 4 rfl (j := k) hk2 (by omega) (zFf_n α k) dL_law_794 (fun H locs hJ => ?_)
      have hJ : Jw G (fw G α ((q0, q1, q2, q3), aR) (hh, pw, ar, st, ht, n, row) [(qa, .inl (gC G 4, 5, .inl f1)), (qb, .inl (gC G 4, n, .inl (va_up f2 k (hTf α k)))), (qc, .inl (gC G 4, n, .inl (va_up f3 k (aGf α k)))), (qd, .inl (gC G 4, n, .inl (va_up f4 k (lYf α k)))), (qe, .inl (gC G 6, n, .inl (va_up f5 k (zFf α k))))]) s H locs := hJ
      refine lv_iinc (v := (nI (k + 1))) (lv' := [(26, .int (nI (k + 1))), (0, .ref (gE G 6)), (1, .ref (gB G 0)), (2, .ref q0), (3, .int (nI tt)), (7, .int (nI n)), (13, .int (nI o9)), (14, .int F1), (15, .int F2), (16, .int F3), (18, .int (nI hN)), (19, .int lf9), (20, .int (nI jh)), (21, .ref qa), (22, .ref qb), (23, .ref qc), (24, .ref qd), (25, .ref qe)]) S.1 S.2.1 dL_law_795 hl (k := 17) rfl (nI_1 k) (by decide) rfl (fun ls hl => ?_)
      refine lv_goto (tgt := 744) S.1 S.2.1 dL_law_798 (by decide) ?_
      exact ih (k + 1) qa qb qc qd qe _ _ _ _ _ (by omega) u1 u2.up u3.up u4.up u5.up _ _ hJ ls (lv_sub hl [1, 2, 3, 4, 5, 6, 7, 8, 9, 10, 11, 12, 13, 14, 15, 16, 17, 0] rfl)
  have loop1 : ∀ (n9 k qa : Nat) (f1 : Nat → Int32), k + n9 = 5 → upTo (hSf α) k f1 → ∀ (H : Heap) (locs : List Loc), Jw G (fw G α ((q0, q1, q2, q3), aR) (hh, pw, ar, st, ht, n, row) [(qa, .inl (gC G 4, 5, .inl f1))]) s H locs → ∀ ls : Array Slot, lv_has ls 31 [(0, .ref (gE G 6)), (1, .ref (gB G 0)), (2, .ref q0), (3, .int (nI tt)), (7, .int (nI n)), (13, .int (nI o9)), (14, .int F1), (15, .int F2), (16, .int F3), (18, .int (nI hN)), (19, .int lf9), (20, .int (nI jh)), (21, .ref qa), (22, .int (nI k))] → W p l e R s m args below meth c H locs (cells + 1) (slots + 5) Q (F0 m 694 ls []) := by
    intro n9
    induction n9 with
    | zero =>
      intro k qa f1 hk0 u1 H locs hJ ls hl
      obtain rfl : k = 5 := by omega
      refine lv_iload S.1 S.2.1 dL_law_694 (lv_at hl 13 rfl) ?_
      refine lv_iconst (v := (nI 5)) S.1 S.2.1 dL_law_696 (by rfl) ?_
      refine lv_icmp_ge (tgt := 717) S.1 S.2.1 dL_law_697 (by decide) (fun cz_697 => ?_) (fun c9 => absurd (nI_le (a := 5) (b := 5) (Nat.le_refl 5) (by omega)) c9)
      refine lv_iload S.1 S.2.1 dL_law_717 (lv_at hl 4 rfl) ?_
      refine w_newi S hJ (N := n) (nI_pos (by omega)) (nI_clamp (by omega)) (by show n * 4 ≤ 536870912; omega) (by omega) (by omega) dL_law_719 (fun q5 H hJ => ?_)
      rw [fw_push] at hJ
      have hJ : Jw G (fw G α ((q0, q1, q2, q3), aR) (hh, pw, ar, st, ht, n, row) [(qa, .inl (gC G 4, 5, .inl f1)), (q5, .inl (gC G 4, n, .inl (fun _ => 0)))]) s H locs := hJ
      refine lv_astore (lv' := [(22, .ref q5), (0, .ref (gE G 6)), (1, .ref (gB G 0)), (2, .ref q0), (3, .int (nI tt)), (7, .int (nI n)), (13, .int (nI o9)), (14, .int F1), (15, .int F2), (16, .int F3), (18, .int (nI hN)), (19, .int lf9), (20, .int (nI jh)), (21, .ref qa)]) S.1 S.2.1 dL_law_721 hl (by decide) rfl (fun ls hl => ?_)
      refine lv_iload S.1 S.2.1 dL_law_723 (lv_at hl 5 rfl) ?_
      refine w_newi S hJ (N := n) (nI_pos (by omega)) (nI_clamp (by omega)) (by show n * 4 ≤ 536870912; omega) (by omega) (by omega) dL_law_725 (fun q6 H hJ => ?_)
      rw [fw_push] at hJ
      have hJ : Jw G (fw G α ((q0, q1, q2, q3), aR) (hh, pw, ar, st, ht, n, row) [(qa, .inl (gC G 4, 5, .inl f1)), (q5, .inl (gC G 4, n, .inl (fun _ => 0))), (q6, .inl (gC G 4, n, .inl (fun _ => 0)))]) s H locs := hJ
      refine lv_astore (lv' := [(23, .ref q6), (22, .ref q5), (0, .ref (gE G 6)), (1, .ref (gB G 0)), (2, .ref q0), (3, .int (nI tt)), (7, .int (nI n)), (13, .int (nI o9)), (14, .int F1), (15, .int F2), (16, .int F3), (18, .int (nI hN)), (19, .int lf9), (20, .int (nI jh)), (21, .ref qa)]) S.1 S.2.1 dL_law_727 hl (by decide) rfl (fun ls hl => ?_)
      refine lv_iload S.1 S.2.1 dL_law_729 (lv_at hl 6 rfl) ?_
      refine w_newi S hJ (N := n) (nI_pos (by omega)) (nI_clamp (by omega)) (by show n * 4 ≤ 536870912; omega) (by omega) (by omega) dL_law_731 (fun q7 H hJ => ?_)
      rw [fw_push] at hJ
      have hJ : Jw G (fw G α ((q0, q1, q2, q3), aR) (hh, pw, ar, st, ht, n, row) [(qa, .inl (gC G 4, 5, .inl f1)), (q5, .inl (gC G 4, n, .inl (fun _ => 0))), (q6, .inl (gC G 4, n, .inl (fun _ => 0))), (q7, .inl (gC G 4, n, .inl (fun _ => 0)))]) s H locs := hJ
      refine lv_astore (lv' := [(24, .ref q7), (23, .ref q6), (22, .ref q5), (0, .ref (gE G 6)), (1, .ref (gB G 0)), (2, .ref q0), (3, .int (nI tt)), (7, .int (nI n)), (13, .int (nI o9)), (14, .int F1), (15, .int F2), (16, .int F3), (18, .int (nI hN)), (19, .int lf9), (20, .int (nI jh)), (21, .ref qa)]) S.1 S.2.1 dL_law_733 hl (by decide) rfl (fun ls hl => ?_)
      refine lv_iload S.1 S.2.1 dL_law_735 (lv_at hl 7 rfl) ?_
      refine w_newz S hJ (N := n) (nI_pos (by omega)) (nI_clamp (by omega)) (by show n * 1 ≤ 536870912; omega) (by omega) (by omega) dL_law_737 (fun q8 H hJ => ?_)
      rw [fw_push] at hJ
      have hJ : Jw G (fw G α ((q0, q1, q2, q3), aR) (hh, pw, ar, st, ht, n, row) [(qa, .inl (gC G 4, 5, .inl f1)), (q5, .inl (gC G 4, n, .inl (fun _ => 0))), (q6, .inl (gC G 4, n, .inl (fun _ => 0))), (q7, .inl (gC G 4, n, .inl (fun _ => 0))), (q8, .inl (gC G 6, n, .inl (fun _ => 0)))]) s H locs := hJ
      refine lv_astore (lv' := [(25, .ref q8), (24, .ref q7), (23, .ref q6), (22, .ref q5), (0, .ref (gE G 6)), (1, .ref (gB G 0)), (2, .ref q0), (3, .int (nI tt)), (7, .int (nI n)), (13, .int (nI o9)), (14, .int F1), (15, .int F2), (16, .int F3), (18, .int (nI hN)), (19, .int lf9), (20, .int (nI jh)), (21, .ref qa)]) S.1 S.2.1 dL_law_739 hl (by decide) rfl (fun ls hl => ?_)
      refine lv_iconst (v := (nI 0)) S.1 S.2.1 dL_law_741 (by rfl) ?_
      refine lv_istore (lv' := [(26, .int (nI 0)), (25, .ref q8), (24, .ref q7), (23, .ref q6), (22, .ref q5), (0, .ref (gE G 6)), (1, .ref (gB G 0)), (2, .ref q0), (3, .int (nI tt)), (7, .int (nI n)), (13, .int (nI o9)), (14, .int F1), (15, .int F2), (16, .int F3), (18, .int (nI hN)), (19, .int lf9), (20, .int (nI jh)), (21, .ref qa)]) S.1 S.2.1 dL_law_742 hl (by decide) rfl (fun ls hl => ?_)
      refine W.widen (k := cells + 5) (n := slots + 85) (by omega) (by omega) ?_
      exact loop2 n 0 _ _ _ _ _ _ _ _ _ _ (by omega) u1 upTo.zero upTo.zero upTo.zero upTo.zero _ _ hJ ls (lv_sub hl [5, 6, 7, 8, 9, 10, 11, 12, 13, 14, 15, 16, 17, 4, 3, 2, 1, 0] rfl)
    | succ n9 ih =>
      intro k qa f1 hk0 u1 H locs hJ ls hl
      have hk2 : k < 5 := by omega
      refine lv_iload S.1 S.2.1 dL_law_694 (lv_at hl 13 rfl) ?_
      refine lv_iconst (v := (nI 5)) S.1 S.2.1 dL_law_696 (by rfl) ?_
      refine lv_icmp_ge (tgt := 717) S.1 S.2.1 dL_law_697 (by decide) (fun c9 => absurd c9 (nI_ge (b := 5) hk2 (by omega))) (fun cz_697 => ?_)
      refine lv_aload S.1 S.2.1 dL_law_700 (lv_at hl 12 rfl) ?_
      refine lv_iload S.1 S.2.1 dL_law_702 (lv_at hl 13 rfl) ?_
      refine lv_aload_n S.1 S.2.1 dL_law_704 rfl (lv_at hl 1 rfl) ?_
      refine lv_iload S.1 S.2.1 dL_law_705 (lv_at hl 13 rfl) ?_
      refine cz_i hJ (rzV (As := [.int (nI k)]) (rest := [.int (nI k), .ref qa]) S hJ (c_heatOn l _ α hk2) (cw_L_X3_heatOn S.2.2.2.2 ⟨by omega, by omega⟩) (rcX hJ.iv) rfl hl.1 (Nat.le_of_ble_eq_true rfl) dL_law_707 ⟨by omega, by omega⟩) (fun r9 σ9 H locs hq9 hJ => ?_)
      obtain ⟨hr9, hs9⟩ := hq9
      rw [hs9] at hJ
      rw [hr9]
      refine o_y S hJ 0 rfl (j := k) hk2 (by omega) dL_law_710 (fun H locs hJ => ?_)
      have hJ : Jw G (fw G α ((q0, q1, q2, q3), aR) (hh, pw, ar, st, ht, n, row) [(qa, .inl (gC G 4, 5, .inl (va_up f1 k (hSf α k))))]) s H locs := hJ
      refine lv_iinc (v := (nI (k + 1))) (lv' := [(22, .int (nI (k + 1))), (0, .ref (gE G 6)), (1, .ref (gB G 0)), (2, .ref q0), (3, .int (nI tt)), (7, .int (nI n)), (13, .int (nI o9)), (14, .int F1), (15, .int F2), (16, .int F3), (18, .int (nI hN)), (19, .int lf9), (20, .int (nI jh)), (21, .ref qa)]) S.1 S.2.1 dL_law_711 hl (k := 13) rfl (nI_1 k) (by decide) rfl (fun ls hl => ?_)
      refine lv_goto (tgt := 694) S.1 S.2.1 dL_law_714 (by decide) ?_
      exact ih (k + 1) qa _ (by omega) u1.up _ _ hJ ls (lv_sub hl [1, 2, 3, 4, 5, 6, 7, 8, 9, 10, 11, 12, 13, 0] rfl)
  refine lv_iconst (v := 5) S.1 S.2.1 dL_law_686 (by decide) ?_
  refine w_newi S hJ (N := 5) (by decide) (by decide) (by decide) (by omega) (by omega) dL_law_687 (fun q10 H hJ => ?_)
  rw [fw_push] at hJ
  have hJ : Jw G (fw G α ((q0, q1, q2, q3), aR) (hh, pw, ar, st, ht, n, row) [(q10, .inl (gC G 4, 5, .inl (fun _ => 0)))]) s H locs := hJ
  refine lv_astore (lv' := [(21, .ref q10), (0, .ref (gE G 6)), (1, .ref (gB G 0)), (2, .ref q0), (3, .int (nI tt)), (7, .int (nI n)), (13, .int (nI o9)), (14, .int F1), (15, .int F2), (16, .int F3), (18, .int (nI hN)), (19, .int lf9), (20, .int (nI jh))]) S.1 S.2.1 dL_law_689 hl (by decide) rfl (fun ls hl => ?_)
  refine lv_iconst (v := (nI 0)) S.1 S.2.1 dL_law_691 (by rfl) ?_
  refine lv_istore (lv' := [(22, .int (nI 0)), (21, .ref q10), (0, .ref (gE G 6)), (1, .ref (gB G 0)), (2, .ref q0), (3, .int (nI tt)), (7, .int (nI n)), (13, .int (nI o9)), (14, .int F1), (15, .int F2), (16, .int F3), (18, .int (nI hN)), (19, .int lf9), (20, .int (nI jh))]) S.1 S.2.1 dL_law_692 hl (by decide) rfl (fun ls hl => ?_)
  exact loop1 5 0 _ _ rfl upTo.zero _ _ hJ ls (lv_sub hl [2, 3, 4, 5, 6, 7, 8, 9, 10, 11, 12, 13, 1, 0] rfl)
set_option maxRecDepth 100000 in
set_option maxHeartbeats 4000000 in
theorem lg_h2 (S : CallFix p m c cL_law 31 s args AL RL) (hF9 : 12 ≤ R.frames ∧ 448 ≤ R.locals) (hC9 : cells ≤ R.cells) (hS9 : slots ≤ R.slots) {α : St} {q3 : Nat} {aR : Nat → Nat} {hh pw ar : Int32} {st ht : Nat → Int32} {n : Nat} {row : Nat → Z7} {o9 hN jh : Nat} {F1 F2 F3 lf9 : Int32} {qa qb qc qd qe : Nat} {f1 f2 f3 f4 f5 : Nat → Int32} (hp : Pct α (hh, pw, ar, st, ht, n, row)) (u1 : upTo (hSf α) 5 f1) (u2 : upTo (hTf α) n f2) (u3 : upTo (aGf α) n f3) (u4 : upTo (lYf α) n f4) (u5 : upTo (zFf α) n f5) (kk9 : ∀ (h2 a2 : Int32) (ht2 : Nat → Int32) (row2 : Nat → Z7), Pct (hourX α) (h2, pw, a2, st, ht2, n, row2) → ∀ (H : Heap) (locs : List Loc), Jw G (fw G (hourX α) ((q0, q1, q2, q3), aR) (h2, pw, a2, st, ht2, n, row2) [(qa, .inl (gC G 4, 5, .inl f1)), (qb, .inl (gC G 4, n, .inl f2)), (qc, .inl (gC G 4, n, .inl f3)), (qd, .inl (gC G 4, n, .inl f4)), (qe, .inl (gC G 6, n, .inl f5))]) s H locs → ∀ ls : Array Slot, lv_has ls 31 [(0, .ref (gE G 6)), (1, .ref (gB G 0)), (2, .ref q0), (3, .int (nI tt)), (7, .int (nI n)), (13, .int (nI o9)), (14, .int F1), (15, .int F2), (16, .int F3), (18, .int (nI hN)), (19, .int lf9), (20, .int (nI jh)), (21, .ref qa), (22, .ref qb), (23, .ref qc), (24, .ref qd), (25, .ref qe), (26, .int (sumN (xR α) 20))] → W p l e R s m args below meth c H locs cells slots Q (F0 m 855 ls [])) (hJ : Jw G (fw G α ((q0, q1, q2, q3), aR) (hh, pw, ar, st, ht, n, row) [(qa, .inl (gC G 4, 5, .inl f1)), (qb, .inl (gC G 4, n, .inl f2)), (qc, .inl (gC G 4, n, .inl f3)), (qd, .inl (gC G 4, n, .inl f4)), (qe, .inl (gC G 6, n, .inl f5))]) s H locs) (hl : lv_has ls 31 [(0, .ref (gE G 6)), (1, .ref (gB G 0)), (2, .ref q0), (3, .int (nI tt)), (7, .int (nI n)), (13, .int (nI o9)), (14, .int F1), (15, .int F2), (16, .int F3), (18, .int (nI hN)), (19, .int lf9), (20, .int (nI jh)), (21, .ref qa), (22, .ref qb), (23, .ref qc), (24, .ref qd), (25, .ref qe)]) : W p l e R s m args below meth c H locs cells slots Q (F0 m 801 ls []) := by
  have hok := hp.1.ok
  refine lv_aload_n S.1 S.2.1 dL_law_801 rfl (lv_at hl 1 rfl) ?_
  refine lv_iconst (v := (nI 1)) S.1 S.2.1 dL_law_802 (by rfl) ?_
  refine cz_i hJ (rzV (As := [.int (nI 1)]) (rest := []) S hJ (c_pass l _ α hok (h := 1) (by omega) (by omega)) (cw_L_X3_pass S.2.2.2.2 ⟨by omega, by omega⟩) (rcX hJ.iv) rfl hl.1 (Nat.le_of_ble_eq_true rfl) dL_law_803 ⟨by omega, by omega⟩) (fun r1 σ1 H locs hq1 hJ => ?_)
  obtain ⟨hr1, hs1⟩ := hq1
  rw [hs1] at hJ
  rw [hr1, rang_eq]
  have hJ : Jw G (fw G (hourX α) ((q0, q1, q2, q3), aR) (hh, pw, ar, st, ht, n, row) [(qa, .inl (gC G 4, 5, .inl f1)), (qb, .inl (gC G 4, n, .inl f2)), (qc, .inl (gC G 4, n, .inl f3)), (qd, .inl (gC G 4, n, .inl f4)), (qe, .inl (gC G 6, n, .inl f5))]) s H locs := hJ
  refine lv_istore (lv' := [(26, .int (sumN (xR α) 20)), (0, .ref (gE G 6)), (1, .ref (gB G 0)), (2, .ref q0), (3, .int (nI tt)), (7, .int (nI n)), (13, .int (nI o9)), (14, .int F1), (15, .int F2), (16, .int F3), (18, .int (nI hN)), (19, .int lf9), (20, .int (nI jh)), (21, .ref qa), (22, .ref qb), (23, .ref qc), (24, .ref qd), (25, .ref qe)]) S.1 S.2.1 dL_law_806 hl (by decide) rfl (fun ls hl => ?_)
  refine lv_iload S.1 S.2.1 dL_law_808 (lv_at hl 0 rfl) ?_
  refine lv_aload_n S.1 S.2.1 dL_law_810 rfl (lv_at hl 3 rfl) ?_
  refine dw_i hJ (rwV (As := []) (rest := [.int (sumN (xR α) 20)]) S hJ (k_pass (a := ((q0, q1, q2, q3), aR)) l G hp) (cw_L_X4_pass S.2.2.2.2 ⟨by omega, by omega⟩) (rcSim hJ) rfl hl.1 (Nat.le_of_ble_eq_true rfl) dL_law_811 ⟨by omega, by omega⟩) (fun r2 ws2 H locs hq2 hJ => ?_)
  obtain ⟨h2, a2, ht2, row2, hw2, hp2, hr2⟩ := hq2
  subst hw2
  rw [hr2]
  refine lv_icmp_eq (tgt := 819) S.1 S.2.1 dL_law_814 (by decide) (fun cz_814 => ?_) (fun c9 => absurd rfl c9)
  refine lv_iconst (v := (nI 0)) S.1 S.2.1 dL_law_819 (by rfl) ?_
  refine lv_istore (lv' := [(27, .int (nI 0)), (26, .int (sumN (xR α) 20)), (0, .ref (gE G 6)), (1, .ref (gB G 0)), (2, .ref q0), (3, .int (nI tt)), (7, .int (nI n)), (13, .int (nI o9)), (14, .int F1), (15, .int F2), (16, .int F3), (18, .int (nI hN)), (19, .int lf9), (20, .int (nI jh)), (21, .ref qa), (22, .ref qb), (23, .ref qc), (24, .ref qd), (25, .ref qe)]) S.1 S.2.1 dL_law_820 hl (by decide) rfl (fun ls hl => ?_)
  have loop : ∀ (n9 k : Nat), k + n9 = 5 → ∀ (H : Heap) (locs : List Loc), Jw G (fw G (hourX α) ((q0, q1, q2, q3), aR) (h2, pw, a2, st, ht2, n, row2) [(qa, .inl (gC G 4, 5, .inl f1)), (qb, .inl (gC G 4, n, .inl f2)), (qc, .inl (gC G 4, n, .inl f3)), (qd, .inl (gC G 4, n, .inl f4)), (qe, .inl (gC G 6, n, .inl f5))]) s H locs → ∀ ls : Array Slot, lv_has ls 31 [(0, .ref (gE G 6)), (1, .ref (gB G 0)), (2, .ref q0), (3, .int (nI tt)), (7, .int (nI n)), (13, .int (nI o9)), (14, .int F1), (15, .int F2), (16, .int F3), (18, .int (nI hN)), (19, .int lf9), (20, .int (nI jh)), (21, .ref qa), (22, .ref qb), (23, .ref qc), (24, .ref qd), (25, .ref qe), (26, .int (sumN (xR α) 20)), (27, .int (nI k))] → W p l e R s m args below meth c H locs cells slots Q (F0 m 822 ls []) := by
    intro n9
    induction n9 with
    | zero =>
      intro k hk0 H locs hJ ls hl
      obtain rfl : k = 5 := by omega
      refine lv_iload S.1 S.2.1 dL_law_822 (lv_at hl 18 rfl) ?_
      refine lv_iconst (v := (nI 5)) S.1 S.2.1 dL_law_824 (by rfl) ?_
      refine lv_icmp_ge (tgt := 855) S.1 S.2.1 dL_law_825 (by decide) (fun cz_825 => ?_) (fun c9 => absurd (nI_le (a := 5) (b := 5) (Nat.le_refl 5) (by omega)) c9)
      exact kk9 _ _ _ _ hp2 _ _ hJ ls (lv_sub hl [0, 1, 2, 3, 4, 5, 6, 7, 8, 9, 10, 11, 12, 13, 14, 15, 16, 17] rfl)
    | succ n9 ih =>
      intro k hk0 H locs hJ ls hl
      have hk2 : k < 5 := by omega
      refine lv_iload S.1 S.2.1 dL_law_822 (lv_at hl 18 rfl) ?_
      refine lv_iconst (v := (nI 5)) S.1 S.2.1 dL_law_824 (by rfl) ?_
      refine lv_icmp_ge (tgt := 855) S.1 S.2.1 dL_law_825 (by decide) (fun c9 => absurd c9 (nI_ge (b := 5) hk2 (by omega))) (fun cz_825 => ?_)
      refine lv_aload_n S.1 S.2.1 dL_law_828 rfl (lv_at hl 1 rfl) ?_
      refine lv_iload S.1 S.2.1 dL_law_829 (lv_at hl 18 rfl) ?_
      refine cz_i hJ (rzV (As := [.int (nI k)]) (rest := []) S hJ (c_heatOn l _ (hourX α) hk2) (cw_L_X3_heatOn S.2.2.2.2 ⟨by omega, by omega⟩) (rcX hJ.iv) rfl hl.1 (Nat.le_of_ble_eq_true rfl) dL_law_831 ⟨by omega, by omega⟩) (fun r1 σ1 H locs hq1 hJ => ?_)
      obtain ⟨hr1, hs1⟩ := hq1
      rw [hs1] at hJ
      rw [hr1, hourX_S α hk2]
      refine lv_aload S.1 S.2.1 dL_law_834 (lv_at hl 12 rfl) ?_
      refine lv_iload S.1 S.2.1 dL_law_836 (lv_at hl 18 rfl) ?_
      refine i_y S hJ 0 rfl (j := k) hk2 (by omega) dL_law_838 ?_
      rw [show (f1 k) = (gS α k).2 from u1 k hk2]
      refine lv_isub S.1 S.2.1 dL_law_839 ?_
      refine mt_L_abs S hl.1 ⟨by omega, Nat.le_trans (show _ ≤ 448 from Nat.le_of_ble_eq_true rfl) hF9.2⟩ ⟨by omega, by omega⟩ dL_law_840 ?_
      refine lv_iconst (v := 2) S.1 S.2.1 dL_law_843 (by decide) ?_
      refine lv_icmp_le (tgt := 849) S.1 S.2.1 dL_law_844 (by decide) (fun cz_844 => ?_) (fun c9 => absurd ((hourS_in hp.1.2.2.1 (hp.1.2.2.2.1 k hk2)).2) c9)
      refine lv_iinc (v := (nI (k + 1))) (lv' := [(27, .int (nI (k + 1))), (0, .ref (gE G 6)), (1, .ref (gB G 0)), (2, .ref q0), (3, .int (nI tt)), (7, .int (nI n)), (13, .int (nI o9)), (14, .int F1), (15, .int F2), (16, .int F3), (18, .int (nI hN)), (19, .int lf9), (20, .int (nI jh)), (21, .ref qa), (22, .ref qb), (23, .ref qc), (24, .ref qd), (25, .ref qe), (26, .int (sumN (xR α) 20))]) S.1 S.2.1 dL_law_849 hl (k := 18) rfl (nI_1 k) (by decide) rfl (fun ls hl => ?_)
      refine lv_goto (tgt := 822) S.1 S.2.1 dL_law_852 (by decide) ?_
      exact ih (k + 1) (by omega) _ _ hJ ls (lv_sub hl [1, 2, 3, 4, 5, 6, 7, 8, 9, 10, 11, 12, 13, 14, 15, 16, 17, 18, 0] rfl)
  exact loop 5 0 rfl _ _ hJ ls (lv_sub hl [2, 3, 4, 5, 6, 7, 8, 9, 10, 11, 12, 13, 14, 15, 16, 17, 18, 1, 0] rfl)
set_option maxRecDepth 100000 in
set_option maxHeartbeats 4000000 in
theorem lg_h3 (S : CallFix p m c cL_law 31 s args AL RL) (hF9 : 12 ≤ R.frames ∧ 448 ≤ R.locals) (hC9 : cells ≤ R.cells) (hS9 : slots ≤ R.slots) {α : St} {q3 : Nat} {aR : Nat → Nat} {pw : Int32} {st : Nat → Int32} {n : Nat} {o9 hN jh : Nat} {F1 F2 F3 lf9 : Int32} {qa qb qc qd qe : Nat} {f1 f2 f3 f4 f5 : Nat → Int32} (hI : Inv α n) (u1 : upTo (hSf α) 5 f1) (u2 : upTo (hTf α) n f2) (u3 : upTo (aGf α) n f3) (u4 : upTo (lYf α) n f4) (u5 : upTo (zFf α) n f5) {h2 a2 : Int32} {ht2 : Nat → Int32} {row2 : Nat → Z7} (hp2 : Pct (hourX α) (h2, pw, a2, st, ht2, n, row2)) (kk9 : ∀ (H : Heap) (locs : List Loc), Jw G (fw G (hourX α) ((q0, q1, q2, q3), aR) (h2, pw, a2, st, ht2, n, row2) [(qa, .inl (gC G 4, 5, .inl f1)), (qb, .inl (gC G 4, n, .inl f2)), (qc, .inl (gC G 4, n, .inl f3)), (qd, .inl (gC G 4, n, .inl f4)), (qe, .inl (gC G 6, n, .inl f5))]) s H locs → ∀ ls : Array Slot, lv_has ls 31 [(0, .ref (gE G 6)), (1, .ref (gB G 0)), (2, .ref q0), (3, .int (nI tt)), (7, .int (nI n)), (13, .int (nI o9)), (14, .int F1), (15, .int F2), (16, .int F3), (18, .int (nI hN)), (19, .int lf9), (20, .int (nI jh))] → W p l e R s m args below meth c H locs cells slots Q (F0 m 1121 ls [])) (hJ : Jw G (fw G (hourX α) ((q0, q1, q2, q3), aR) (h2, pw, a2, st, ht2, n, row2) [(qa, .inl (gC G 4, 5, .inl f1)), (qb, .inl (gC G 4, n, .inl f2)), (qc, .inl (gC G 4, n, .inl f3)), (qd, .inl (gC G 4, n, .inl f4)), (qe, .inl (gC G 6, n, .inl f5))]) s H locs) (hl : lv_has ls 31 [(0, .ref (gE G 6)), (1, .ref (gB G 0)), (2, .ref q0), (3, .int (nI tt)), (7, .int (nI n)), (13, .int (nI o9)), (14, .int F1), (15, .int F2), (16, .int F3), (18, .int (nI hN)), (19, .int lf9), (20, .int (nI jh)), (21, .ref qa), (22, .ref qb), (23, .ref qc), (24, .ref qd), (25, .ref qe), (26, .int (sumN (xR α) 20))]) : W p l e R s m args below meth c H locs cells slots Q (F0 m 855 ls []) := by
  have hn : n ≤ 20 := hI.1
  have hX2 := hp2.1.gx
  have hok2 := hp2.1.ok
  have loop : ∀ (n9 k : Nat), k + n9 = n → ∀ (H : Heap) (locs : List Loc), Jw G (fw G (hourX α) ((q0, q1, q2, q3), aR) (h2, pw, a2, st, ht2, n, row2) [(qa, .inl (gC G 4, 5, .inl f1)), (qb, .inl (gC G 4, n, .inl f2)), (qc, .inl (gC G 4, n, .inl f3)), (qd, .inl (gC G 4, n, .inl f4)), (qe, .inl (gC G 6, n, .inl f5))]) s H locs → ∀ ls : Array Slot, lv_has ls 31 [(0, .ref (gE G 6)), (1, .ref (gB G 0)), (2, .ref q0), (3, .int (nI tt)), (7, .int (nI n)), (13, .int (nI o9)), (14, .int F1), (15, .int F2), (16, .int F3), (18, .int (nI hN)), (19, .int lf9), (20, .int (nI jh)), (21, .ref qa), (22, .ref qb), (23, .ref qc), (24, .ref qd), (25, .ref qe), (26, .int (sumN (xR α) 20)), (27, .int (sumN (thF α) k)), (28, .int (nI k))] → W p l e R s m args below meth c H locs cells slots Q (F0 m 861 ls []) := by
    intro n9
    induction n9 with
    | zero =>
      intro k hk0 H locs hJ ls hl
      have hkn : k = n := by omega
      refine lv_iload S.1 S.2.1 dL_law_861 (lv_at hl 19 rfl) ?_
      refine lv_iload S.1 S.2.1 dL_law_863 (lv_at hl 4 rfl) ?_
      refine lv_icmp_ge (tgt := 1112) S.1 S.2.1 dL_law_865 (by decide) (fun cz_865 => ?_) (fun c9 => absurd (nI_le (show n ≤ k by omega) (by omega)) c9)
      refine lv_iload S.1 S.2.1 dL_law_1112 (lv_at hl 17 rfl) ?_
      refine lv_iload S.1 S.2.1 dL_law_1114 (lv_at hl 18 rfl) ?_
      refine lv_icmp_ge (tgt := 1121) S.1 S.2.1 dL_law_1116 (by decide) (fun cz_1116 => ?_) (fun c9 => absurd (by rw [hkn]; exact thaw_le hI) c9)
      exact kk9 _ _ hJ ls (lv_sub hl [0, 1, 2, 3, 4, 5, 6, 7, 8, 9, 10, 11] rfl)
    | succ n9 ih =>
      intro k hk0 H locs hJ ls hl
      have hk2 : k < n := by omega
      have hP2 : gP (hourX α) k = hourP (xS α 5 (gP α k).2.1).2 (gP α k) := hourX_P α (show k < 20 by omega)
      obtain ⟨ma, lf, ag, e1, e2, e3, e4, e5, e6, e7, e8⟩ := hI.2.2.2.2.1 k hk2
      have v2 := u2 k hk2
      have v3 := u3 k hk2
      have v4 := u4 k hk2
      have v5 := u5 k hk2
      unfold hTf at v2
      unfold aGf at v3
      unfold lYf at v4
      unfold zFf at v5
      have hth : thF α k = if (gP α k).1 = 2 ∧ (gP (hourX α) k).1 = 3 then 1 else 0 := rfl
      have hxS : ∀ q, q < 5 → -30 ≤ (xS α 5 q).2 ∧ (xS α 5 q).2 ≤ 20 := fun q hq => (xS_in hI hq).2.2
      obtain ⟨⟨g, sh, mk9, lfz, agz, w9⟩, hx⟩ : ∃ x, gP α k = x := ⟨_, rfl⟩
      rw [hx] at hP2 e1 e3 e6 e7 e8 v2 v3 v4 v5 hth
      dsimp only at hP2 e1 e3 e6 e7 e8 v2 v3 v4 v5 hth
      have hbr : (sh < 5 ∧ ag < lf ∧ (g = 1 ∨ g = 2 ∨ g = 3)) ∨ (sh = 6 ∧ (g = 4 ∨ g = 5)) := by omega
      rcases hbr with ⟨hs5, hal, hg⟩ | ⟨hs6, hg⟩
      · obtain ⟨to9, hto⟩ : ∃ x, (xS α 5 sh).2 = x := ⟨_, rfl⟩
        rw [hto] at hP2
        have htb := hxS sh hs5
        rw [hto] at htb
        have hSt : (gS (hourX α) sh).2 = to9 := hto
        rw [if_pos hs5] at v4
        obtain ⟨-, hdb, hnear⟩ := draw_in htb e7
        subst e3; subst e6
        rcases hg with rfl | rfl | rfl
        · by_cases c1 : -10 < draw to9 w9
          · by_cases c2 : nI ag + 1 < nI lf
            · obtain ⟨hA, -⟩ := (hq_a hs5 c1 c2 : hourP to9 (1, sh, mk9, nI lf, nI ag, w9) = _ ∧ _)
              rw [hA] at hP2
              rw [hP2] at hth
              have hth0 : thF α k = 0 := by rw [hth]; exact if_neg (fun q => absurd q.1 (show ¬ (1 : Nat) = 2 by decide))
              rcases hnear with ⟨n1, n2⟩ | ⟨n1, n2, n3⟩ | ⟨n1, n2, n3⟩
              · refine lv_iload S.1 S.2.1 dL_law_861 (lv_at hl 19 rfl) ?_
                refine lv_iload S.1 S.2.1 dL_law_863 (lv_at hl 4 rfl) ?_
                refine lv_icmp_ge (tgt := 1112) S.1 S.2.1 dL_law_865 (by decide) (fun c9 => absurd c9 (nI_ge hk2 (by omega))) (fun cz_865 => ?_)
                refine lv_aload S.1 S.2.1 dL_law_868 (lv_at hl 15 rfl) ?_
                refine lv_iload S.1 S.2.1 dL_law_870 (lv_at hl 19 rfl) ?_
                refine i_y S hJ 3 rfl (j := k) hk2 (by omega) dL_law_872 ?_
                rw [show (f4 k) = (nI sh) from v4]
                refine lv_if_ge (tgt := 915) S.1 S.2.1 dL_law_873 (by decide) (fun cz_873 => ?_) (fun c9 => absurd (Int32.not_lt.mp (nI_pos (by omega))) c9)
                refine lv_aload_n S.1 S.2.1 dL_law_915 rfl (lv_at hl 1 rfl) ?_
                refine lv_aload S.1 S.2.1 dL_law_916 (lv_at hl 15 rfl) ?_
                refine lv_iload S.1 S.2.1 dL_law_918 (lv_at hl 19 rfl) ?_
                refine i_y S hJ 3 rfl (j := k) hk2 (by omega) dL_law_920 ?_
                rw [show (f4 k) = (nI sh) from v4]
                refine cz_i hJ (rzV (As := [.int (nI sh)]) (rest := []) S hJ (c_heatOn l _ (hourX α) hs5) (cw_L_X3_heatOn S.2.2.2.2 ⟨by omega, by omega⟩) (rcX hJ.iv) rfl hl.1 (Nat.le_of_ble_eq_true rfl) dL_law_921 ⟨by omega, by omega⟩) (fun r1 σ1 H locs hq1 hJ => ?_)
                obtain ⟨hr1, hs1⟩ := hq1
                rw [hs1] at hJ
                rw [hr1, hSt]
                refine lv_aload S.1 S.2.1 dL_law_924 (lv_at hl 13 rfl) ?_
                refine lv_iload S.1 S.2.1 dL_law_926 (lv_at hl 19 rfl) ?_
                refine i_y S hJ 1 rfl (j := k) hk2 (by omega) dL_law_928 ?_
                rw [show (f2 k) = w9 from v2]
                refine lv_isub S.1 S.2.1 dL_law_929 ?_
                refine lv_istore (lv' := [(29, .int (to9 - w9)), (0, .ref (gE G 6)), (1, .ref (gB G 0)), (2, .ref q0), (3, .int (nI tt)), (7, .int (nI n)), (13, .int (nI o9)), (14, .int F1), (15, .int F2), (16, .int F3), (18, .int (nI hN)), (19, .int lf9), (20, .int (nI jh)), (21, .ref qa), (22, .ref qb), (23, .ref qc), (24, .ref qd), (25, .ref qe), (26, .int (sumN (xR α) 20)), (27, .int (sumN (thF α) k)), (28, .int (nI k))]) S.1 S.2.1 dL_law_930 hl (by decide) rfl (fun ls hl => ?_)
                refine lv_aload_n S.1 S.2.1 dL_law_932 rfl (lv_at hl 2 rfl) ?_
                refine lv_iload S.1 S.2.1 dL_law_933 (lv_at hl 20 rfl) ?_
                refine cz_i hJ (rzV (As := [.int (nI k)]) (rest := []) S hJ (c_heatOf l _ (hourX α) hk2 hn hX2) (cw_L_X3_heatOf S.2.2.2.2 ⟨by omega, by omega⟩) (rcX hJ.iv) rfl hl.1 (Nat.le_of_ble_eq_true rfl) dL_law_935 ⟨by omega, by omega⟩) (fun r2 σ2 H locs hq2 hJ => ?_)
                obtain ⟨hr2, hs2⟩ := hq2
                rw [hs2] at hJ
                rw [hr2, show (gP (hourX α) k).2.2.2.2.2 = (draw to9 w9) from by rw [hP2]]
                refine lv_aload S.1 S.2.1 dL_law_938 (lv_at hl 14 rfl) ?_
                refine lv_iload S.1 S.2.1 dL_law_940 (lv_at hl 20 rfl) ?_
                refine i_y S hJ 1 rfl (j := k) hk2 (by omega) dL_law_942 ?_
                rw [show (f2 k) = w9 from v2]
                refine lv_isub S.1 S.2.1 dL_law_943 ?_
                refine lv_istore (lv' := [(30, .int ((draw to9 w9) - w9)), (29, .int (to9 - w9)), (0, .ref (gE G 6)), (1, .ref (gB G 0)), (2, .ref q0), (3, .int (nI tt)), (7, .int (nI n)), (13, .int (nI o9)), (14, .int F1), (15, .int F2), (16, .int F3), (18, .int (nI hN)), (19, .int lf9), (20, .int (nI jh)), (21, .ref qa), (22, .ref qb), (23, .ref qc), (24, .ref qd), (25, .ref qe), (26, .int (sumN (xR α) 20)), (27, .int (sumN (thF α) k)), (28, .int (nI k))]) S.1 S.2.1 dL_law_944 hl (by decide) rfl (fun ls hl => ?_)
                refine lv_iload S.1 S.2.1 dL_law_946 (lv_at hl 20 rfl) ?_
                refine lv_aload S.1 S.2.1 dL_law_948 (lv_at hl 18 rfl) ?_
                refine lv_iload S.1 S.2.1 dL_law_950 (lv_at hl 21 rfl) ?_
                refine i_yz S hJ 4 rfl (j := k) hk2 (by omega) dL_law_952 ?_
                rw [show (f5 k) = 0 from v5]
                refine lv_if_eq (tgt := 969) S.1 S.2.1 dL_law_953 (by decide) (fun cz_953 => ?_) (fun c9 => absurd (by decide) c9)
                refine lv_iconst (v := 0) S.1 S.2.1 dL_law_969 (by decide) ?_
                refine lv_iadd S.1 S.2.1 dL_law_970 ?_
                refine lv_istore (lv' := [(27, .int ((sumN (thF α) k) + 0)), (30, .int ((draw to9 w9) - w9)), (29, .int (to9 - w9)), (0, .ref (gE G 6)), (1, .ref (gB G 0)), (2, .ref q0), (3, .int (nI tt)), (7, .int (nI n)), (13, .int (nI o9)), (14, .int F1), (15, .int F2), (16, .int F3), (18, .int (nI hN)), (19, .int lf9), (20, .int (nI jh)), (21, .ref qa), (22, .ref qb), (23, .ref qc), (24, .ref qd), (25, .ref qe), (26, .int (sumN (xR α) 20)), (28, .int (nI k))]) S.1 S.2.1 dL_law_971 hl (by decide) rfl (fun ls hl => ?_)
                refine lv_iload S.1 S.2.1 dL_law_973 (lv_at hl 2 rfl) ?_
                refine lv_if_ne (tgt := 982) S.1 S.2.1 dL_law_975 (by decide) (fun c9 => absurd n1 c9) (fun cz_975 => ?_)
                refine lv_iconst (v := 1) S.1 S.2.1 dL_law_978 (by decide) ?_
                refine lv_goto (tgt := 983) S.1 S.2.1 dL_law_979 (by decide) ?_
                refine lv_iload S.1 S.2.1 dL_law_983 (lv_at hl 1 rfl) ?_
                refine lv_if_ne (tgt := 992) S.1 S.2.1 dL_law_985 (by decide) (fun c9 => absurd n2 c9) (fun cz_985 => ?_)
                refine lv_iconst (v := 1) S.1 S.2.1 dL_law_988 (by decide) ?_
                refine lv_goto (tgt := 993) S.1 S.2.1 dL_law_989 (by decide) ?_
                refine lv_icmp_ne (tgt := 1104) S.1 S.2.1 dL_law_993 (by decide) (fun c9 => absurd (by decide) c9) (fun cz_993 => ?_)
                refine lv_iload S.1 S.2.1 dL_law_996 (lv_at hl 2 rfl) ?_
                refine lv_if_le (tgt := 1014) S.1 S.2.1 dL_law_998 (by decide) (fun cz_998 => ?_) (fun c9 => absurd (by rw [n1]; exact Int32.le_refl 0) c9)
                refine lv_iload S.1 S.2.1 dL_law_1014 (lv_at hl 2 rfl) ?_
                refine lv_if_ge (tgt := 1032) S.1 S.2.1 dL_law_1016 (by decide) (fun cz_1016 => ?_) (fun c9 => absurd (by rw [n1]; exact Int32.le_refl 0) c9)
                refine lv_aload_n S.1 S.2.1 dL_law_1032 rfl (lv_at hl 4 rfl) ?_
                refine lv_iload S.1 S.2.1 dL_law_1033 (lv_at hl 21 rfl) ?_
                refine cz_i hJ (rzV (As := [.int (nI k)]) (rest := []) S hJ (c_ageOf l _ (hourX α) hk2 hn hX2) (cw_L_X3_ageOf S.2.2.2.2 ⟨by omega, by omega⟩) (rcX hJ.iv) rfl hl.1 (Nat.le_of_ble_eq_true rfl) dL_law_1035 ⟨by omega, by omega⟩) (fun r3 σ3 H locs hq3 hJ => ?_)
                obtain ⟨hr3, hs3⟩ := hq3
                rw [hs3] at hJ
                rw [hr3, show (gP (hourX α) k).2.2.2.2.1 = (nI ag + 1) from by rw [hP2]]
                refine lv_aload S.1 S.2.1 dL_law_1038 (lv_at hl 17 rfl) ?_
                refine lv_iload S.1 S.2.1 dL_law_1040 (lv_at hl 21 rfl) ?_
                refine i_y S hJ 2 rfl (j := k) hk2 (by omega) dL_law_1042 ?_
                rw [show (f3 k) = (nI ag) from v3]
                refine lv_aload_n S.1 S.2.1 dL_law_1043 rfl (lv_at hl 4 rfl) ?_
                refine lv_iload S.1 S.2.1 dL_law_1044 (lv_at hl 21 rfl) ?_
                refine cz_i hJ (rzV (As := [.int (nI k)]) (rest := [.int (nI ag), .int (nI ag + 1)]) S hJ (c_isFrozen l _ (hourX α) hok2 hk2 hn hX2) (cw_L_X3_isFrozen S.2.2.2.2 ⟨by omega, by omega⟩) (rcX hJ.iv) rfl hl.1 (Nat.le_of_ble_eq_true rfl) dL_law_1046 ⟨by omega, by omega⟩) (fun r4 σ4 H locs hq4 hJ => ?_)
                obtain ⟨hr4, hs4⟩ := hq4
                rw [hs4] at hJ
                rw [hr4, show (if (gP (hourX α) k).1 = 2 then (1 : Int32) else 0) = 0 from by rw [hP2]; rfl]
                refine lv_if_eq (tgt := 1056) S.1 S.2.1 dL_law_1049 (by decide) (fun cz_1049 => ?_) (fun c9 => absurd (by decide) c9)
                refine lv_iconst (v := 1) S.1 S.2.1 dL_law_1056 (by decide) ?_
                refine lv_iadd S.1 S.2.1 dL_law_1057 ?_
                refine lv_icmp_ne (tgt := 1104) S.1 S.2.1 dL_law_1058 (by decide) (fun c9 => absurd rfl c9) (fun cz_1058 => ?_)
                refine lv_aload_n S.1 S.2.1 dL_law_1061 rfl (lv_at hl 4 rfl) ?_
                refine lv_iload S.1 S.2.1 dL_law_1062 (lv_at hl 21 rfl) ?_
                refine cz_i hJ (rzV (As := [.int (nI k)]) (rest := []) S hJ (c_isFrozen l _ (hourX α) hok2 hk2 hn hX2) (cw_L_X3_isFrozen S.2.2.2.2 ⟨by omega, by omega⟩) (rcX hJ.iv) rfl hl.1 (Nat.le_of_ble_eq_true rfl) dL_law_1064 ⟨by omega, by omega⟩) (fun r5 σ5 H locs hq5 hJ => ?_)
                obtain ⟨hr5, hs5⟩ := hq5
                rw [hs5] at hJ
                rw [hr5, show (if (gP (hourX α) k).1 = 2 then (1 : Int32) else 0) = 0 from by rw [hP2]; rfl]
                refine lv_if_eq (tgt := 1081) S.1 S.2.1 dL_law_1067 (by decide) (fun cz_1067 => ?_) (fun c9 => absurd (by decide) c9)
                refine lv_aload_n S.1 S.2.1 dL_law_1081 rfl (lv_at hl 4 rfl) ?_
                refine lv_iload S.1 S.2.1 dL_law_1082 (lv_at hl 21 rfl) ?_
                refine cz_i hJ (rzV (As := [.int (nI k)]) (rest := []) S hJ (c_isExpired l _ (hourX α) hok2 hk2 hn hX2) (cw_L_X3_isExpired S.2.2.2.2 ⟨by omega, by omega⟩) (rcX hJ.iv) rfl hl.1 (Nat.le_of_ble_eq_true rfl) dL_law_1084 ⟨by omega, by omega⟩) (fun r6 σ6 H locs hq6 hJ => ?_)
                obtain ⟨hr6, hs6⟩ := hq6
                rw [hs6] at hJ
                rw [hr6, show (if (gP (hourX α) k).1 = 5 then (1 : Int32) else 0) = 0 from by rw [hP2]; rfl]
                refine lv_aload_n S.1 S.2.1 dL_law_1087 rfl (lv_at hl 4 rfl) ?_
                refine lv_iload S.1 S.2.1 dL_law_1088 (lv_at hl 21 rfl) ?_
                refine cz_i hJ (rzV (As := [.int (nI k)]) (rest := [.int 0]) S hJ (c_hoursLeft l _ (hourX α) hk2 hn hX2) (cw_L_X3_hoursLeft S.2.2.2.2 ⟨by omega, by omega⟩) (rcX hJ.iv) rfl hl.1 (Nat.le_of_ble_eq_true rfl) dL_law_1090 ⟨by omega, by omega⟩) (fun r7 σ7 H locs hq7 hJ => ?_)
                obtain ⟨hr7, hs7⟩ := hq7
                rw [hs7] at hJ
                rw [hr7, show (gP (hourX α) k).2.2.2.1 - (gP (hourX α) k).2.2.2.2.1 = nI lf - (nI ag + 1) from by rw [hP2]]
                refine lv_if_ne (tgt := 1100) S.1 S.2.1 dL_law_1093 (by decide) (fun cz_1093 => ?_) (fun c9 => absurd c9 (young_ne c2 hal e5))
                refine lv_iconst (v := 0) S.1 S.2.1 dL_law_1100 (by decide) ?_
                refine lv_icmp_eq (tgt := 1106) S.1 S.2.1 dL_law_1101 (by decide) (fun cz_1101 => ?_) (fun c9 => absurd (by decide) c9)
                refine lv_iinc (v := (nI (k + 1))) (lv' := [(28, .int (nI (k + 1))), (27, .int ((sumN (thF α) k) + 0)), (30, .int ((draw to9 w9) - w9)), (29, .int (to9 - w9)), (0, .ref (gE G 6)), (1, .ref (gB G 0)), (2, .ref q0), (3, .int (nI tt)), (7, .int (nI n)), (13, .int (nI o9)), (14, .int F1), (15, .int F2), (16, .int F3), (18, .int (nI hN)), (19, .int lf9), (20, .int (nI jh)), (21, .ref qa), (22, .ref qb), (23, .ref qc), (24, .ref qd), (25, .ref qe), (26, .int (sumN (xR α) 20))]) S.1 S.2.1 dL_law_1106 hl (k := 21) rfl (nI_1 k) (by decide) rfl (fun ls hl => ?_)
                refine lv_goto (tgt := 861) S.1 S.2.1 dL_law_1109 (by decide) ?_
                exact ih (k + 1) (by omega) _ _ hJ ls (by rw [show sumN (thF α) (k + 1) = ((sumN (thF α) k) + 0) from by rw [sumN_s, hth0]]; exact lv_sub hl [4, 5, 6, 7, 8, 9, 10, 11, 12, 13, 14, 15, 16, 17, 18, 19, 20, 21, 1, 0] rfl)
              · refine lv_iload S.1 S.2.1 dL_law_861 (lv_at hl 19 rfl) ?_
                refine lv_iload S.1 S.2.1 dL_law_863 (lv_at hl 4 rfl) ?_
                refine lv_icmp_ge (tgt := 1112) S.1 S.2.1 dL_law_865 (by decide) (fun c9 => absurd c9 (nI_ge hk2 (by omega))) (fun cz_865 => ?_)
                refine lv_aload S.1 S.2.1 dL_law_868 (lv_at hl 15 rfl) ?_
                refine lv_iload S.1 S.2.1 dL_law_870 (lv_at hl 19 rfl) ?_
                refine i_y S hJ 3 rfl (j := k) hk2 (by omega) dL_law_872 ?_
                rw [show (f4 k) = (nI sh) from v4]
                refine lv_if_ge (tgt := 915) S.1 S.2.1 dL_law_873 (by decide) (fun cz_873 => ?_) (fun c9 => absurd (Int32.not_lt.mp (nI_pos (by omega))) c9)
                refine lv_aload_n S.1 S.2.1 dL_law_915 rfl (lv_at hl 1 rfl) ?_
                refine lv_aload S.1 S.2.1 dL_law_916 (lv_at hl 15 rfl) ?_
                refine lv_iload S.1 S.2.1 dL_law_918 (lv_at hl 19 rfl) ?_
                refine i_y S hJ 3 rfl (j := k) hk2 (by omega) dL_law_920 ?_
                rw [show (f4 k) = (nI sh) from v4]
                refine cz_i hJ (rzV (As := [.int (nI sh)]) (rest := []) S hJ (c_heatOn l _ (hourX α) hs5) (cw_L_X3_heatOn S.2.2.2.2 ⟨by omega, by omega⟩) (rcX hJ.iv) rfl hl.1 (Nat.le_of_ble_eq_true rfl) dL_law_921 ⟨by omega, by omega⟩) (fun r1 σ1 H locs hq1 hJ => ?_)
                obtain ⟨hr1, hs1⟩ := hq1
                rw [hs1] at hJ
                rw [hr1, hSt]
                refine lv_aload S.1 S.2.1 dL_law_924 (lv_at hl 13 rfl) ?_
                refine lv_iload S.1 S.2.1 dL_law_926 (lv_at hl 19 rfl) ?_
                refine i_y S hJ 1 rfl (j := k) hk2 (by omega) dL_law_928 ?_
                rw [show (f2 k) = w9 from v2]
                refine lv_isub S.1 S.2.1 dL_law_929 ?_
                refine lv_istore (lv' := [(29, .int (to9 - w9)), (0, .ref (gE G 6)), (1, .ref (gB G 0)), (2, .ref q0), (3, .int (nI tt)), (7, .int (nI n)), (13, .int (nI o9)), (14, .int F1), (15, .int F2), (16, .int F3), (18, .int (nI hN)), (19, .int lf9), (20, .int (nI jh)), (21, .ref qa), (22, .ref qb), (23, .ref qc), (24, .ref qd), (25, .ref qe), (26, .int (sumN (xR α) 20)), (27, .int (sumN (thF α) k)), (28, .int (nI k))]) S.1 S.2.1 dL_law_930 hl (by decide) rfl (fun ls hl => ?_)
                refine lv_aload_n S.1 S.2.1 dL_law_932 rfl (lv_at hl 2 rfl) ?_
                refine lv_iload S.1 S.2.1 dL_law_933 (lv_at hl 20 rfl) ?_
                refine cz_i hJ (rzV (As := [.int (nI k)]) (rest := []) S hJ (c_heatOf l _ (hourX α) hk2 hn hX2) (cw_L_X3_heatOf S.2.2.2.2 ⟨by omega, by omega⟩) (rcX hJ.iv) rfl hl.1 (Nat.le_of_ble_eq_true rfl) dL_law_935 ⟨by omega, by omega⟩) (fun r2 σ2 H locs hq2 hJ => ?_)
                obtain ⟨hr2, hs2⟩ := hq2
                rw [hs2] at hJ
                rw [hr2, show (gP (hourX α) k).2.2.2.2.2 = (draw to9 w9) from by rw [hP2]]
                refine lv_aload S.1 S.2.1 dL_law_938 (lv_at hl 14 rfl) ?_
                refine lv_iload S.1 S.2.1 dL_law_940 (lv_at hl 20 rfl) ?_
                refine i_y S hJ 1 rfl (j := k) hk2 (by omega) dL_law_942 ?_
                rw [show (f2 k) = w9 from v2]
                refine lv_isub S.1 S.2.1 dL_law_943 ?_
                refine lv_istore (lv' := [(30, .int ((draw to9 w9) - w9)), (29, .int (to9 - w9)), (0, .ref (gE G 6)), (1, .ref (gB G 0)), (2, .ref q0), (3, .int (nI tt)), (7, .int (nI n)), (13, .int (nI o9)), (14, .int F1), (15, .int F2), (16, .int F3), (18, .int (nI hN)), (19, .int lf9), (20, .int (nI jh)), (21, .ref qa), (22, .ref qb), (23, .ref qc), (24, .ref qd), (25, .ref qe), (26, .int (sumN (xR α) 20)), (27, .int (sumN (thF α) k)), (28, .int (nI k))]) S.1 S.2.1 dL_law_944 hl (by decide) rfl (fun ls hl => ?_)
                refine lv_iload S.1 S.2.1 dL_law_946 (lv_at hl 20 rfl) ?_
                refine lv_aload S.1 S.2.1 dL_law_948 (lv_at hl 18 rfl) ?_
                refine lv_iload S.1 S.2.1 dL_law_950 (lv_at hl 21 rfl) ?_
                refine i_yz S hJ 4 rfl (j := k) hk2 (by omega) dL_law_952 ?_
                rw [show (f5 k) = 0 from v5]
                refine lv_if_eq (tgt := 969) S.1 S.2.1 dL_law_953 (by decide) (fun cz_953 => ?_) (fun c9 => absurd (by decide) c9)
                refine lv_iconst (v := 0) S.1 S.2.1 dL_law_969 (by decide) ?_
                refine lv_iadd S.1 S.2.1 dL_law_970 ?_
                refine lv_istore (lv' := [(27, .int ((sumN (thF α) k) + 0)), (30, .int ((draw to9 w9) - w9)), (29, .int (to9 - w9)), (0, .ref (gE G 6)), (1, .ref (gB G 0)), (2, .ref q0), (3, .int (nI tt)), (7, .int (nI n)), (13, .int (nI o9)), (14, .int F1), (15, .int F2), (16, .int F3), (18, .int (nI hN)), (19, .int lf9), (20, .int (nI jh)), (21, .ref qa), (22, .ref qb), (23, .ref qc), (24, .ref qd), (25, .ref qe), (26, .int (sumN (xR α) 20)), (28, .int (nI k))]) S.1 S.2.1 dL_law_971 hl (by decide) rfl (fun ls hl => ?_)
                refine lv_iload S.1 S.2.1 dL_law_973 (lv_at hl 2 rfl) ?_
                refine lv_if_ne (tgt := 982) S.1 S.2.1 dL_law_975 (by decide) (fun cz_975 => ?_) (fun c9 => absurd c9 (pos_ne n1))
                refine lv_iconst (v := 0) S.1 S.2.1 dL_law_982 (by decide) ?_
                refine lv_iload S.1 S.2.1 dL_law_983 (lv_at hl 1 rfl) ?_
                refine lv_if_ne (tgt := 992) S.1 S.2.1 dL_law_985 (by decide) (fun cz_985 => ?_) (fun c9 => absurd c9 (one_ne n2))
                refine lv_iconst (v := 0) S.1 S.2.1 dL_law_992 (by decide) ?_
                refine lv_icmp_ne (tgt := 1104) S.1 S.2.1 dL_law_993 (by decide) (fun c9 => absurd (by decide) c9) (fun cz_993 => ?_)
                refine lv_iload S.1 S.2.1 dL_law_996 (lv_at hl 2 rfl) ?_
                refine lv_if_le (tgt := 1014) S.1 S.2.1 dL_law_998 (by decide) (fun c9 => absurd c9 (Int32.not_le.mpr n1)) (fun cz_998 => ?_)
                refine lv_iload S.1 S.2.1 dL_law_1001 (lv_at hl 1 rfl) ?_
                refine lv_iconst (v := 1) S.1 S.2.1 dL_law_1003 (by decide) ?_
                refine lv_icmp_lt (tgt := 1104) S.1 S.2.1 dL_law_1004 (by decide) (fun c9 => absurd c9 (Int32.not_lt.mpr n2)) (fun cz_1004 => ?_)
                refine lv_iload S.1 S.2.1 dL_law_1007 (lv_at hl 1 rfl) ?_
                refine lv_iload S.1 S.2.1 dL_law_1009 (lv_at hl 2 rfl) ?_
                refine lv_icmp_gt (tgt := 1104) S.1 S.2.1 dL_law_1011 (by decide) (fun c9 => absurd c9 (Int32.not_lt.mpr n3)) (fun cz_1011 => ?_)
                refine lv_iload S.1 S.2.1 dL_law_1014 (lv_at hl 2 rfl) ?_
                refine lv_if_ge (tgt := 1032) S.1 S.2.1 dL_law_1016 (by decide) (fun cz_1016 => ?_) (fun c9 => absurd (Int32.le_of_lt n1) c9)
                refine lv_aload_n S.1 S.2.1 dL_law_1032 rfl (lv_at hl 4 rfl) ?_
                refine lv_iload S.1 S.2.1 dL_law_1033 (lv_at hl 21 rfl) ?_
                refine cz_i hJ (rzV (As := [.int (nI k)]) (rest := []) S hJ (c_ageOf l _ (hourX α) hk2 hn hX2) (cw_L_X3_ageOf S.2.2.2.2 ⟨by omega, by omega⟩) (rcX hJ.iv) rfl hl.1 (Nat.le_of_ble_eq_true rfl) dL_law_1035 ⟨by omega, by omega⟩) (fun r3 σ3 H locs hq3 hJ => ?_)
                obtain ⟨hr3, hs3⟩ := hq3
                rw [hs3] at hJ
                rw [hr3, show (gP (hourX α) k).2.2.2.2.1 = (nI ag + 1) from by rw [hP2]]
                refine lv_aload S.1 S.2.1 dL_law_1038 (lv_at hl 17 rfl) ?_
                refine lv_iload S.1 S.2.1 dL_law_1040 (lv_at hl 21 rfl) ?_
                refine i_y S hJ 2 rfl (j := k) hk2 (by omega) dL_law_1042 ?_
                rw [show (f3 k) = (nI ag) from v3]
                refine lv_aload_n S.1 S.2.1 dL_law_1043 rfl (lv_at hl 4 rfl) ?_
                refine lv_iload S.1 S.2.1 dL_law_1044 (lv_at hl 21 rfl) ?_
                refine cz_i hJ (rzV (As := [.int (nI k)]) (rest := [.int (nI ag), .int (nI ag + 1)]) S hJ (c_isFrozen l _ (hourX α) hok2 hk2 hn hX2) (cw_L_X3_isFrozen S.2.2.2.2 ⟨by omega, by omega⟩) (rcX hJ.iv) rfl hl.1 (Nat.le_of_ble_eq_true rfl) dL_law_1046 ⟨by omega, by omega⟩) (fun r4 σ4 H locs hq4 hJ => ?_)
                obtain ⟨hr4, hs4⟩ := hq4
                rw [hs4] at hJ
                rw [hr4, show (if (gP (hourX α) k).1 = 2 then (1 : Int32) else 0) = 0 from by rw [hP2]; rfl]
                refine lv_if_eq (tgt := 1056) S.1 S.2.1 dL_law_1049 (by decide) (fun cz_1049 => ?_) (fun c9 => absurd (by decide) c9)
                refine lv_iconst (v := 1) S.1 S.2.1 dL_law_1056 (by decide) ?_
                refine lv_iadd S.1 S.2.1 dL_law_1057 ?_
                refine lv_icmp_ne (tgt := 1104) S.1 S.2.1 dL_law_1058 (by decide) (fun c9 => absurd rfl c9) (fun cz_1058 => ?_)
                refine lv_aload_n S.1 S.2.1 dL_law_1061 rfl (lv_at hl 4 rfl) ?_
                refine lv_iload S.1 S.2.1 dL_law_1062 (lv_at hl 21 rfl) ?_
                refine cz_i hJ (rzV (As := [.int (nI k)]) (rest := []) S hJ (c_isFrozen l _ (hourX α) hok2 hk2 hn hX2) (cw_L_X3_isFrozen S.2.2.2.2 ⟨by omega, by omega⟩) (rcX hJ.iv) rfl hl.1 (Nat.le_of_ble_eq_true rfl) dL_law_1064 ⟨by omega, by omega⟩) (fun r5 σ5 H locs hq5 hJ => ?_)
                obtain ⟨hr5, hs5⟩ := hq5
                rw [hs5] at hJ
                rw [hr5, show (if (gP (hourX α) k).1 = 2 then (1 : Int32) else 0) = 0 from by rw [hP2]; rfl]
                refine lv_if_eq (tgt := 1081) S.1 S.2.1 dL_law_1067 (by decide) (fun cz_1067 => ?_) (fun c9 => absurd (by decide) c9)
                refine lv_aload_n S.1 S.2.1 dL_law_1081 rfl (lv_at hl 4 rfl) ?_
                refine lv_iload S.1 S.2.1 dL_law_1082 (lv_at hl 21 rfl) ?_
                refine cz_i hJ (rzV (As := [.int (nI k)]) (rest := []) S hJ (c_isExpired l _ (hourX α) hok2 hk2 hn hX2) (cw_L_X3_isExpired S.2.2.2.2 ⟨by omega, by omega⟩) (rcX hJ.iv) rfl hl.1 (Nat.le_of_ble_eq_true rfl) dL_law_1084 ⟨by omega, by omega⟩) (fun r6 σ6 H locs hq6 hJ => ?_)
                obtain ⟨hr6, hs6⟩ := hq6
                rw [hs6] at hJ
                rw [hr6, show (if (gP (hourX α) k).1 = 5 then (1 : Int32) else 0) = 0 from by rw [hP2]; rfl]
                refine lv_aload_n S.1 S.2.1 dL_law_1087 rfl (lv_at hl 4 rfl) ?_
                refine lv_iload S.1 S.2.1 dL_law_1088 (lv_at hl 21 rfl) ?_
                refine cz_i hJ (rzV (As := [.int (nI k)]) (rest := [.int 0]) S hJ (c_hoursLeft l _ (hourX α) hk2 hn hX2) (cw_L_X3_hoursLeft S.2.2.2.2 ⟨by omega, by omega⟩) (rcX hJ.iv) rfl hl.1 (Nat.le_of_ble_eq_true rfl) dL_law_1090 ⟨by omega, by omega⟩) (fun r7 σ7 H locs hq7 hJ => ?_)
                obtain ⟨hr7, hs7⟩ := hq7
                rw [hs7] at hJ
                rw [hr7, show (gP (hourX α) k).2.2.2.1 - (gP (hourX α) k).2.2.2.2.1 = nI lf - (nI ag + 1) from by rw [hP2]]
                refine lv_if_ne (tgt := 1100) S.1 S.2.1 dL_law_1093 (by decide) (fun cz_1093 => ?_) (fun c9 => absurd c9 (young_ne c2 hal e5))
                refine lv_iconst (v := 0) S.1 S.2.1 dL_law_1100 (by decide) ?_
                refine lv_icmp_eq (tgt := 1106) S.1 S.2.1 dL_law_1101 (by decide) (fun cz_1101 => ?_) (fun c9 => absurd (by decide) c9)
                refine lv_iinc (v := (nI (k + 1))) (lv' := [(28, .int (nI (k + 1))), (27, .int ((sumN (thF α) k) + 0)), (30, .int ((draw to9 w9) - w9)), (29, .int (to9 - w9)), (0, .ref (gE G 6)), (1, .ref (gB G 0)), (2, .ref q0), (3, .int (nI tt)), (7, .int (nI n)), (13, .int (nI o9)), (14, .int F1), (15, .int F2), (16, .int F3), (18, .int (nI hN)), (19, .int lf9), (20, .int (nI jh)), (21, .ref qa), (22, .ref qb), (23, .ref qc), (24, .ref qd), (25, .ref qe), (26, .int (sumN (xR α) 20))]) S.1 S.2.1 dL_law_1106 hl (k := 21) rfl (nI_1 k) (by decide) rfl (fun ls hl => ?_)
                refine lv_goto (tgt := 861) S.1 S.2.1 dL_law_1109 (by decide) ?_
                exact ih (k + 1) (by omega) _ _ hJ ls (by rw [show sumN (thF α) (k + 1) = ((sumN (thF α) k) + 0) from by rw [sumN_s, hth0]]; exact lv_sub hl [4, 5, 6, 7, 8, 9, 10, 11, 12, 13, 14, 15, 16, 17, 18, 19, 20, 21, 1, 0] rfl)
              · refine lv_iload S.1 S.2.1 dL_law_861 (lv_at hl 19 rfl) ?_
                refine lv_iload S.1 S.2.1 dL_law_863 (lv_at hl 4 rfl) ?_
                refine lv_icmp_ge (tgt := 1112) S.1 S.2.1 dL_law_865 (by decide) (fun c9 => absurd c9 (nI_ge hk2 (by omega))) (fun cz_865 => ?_)
                refine lv_aload S.1 S.2.1 dL_law_868 (lv_at hl 15 rfl) ?_
                refine lv_iload S.1 S.2.1 dL_law_870 (lv_at hl 19 rfl) ?_
                refine i_y S hJ 3 rfl (j := k) hk2 (by omega) dL_law_872 ?_
                rw [show (f4 k) = (nI sh) from v4]
                refine lv_if_ge (tgt := 915) S.1 S.2.1 dL_law_873 (by decide) (fun cz_873 => ?_) (fun c9 => absurd (Int32.not_lt.mp (nI_pos (by omega))) c9)
                refine lv_aload_n S.1 S.2.1 dL_law_915 rfl (lv_at hl 1 rfl) ?_
                refine lv_aload S.1 S.2.1 dL_law_916 (lv_at hl 15 rfl) ?_
                refine lv_iload S.1 S.2.1 dL_law_918 (lv_at hl 19 rfl) ?_
                refine i_y S hJ 3 rfl (j := k) hk2 (by omega) dL_law_920 ?_
                rw [show (f4 k) = (nI sh) from v4]
                refine cz_i hJ (rzV (As := [.int (nI sh)]) (rest := []) S hJ (c_heatOn l _ (hourX α) hs5) (cw_L_X3_heatOn S.2.2.2.2 ⟨by omega, by omega⟩) (rcX hJ.iv) rfl hl.1 (Nat.le_of_ble_eq_true rfl) dL_law_921 ⟨by omega, by omega⟩) (fun r1 σ1 H locs hq1 hJ => ?_)
                obtain ⟨hr1, hs1⟩ := hq1
                rw [hs1] at hJ
                rw [hr1, hSt]
                refine lv_aload S.1 S.2.1 dL_law_924 (lv_at hl 13 rfl) ?_
                refine lv_iload S.1 S.2.1 dL_law_926 (lv_at hl 19 rfl) ?_
                refine i_y S hJ 1 rfl (j := k) hk2 (by omega) dL_law_928 ?_
                rw [show (f2 k) = w9 from v2]
                refine lv_isub S.1 S.2.1 dL_law_929 ?_
                refine lv_istore (lv' := [(29, .int (to9 - w9)), (0, .ref (gE G 6)), (1, .ref (gB G 0)), (2, .ref q0), (3, .int (nI tt)), (7, .int (nI n)), (13, .int (nI o9)), (14, .int F1), (15, .int F2), (16, .int F3), (18, .int (nI hN)), (19, .int lf9), (20, .int (nI jh)), (21, .ref qa), (22, .ref qb), (23, .ref qc), (24, .ref qd), (25, .ref qe), (26, .int (sumN (xR α) 20)), (27, .int (sumN (thF α) k)), (28, .int (nI k))]) S.1 S.2.1 dL_law_930 hl (by decide) rfl (fun ls hl => ?_)
                refine lv_aload_n S.1 S.2.1 dL_law_932 rfl (lv_at hl 2 rfl) ?_
                refine lv_iload S.1 S.2.1 dL_law_933 (lv_at hl 20 rfl) ?_
                refine cz_i hJ (rzV (As := [.int (nI k)]) (rest := []) S hJ (c_heatOf l _ (hourX α) hk2 hn hX2) (cw_L_X3_heatOf S.2.2.2.2 ⟨by omega, by omega⟩) (rcX hJ.iv) rfl hl.1 (Nat.le_of_ble_eq_true rfl) dL_law_935 ⟨by omega, by omega⟩) (fun r2 σ2 H locs hq2 hJ => ?_)
                obtain ⟨hr2, hs2⟩ := hq2
                rw [hs2] at hJ
                rw [hr2, show (gP (hourX α) k).2.2.2.2.2 = (draw to9 w9) from by rw [hP2]]
                refine lv_aload S.1 S.2.1 dL_law_938 (lv_at hl 14 rfl) ?_
                refine lv_iload S.1 S.2.1 dL_law_940 (lv_at hl 20 rfl) ?_
                refine i_y S hJ 1 rfl (j := k) hk2 (by omega) dL_law_942 ?_
                rw [show (f2 k) = w9 from v2]
                refine lv_isub S.1 S.2.1 dL_law_943 ?_
                refine lv_istore (lv' := [(30, .int ((draw to9 w9) - w9)), (29, .int (to9 - w9)), (0, .ref (gE G 6)), (1, .ref (gB G 0)), (2, .ref q0), (3, .int (nI tt)), (7, .int (nI n)), (13, .int (nI o9)), (14, .int F1), (15, .int F2), (16, .int F3), (18, .int (nI hN)), (19, .int lf9), (20, .int (nI jh)), (21, .ref qa), (22, .ref qb), (23, .ref qc), (24, .ref qd), (25, .ref qe), (26, .int (sumN (xR α) 20)), (27, .int (sumN (thF α) k)), (28, .int (nI k))]) S.1 S.2.1 dL_law_944 hl (by decide) rfl (fun ls hl => ?_)
                refine lv_iload S.1 S.2.1 dL_law_946 (lv_at hl 20 rfl) ?_
                refine lv_aload S.1 S.2.1 dL_law_948 (lv_at hl 18 rfl) ?_
                refine lv_iload S.1 S.2.1 dL_law_950 (lv_at hl 21 rfl) ?_
                refine i_yz S hJ 4 rfl (j := k) hk2 (by omega) dL_law_952 ?_
                rw [show (f5 k) = 0 from v5]
                refine lv_if_eq (tgt := 969) S.1 S.2.1 dL_law_953 (by decide) (fun cz_953 => ?_) (fun c9 => absurd (by decide) c9)
                refine lv_iconst (v := 0) S.1 S.2.1 dL_law_969 (by decide) ?_
                refine lv_iadd S.1 S.2.1 dL_law_970 ?_
                refine lv_istore (lv' := [(27, .int ((sumN (thF α) k) + 0)), (30, .int ((draw to9 w9) - w9)), (29, .int (to9 - w9)), (0, .ref (gE G 6)), (1, .ref (gB G 0)), (2, .ref q0), (3, .int (nI tt)), (7, .int (nI n)), (13, .int (nI o9)), (14, .int F1), (15, .int F2), (16, .int F3), (18, .int (nI hN)), (19, .int lf9), (20, .int (nI jh)), (21, .ref qa), (22, .ref qb), (23, .ref qc), (24, .ref qd), (25, .ref qe), (26, .int (sumN (xR α) 20)), (28, .int (nI k))]) S.1 S.2.1 dL_law_971 hl (by decide) rfl (fun ls hl => ?_)
                refine lv_iload S.1 S.2.1 dL_law_973 (lv_at hl 2 rfl) ?_
                refine lv_if_ne (tgt := 982) S.1 S.2.1 dL_law_975 (by decide) (fun cz_975 => ?_) (fun c9 => absurd c9 (neg_ne n1))
                refine lv_iconst (v := 0) S.1 S.2.1 dL_law_982 (by decide) ?_
                refine lv_iload S.1 S.2.1 dL_law_983 (lv_at hl 1 rfl) ?_
                refine lv_if_ne (tgt := 992) S.1 S.2.1 dL_law_985 (by decide) (fun cz_985 => ?_) (fun c9 => absurd c9 (mone_ne n2))
                refine lv_iconst (v := 0) S.1 S.2.1 dL_law_992 (by decide) ?_
                refine lv_icmp_ne (tgt := 1104) S.1 S.2.1 dL_law_993 (by decide) (fun c9 => absurd (by decide) c9) (fun cz_993 => ?_)
                refine lv_iload S.1 S.2.1 dL_law_996 (lv_at hl 2 rfl) ?_
                refine lv_if_le (tgt := 1014) S.1 S.2.1 dL_law_998 (by decide) (fun cz_998 => ?_) (fun c9 => absurd (Int32.le_of_lt n1) c9)
                refine lv_iload S.1 S.2.1 dL_law_1014 (lv_at hl 2 rfl) ?_
                refine lv_if_ge (tgt := 1032) S.1 S.2.1 dL_law_1016 (by decide) (fun c9 => absurd c9 (Int32.not_le.mpr n1)) (fun cz_1016 => ?_)
                refine lv_iload S.1 S.2.1 dL_law_1019 (lv_at hl 1 rfl) ?_
                refine lv_iconst (v := (-1)) S.1 S.2.1 dL_law_1021 (by decide) ?_
                refine lv_icmp_gt (tgt := 1104) S.1 S.2.1 dL_law_1022 (by decide) (fun c9 => absurd c9 (Int32.not_lt.mpr n2)) (fun cz_1022 => ?_)
                refine lv_iload S.1 S.2.1 dL_law_1025 (lv_at hl 1 rfl) ?_
                refine lv_iload S.1 S.2.1 dL_law_1027 (lv_at hl 2 rfl) ?_
                refine lv_icmp_lt (tgt := 1104) S.1 S.2.1 dL_law_1029 (by decide) (fun c9 => absurd c9 (Int32.not_lt.mpr n3)) (fun cz_1029 => ?_)
                refine lv_aload_n S.1 S.2.1 dL_law_1032 rfl (lv_at hl 4 rfl) ?_
                refine lv_iload S.1 S.2.1 dL_law_1033 (lv_at hl 21 rfl) ?_
                refine cz_i hJ (rzV (As := [.int (nI k)]) (rest := []) S hJ (c_ageOf l _ (hourX α) hk2 hn hX2) (cw_L_X3_ageOf S.2.2.2.2 ⟨by omega, by omega⟩) (rcX hJ.iv) rfl hl.1 (Nat.le_of_ble_eq_true rfl) dL_law_1035 ⟨by omega, by omega⟩) (fun r3 σ3 H locs hq3 hJ => ?_)
                obtain ⟨hr3, hs3⟩ := hq3
                rw [hs3] at hJ
                rw [hr3, show (gP (hourX α) k).2.2.2.2.1 = (nI ag + 1) from by rw [hP2]]
                refine lv_aload S.1 S.2.1 dL_law_1038 (lv_at hl 17 rfl) ?_
                refine lv_iload S.1 S.2.1 dL_law_1040 (lv_at hl 21 rfl) ?_
                refine i_y S hJ 2 rfl (j := k) hk2 (by omega) dL_law_1042 ?_
                rw [show (f3 k) = (nI ag) from v3]
                refine lv_aload_n S.1 S.2.1 dL_law_1043 rfl (lv_at hl 4 rfl) ?_
                refine lv_iload S.1 S.2.1 dL_law_1044 (lv_at hl 21 rfl) ?_
                refine cz_i hJ (rzV (As := [.int (nI k)]) (rest := [.int (nI ag), .int (nI ag + 1)]) S hJ (c_isFrozen l _ (hourX α) hok2 hk2 hn hX2) (cw_L_X3_isFrozen S.2.2.2.2 ⟨by omega, by omega⟩) (rcX hJ.iv) rfl hl.1 (Nat.le_of_ble_eq_true rfl) dL_law_1046 ⟨by omega, by omega⟩) (fun r4 σ4 H locs hq4 hJ => ?_)
                obtain ⟨hr4, hs4⟩ := hq4
                rw [hs4] at hJ
                rw [hr4, show (if (gP (hourX α) k).1 = 2 then (1 : Int32) else 0) = 0 from by rw [hP2]; rfl]
                refine lv_if_eq (tgt := 1056) S.1 S.2.1 dL_law_1049 (by decide) (fun cz_1049 => ?_) (fun c9 => absurd (by decide) c9)
                refine lv_iconst (v := 1) S.1 S.2.1 dL_law_1056 (by decide) ?_
                refine lv_iadd S.1 S.2.1 dL_law_1057 ?_
                refine lv_icmp_ne (tgt := 1104) S.1 S.2.1 dL_law_1058 (by decide) (fun c9 => absurd rfl c9) (fun cz_1058 => ?_)
                refine lv_aload_n S.1 S.2.1 dL_law_1061 rfl (lv_at hl 4 rfl) ?_
                refine lv_iload S.1 S.2.1 dL_law_1062 (lv_at hl 21 rfl) ?_
                refine cz_i hJ (rzV (As := [.int (nI k)]) (rest := []) S hJ (c_isFrozen l _ (hourX α) hok2 hk2 hn hX2) (cw_L_X3_isFrozen S.2.2.2.2 ⟨by omega, by omega⟩) (rcX hJ.iv) rfl hl.1 (Nat.le_of_ble_eq_true rfl) dL_law_1064 ⟨by omega, by omega⟩) (fun r5 σ5 H locs hq5 hJ => ?_)
                obtain ⟨hr5, hs5⟩ := hq5
                rw [hs5] at hJ
                rw [hr5, show (if (gP (hourX α) k).1 = 2 then (1 : Int32) else 0) = 0 from by rw [hP2]; rfl]
                refine lv_if_eq (tgt := 1081) S.1 S.2.1 dL_law_1067 (by decide) (fun cz_1067 => ?_) (fun c9 => absurd (by decide) c9)
                refine lv_aload_n S.1 S.2.1 dL_law_1081 rfl (lv_at hl 4 rfl) ?_
                refine lv_iload S.1 S.2.1 dL_law_1082 (lv_at hl 21 rfl) ?_
                refine cz_i hJ (rzV (As := [.int (nI k)]) (rest := []) S hJ (c_isExpired l _ (hourX α) hok2 hk2 hn hX2) (cw_L_X3_isExpired S.2.2.2.2 ⟨by omega, by omega⟩) (rcX hJ.iv) rfl hl.1 (Nat.le_of_ble_eq_true rfl) dL_law_1084 ⟨by omega, by omega⟩) (fun r6 σ6 H locs hq6 hJ => ?_)
                obtain ⟨hr6, hs6⟩ := hq6
                rw [hs6] at hJ
                rw [hr6, show (if (gP (hourX α) k).1 = 5 then (1 : Int32) else 0) = 0 from by rw [hP2]; rfl]
                refine lv_aload_n S.1 S.2.1 dL_law_1087 rfl (lv_at hl 4 rfl) ?_
                refine lv_iload S.1 S.2.1 dL_law_1088 (lv_at hl 21 rfl) ?_
                refine cz_i hJ (rzV (As := [.int (nI k)]) (rest := [.int 0]) S hJ (c_hoursLeft l _ (hourX α) hk2 hn hX2) (cw_L_X3_hoursLeft S.2.2.2.2 ⟨by omega, by omega⟩) (rcX hJ.iv) rfl hl.1 (Nat.le_of_ble_eq_true rfl) dL_law_1090 ⟨by omega, by omega⟩) (fun r7 σ7 H locs hq7 hJ => ?_)
                obtain ⟨hr7, hs7⟩ := hq7
                rw [hs7] at hJ
                rw [hr7, show (gP (hourX α) k).2.2.2.1 - (gP (hourX α) k).2.2.2.2.1 = nI lf - (nI ag + 1) from by rw [hP2]]
                refine lv_if_ne (tgt := 1100) S.1 S.2.1 dL_law_1093 (by decide) (fun cz_1093 => ?_) (fun c9 => absurd c9 (young_ne c2 hal e5))
                refine lv_iconst (v := 0) S.1 S.2.1 dL_law_1100 (by decide) ?_
                refine lv_icmp_eq (tgt := 1106) S.1 S.2.1 dL_law_1101 (by decide) (fun cz_1101 => ?_) (fun c9 => absurd (by decide) c9)
                refine lv_iinc (v := (nI (k + 1))) (lv' := [(28, .int (nI (k + 1))), (27, .int ((sumN (thF α) k) + 0)), (30, .int ((draw to9 w9) - w9)), (29, .int (to9 - w9)), (0, .ref (gE G 6)), (1, .ref (gB G 0)), (2, .ref q0), (3, .int (nI tt)), (7, .int (nI n)), (13, .int (nI o9)), (14, .int F1), (15, .int F2), (16, .int F3), (18, .int (nI hN)), (19, .int lf9), (20, .int (nI jh)), (21, .ref qa), (22, .ref qb), (23, .ref qc), (24, .ref qd), (25, .ref qe), (26, .int (sumN (xR α) 20))]) S.1 S.2.1 dL_law_1106 hl (k := 21) rfl (nI_1 k) (by decide) rfl (fun ls hl => ?_)
                refine lv_goto (tgt := 861) S.1 S.2.1 dL_law_1109 (by decide) ?_
                exact ih (k + 1) (by omega) _ _ hJ ls (by rw [show sumN (thF α) (k + 1) = ((sumN (thF α) k) + 0) from by rw [sumN_s, hth0]]; exact lv_sub hl [4, 5, 6, 7, 8, 9, 10, 11, 12, 13, 14, 15, 16, 17, 18, 19, 20, 21, 1, 0] rfl)
            · obtain ⟨hA, -⟩ := (hq_b hs5 c1 c2 : hourP to9 (1, sh, mk9, nI lf, nI ag, w9) = _ ∧ _)
              rw [hA] at hP2
              rw [hP2] at hth
              have hth0 : thF α k = 0 := by rw [hth]; exact if_neg (fun q => absurd q.1 (show ¬ (1 : Nat) = 2 by decide))
              rcases hnear with ⟨n1, n2⟩ | ⟨n1, n2, n3⟩ | ⟨n1, n2, n3⟩
              · refine lv_iload S.1 S.2.1 dL_law_861 (lv_at hl 19 rfl) ?_
                refine lv_iload S.1 S.2.1 dL_law_863 (lv_at hl 4 rfl) ?_
                refine lv_icmp_ge (tgt := 1112) S.1 S.2.1 dL_law_865 (by decide) (fun c9 => absurd c9 (nI_ge hk2 (by omega))) (fun cz_865 => ?_)
                refine lv_aload S.1 S.2.1 dL_law_868 (lv_at hl 15 rfl) ?_
                refine lv_iload S.1 S.2.1 dL_law_870 (lv_at hl 19 rfl) ?_
                refine i_y S hJ 3 rfl (j := k) hk2 (by omega) dL_law_872 ?_
                rw [show (f4 k) = (nI sh) from v4]
                refine lv_if_ge (tgt := 915) S.1 S.2.1 dL_law_873 (by decide) (fun cz_873 => ?_) (fun c9 => absurd (Int32.not_lt.mp (nI_pos (by omega))) c9)
                refine lv_aload_n S.1 S.2.1 dL_law_915 rfl (lv_at hl 1 rfl) ?_
                refine lv_aload S.1 S.2.1 dL_law_916 (lv_at hl 15 rfl) ?_
                refine lv_iload S.1 S.2.1 dL_law_918 (lv_at hl 19 rfl) ?_
                refine i_y S hJ 3 rfl (j := k) hk2 (by omega) dL_law_920 ?_
                rw [show (f4 k) = (nI sh) from v4]
                refine cz_i hJ (rzV (As := [.int (nI sh)]) (rest := []) S hJ (c_heatOn l _ (hourX α) hs5) (cw_L_X3_heatOn S.2.2.2.2 ⟨by omega, by omega⟩) (rcX hJ.iv) rfl hl.1 (Nat.le_of_ble_eq_true rfl) dL_law_921 ⟨by omega, by omega⟩) (fun r1 σ1 H locs hq1 hJ => ?_)
                obtain ⟨hr1, hs1⟩ := hq1
                rw [hs1] at hJ
                rw [hr1, hSt]
                refine lv_aload S.1 S.2.1 dL_law_924 (lv_at hl 13 rfl) ?_
                refine lv_iload S.1 S.2.1 dL_law_926 (lv_at hl 19 rfl) ?_
                refine i_y S hJ 1 rfl (j := k) hk2 (by omega) dL_law_928 ?_
                rw [show (f2 k) = w9 from v2]
                refine lv_isub S.1 S.2.1 dL_law_929 ?_
                refine lv_istore (lv' := [(29, .int (to9 - w9)), (0, .ref (gE G 6)), (1, .ref (gB G 0)), (2, .ref q0), (3, .int (nI tt)), (7, .int (nI n)), (13, .int (nI o9)), (14, .int F1), (15, .int F2), (16, .int F3), (18, .int (nI hN)), (19, .int lf9), (20, .int (nI jh)), (21, .ref qa), (22, .ref qb), (23, .ref qc), (24, .ref qd), (25, .ref qe), (26, .int (sumN (xR α) 20)), (27, .int (sumN (thF α) k)), (28, .int (nI k))]) S.1 S.2.1 dL_law_930 hl (by decide) rfl (fun ls hl => ?_)
                refine lv_aload_n S.1 S.2.1 dL_law_932 rfl (lv_at hl 2 rfl) ?_
                refine lv_iload S.1 S.2.1 dL_law_933 (lv_at hl 20 rfl) ?_
                refine cz_i hJ (rzV (As := [.int (nI k)]) (rest := []) S hJ (c_heatOf l _ (hourX α) hk2 hn hX2) (cw_L_X3_heatOf S.2.2.2.2 ⟨by omega, by omega⟩) (rcX hJ.iv) rfl hl.1 (Nat.le_of_ble_eq_true rfl) dL_law_935 ⟨by omega, by omega⟩) (fun r2 σ2 H locs hq2 hJ => ?_)
                obtain ⟨hr2, hs2⟩ := hq2
                rw [hs2] at hJ
                rw [hr2, show (gP (hourX α) k).2.2.2.2.2 = (draw to9 w9) from by rw [hP2]]
                refine lv_aload S.1 S.2.1 dL_law_938 (lv_at hl 14 rfl) ?_
                refine lv_iload S.1 S.2.1 dL_law_940 (lv_at hl 20 rfl) ?_
                refine i_y S hJ 1 rfl (j := k) hk2 (by omega) dL_law_942 ?_
                rw [show (f2 k) = w9 from v2]
                refine lv_isub S.1 S.2.1 dL_law_943 ?_
                refine lv_istore (lv' := [(30, .int ((draw to9 w9) - w9)), (29, .int (to9 - w9)), (0, .ref (gE G 6)), (1, .ref (gB G 0)), (2, .ref q0), (3, .int (nI tt)), (7, .int (nI n)), (13, .int (nI o9)), (14, .int F1), (15, .int F2), (16, .int F3), (18, .int (nI hN)), (19, .int lf9), (20, .int (nI jh)), (21, .ref qa), (22, .ref qb), (23, .ref qc), (24, .ref qd), (25, .ref qe), (26, .int (sumN (xR α) 20)), (27, .int (sumN (thF α) k)), (28, .int (nI k))]) S.1 S.2.1 dL_law_944 hl (by decide) rfl (fun ls hl => ?_)
                refine lv_iload S.1 S.2.1 dL_law_946 (lv_at hl 20 rfl) ?_
                refine lv_aload S.1 S.2.1 dL_law_948 (lv_at hl 18 rfl) ?_
                refine lv_iload S.1 S.2.1 dL_law_950 (lv_at hl 21 rfl) ?_
                refine i_yz S hJ 4 rfl (j := k) hk2 (by omega) dL_law_952 ?_
                rw [show (f5 k) = 0 from v5]
                refine lv_if_eq (tgt := 969) S.1 S.2.1 dL_law_953 (by decide) (fun cz_953 => ?_) (fun c9 => absurd (by decide) c9)
                refine lv_iconst (v := 0) S.1 S.2.1 dL_law_969 (by decide) ?_
                refine lv_iadd S.1 S.2.1 dL_law_970 ?_
                refine lv_istore (lv' := [(27, .int ((sumN (thF α) k) + 0)), (30, .int ((draw to9 w9) - w9)), (29, .int (to9 - w9)), (0, .ref (gE G 6)), (1, .ref (gB G 0)), (2, .ref q0), (3, .int (nI tt)), (7, .int (nI n)), (13, .int (nI o9)), (14, .int F1), (15, .int F2), (16, .int F3), (18, .int (nI hN)), (19, .int lf9), (20, .int (nI jh)), (21, .ref qa), (22, .ref qb), (23, .ref qc), (24, .ref qd), (25, .ref qe), (26, .int (sumN (xR α) 20)), (28, .int (nI k))]) S.1 S.2.1 dL_law_971 hl (by decide) rfl (fun ls hl => ?_)
                refine lv_iload S.1 S.2.1 dL_law_973 (lv_at hl 2 rfl) ?_
                refine lv_if_ne (tgt := 982) S.1 S.2.1 dL_law_975 (by decide) (fun c9 => absurd n1 c9) (fun cz_975 => ?_)
                refine lv_iconst (v := 1) S.1 S.2.1 dL_law_978 (by decide) ?_
                refine lv_goto (tgt := 983) S.1 S.2.1 dL_law_979 (by decide) ?_
                refine lv_iload S.1 S.2.1 dL_law_983 (lv_at hl 1 rfl) ?_
                refine lv_if_ne (tgt := 992) S.1 S.2.1 dL_law_985 (by decide) (fun c9 => absurd n2 c9) (fun cz_985 => ?_)
                refine lv_iconst (v := 1) S.1 S.2.1 dL_law_988 (by decide) ?_
                refine lv_goto (tgt := 993) S.1 S.2.1 dL_law_989 (by decide) ?_
                refine lv_icmp_ne (tgt := 1104) S.1 S.2.1 dL_law_993 (by decide) (fun c9 => absurd (by decide) c9) (fun cz_993 => ?_)
                refine lv_iload S.1 S.2.1 dL_law_996 (lv_at hl 2 rfl) ?_
                refine lv_if_le (tgt := 1014) S.1 S.2.1 dL_law_998 (by decide) (fun cz_998 => ?_) (fun c9 => absurd (by rw [n1]; exact Int32.le_refl 0) c9)
                refine lv_iload S.1 S.2.1 dL_law_1014 (lv_at hl 2 rfl) ?_
                refine lv_if_ge (tgt := 1032) S.1 S.2.1 dL_law_1016 (by decide) (fun cz_1016 => ?_) (fun c9 => absurd (by rw [n1]; exact Int32.le_refl 0) c9)
                refine lv_aload_n S.1 S.2.1 dL_law_1032 rfl (lv_at hl 4 rfl) ?_
                refine lv_iload S.1 S.2.1 dL_law_1033 (lv_at hl 21 rfl) ?_
                refine cz_i hJ (rzV (As := [.int (nI k)]) (rest := []) S hJ (c_ageOf l _ (hourX α) hk2 hn hX2) (cw_L_X3_ageOf S.2.2.2.2 ⟨by omega, by omega⟩) (rcX hJ.iv) rfl hl.1 (Nat.le_of_ble_eq_true rfl) dL_law_1035 ⟨by omega, by omega⟩) (fun r3 σ3 H locs hq3 hJ => ?_)
                obtain ⟨hr3, hs3⟩ := hq3
                rw [hs3] at hJ
                rw [hr3, show (gP (hourX α) k).2.2.2.2.1 = (nI ag + 1) from by rw [hP2]]
                refine lv_aload S.1 S.2.1 dL_law_1038 (lv_at hl 17 rfl) ?_
                refine lv_iload S.1 S.2.1 dL_law_1040 (lv_at hl 21 rfl) ?_
                refine i_y S hJ 2 rfl (j := k) hk2 (by omega) dL_law_1042 ?_
                rw [show (f3 k) = (nI ag) from v3]
                refine lv_aload_n S.1 S.2.1 dL_law_1043 rfl (lv_at hl 4 rfl) ?_
                refine lv_iload S.1 S.2.1 dL_law_1044 (lv_at hl 21 rfl) ?_
                refine cz_i hJ (rzV (As := [.int (nI k)]) (rest := [.int (nI ag), .int (nI ag + 1)]) S hJ (c_isFrozen l _ (hourX α) hok2 hk2 hn hX2) (cw_L_X3_isFrozen S.2.2.2.2 ⟨by omega, by omega⟩) (rcX hJ.iv) rfl hl.1 (Nat.le_of_ble_eq_true rfl) dL_law_1046 ⟨by omega, by omega⟩) (fun r4 σ4 H locs hq4 hJ => ?_)
                obtain ⟨hr4, hs4⟩ := hq4
                rw [hs4] at hJ
                rw [hr4, show (if (gP (hourX α) k).1 = 2 then (1 : Int32) else 0) = 0 from by rw [hP2]; rfl]
                refine lv_if_eq (tgt := 1056) S.1 S.2.1 dL_law_1049 (by decide) (fun cz_1049 => ?_) (fun c9 => absurd (by decide) c9)
                refine lv_iconst (v := 1) S.1 S.2.1 dL_law_1056 (by decide) ?_
                refine lv_iadd S.1 S.2.1 dL_law_1057 ?_
                refine lv_icmp_ne (tgt := 1104) S.1 S.2.1 dL_law_1058 (by decide) (fun c9 => absurd rfl c9) (fun cz_1058 => ?_)
                refine lv_aload_n S.1 S.2.1 dL_law_1061 rfl (lv_at hl 4 rfl) ?_
                refine lv_iload S.1 S.2.1 dL_law_1062 (lv_at hl 21 rfl) ?_
                refine cz_i hJ (rzV (As := [.int (nI k)]) (rest := []) S hJ (c_isFrozen l _ (hourX α) hok2 hk2 hn hX2) (cw_L_X3_isFrozen S.2.2.2.2 ⟨by omega, by omega⟩) (rcX hJ.iv) rfl hl.1 (Nat.le_of_ble_eq_true rfl) dL_law_1064 ⟨by omega, by omega⟩) (fun r5 σ5 H locs hq5 hJ => ?_)
                obtain ⟨hr5, hs5⟩ := hq5
                rw [hs5] at hJ
                rw [hr5, show (if (gP (hourX α) k).1 = 2 then (1 : Int32) else 0) = 0 from by rw [hP2]; rfl]
                refine lv_if_eq (tgt := 1081) S.1 S.2.1 dL_law_1067 (by decide) (fun cz_1067 => ?_) (fun c9 => absurd (by decide) c9)
                refine lv_aload_n S.1 S.2.1 dL_law_1081 rfl (lv_at hl 4 rfl) ?_
                refine lv_iload S.1 S.2.1 dL_law_1082 (lv_at hl 21 rfl) ?_
                refine cz_i hJ (rzV (As := [.int (nI k)]) (rest := []) S hJ (c_isExpired l _ (hourX α) hok2 hk2 hn hX2) (cw_L_X3_isExpired S.2.2.2.2 ⟨by omega, by omega⟩) (rcX hJ.iv) rfl hl.1 (Nat.le_of_ble_eq_true rfl) dL_law_1084 ⟨by omega, by omega⟩) (fun r6 σ6 H locs hq6 hJ => ?_)
                obtain ⟨hr6, hs6⟩ := hq6
                rw [hs6] at hJ
                rw [hr6, show (if (gP (hourX α) k).1 = 5 then (1 : Int32) else 0) = 1 from by rw [hP2]; rfl]
                refine lv_aload_n S.1 S.2.1 dL_law_1087 rfl (lv_at hl 4 rfl) ?_
                refine lv_iload S.1 S.2.1 dL_law_1088 (lv_at hl 21 rfl) ?_
                refine cz_i hJ (rzV (As := [.int (nI k)]) (rest := [.int 1]) S hJ (c_hoursLeft l _ (hourX α) hk2 hn hX2) (cw_L_X3_hoursLeft S.2.2.2.2 ⟨by omega, by omega⟩) (rcX hJ.iv) rfl hl.1 (Nat.le_of_ble_eq_true rfl) dL_law_1090 ⟨by omega, by omega⟩) (fun r7 σ7 H locs hq7 hJ => ?_)
                obtain ⟨hr7, hs7⟩ := hq7
                rw [hs7] at hJ
                rw [hr7, show (gP (hourX α) k).2.2.2.1 - (gP (hourX α) k).2.2.2.2.1 = nI lf - (nI ag + 1) from by rw [hP2]]
                refine lv_if_ne (tgt := 1100) S.1 S.2.1 dL_law_1093 (by decide) (fun c9 => absurd (old_0 c2 hal e5) c9) (fun cz_1093 => ?_)
                refine lv_iconst (v := 1) S.1 S.2.1 dL_law_1096 (by decide) ?_
                refine lv_goto (tgt := 1101) S.1 S.2.1 dL_law_1097 (by decide) ?_
                refine lv_icmp_eq (tgt := 1106) S.1 S.2.1 dL_law_1101 (by decide) (fun cz_1101 => ?_) (fun c9 => absurd (by decide) c9)
                refine lv_iinc (v := (nI (k + 1))) (lv' := [(28, .int (nI (k + 1))), (27, .int ((sumN (thF α) k) + 0)), (30, .int ((draw to9 w9) - w9)), (29, .int (to9 - w9)), (0, .ref (gE G 6)), (1, .ref (gB G 0)), (2, .ref q0), (3, .int (nI tt)), (7, .int (nI n)), (13, .int (nI o9)), (14, .int F1), (15, .int F2), (16, .int F3), (18, .int (nI hN)), (19, .int lf9), (20, .int (nI jh)), (21, .ref qa), (22, .ref qb), (23, .ref qc), (24, .ref qd), (25, .ref qe), (26, .int (sumN (xR α) 20))]) S.1 S.2.1 dL_law_1106 hl (k := 21) rfl (nI_1 k) (by decide) rfl (fun ls hl => ?_)
                refine lv_goto (tgt := 861) S.1 S.2.1 dL_law_1109 (by decide) ?_
                exact ih (k + 1) (by omega) _ _ hJ ls (by rw [show sumN (thF α) (k + 1) = ((sumN (thF α) k) + 0) from by rw [sumN_s, hth0]]; exact lv_sub hl [4, 5, 6, 7, 8, 9, 10, 11, 12, 13, 14, 15, 16, 17, 18, 19, 20, 21, 1, 0] rfl)
              · refine lv_iload S.1 S.2.1 dL_law_861 (lv_at hl 19 rfl) ?_
                refine lv_iload S.1 S.2.1 dL_law_863 (lv_at hl 4 rfl) ?_
                refine lv_icmp_ge (tgt := 1112) S.1 S.2.1 dL_law_865 (by decide) (fun c9 => absurd c9 (nI_ge hk2 (by omega))) (fun cz_865 => ?_)
                refine lv_aload S.1 S.2.1 dL_law_868 (lv_at hl 15 rfl) ?_
                refine lv_iload S.1 S.2.1 dL_law_870 (lv_at hl 19 rfl) ?_
                refine i_y S hJ 3 rfl (j := k) hk2 (by omega) dL_law_872 ?_
                rw [show (f4 k) = (nI sh) from v4]
                refine lv_if_ge (tgt := 915) S.1 S.2.1 dL_law_873 (by decide) (fun cz_873 => ?_) (fun c9 => absurd (Int32.not_lt.mp (nI_pos (by omega))) c9)
                refine lv_aload_n S.1 S.2.1 dL_law_915 rfl (lv_at hl 1 rfl) ?_
                refine lv_aload S.1 S.2.1 dL_law_916 (lv_at hl 15 rfl) ?_
                refine lv_iload S.1 S.2.1 dL_law_918 (lv_at hl 19 rfl) ?_
                refine i_y S hJ 3 rfl (j := k) hk2 (by omega) dL_law_920 ?_
                rw [show (f4 k) = (nI sh) from v4]
                refine cz_i hJ (rzV (As := [.int (nI sh)]) (rest := []) S hJ (c_heatOn l _ (hourX α) hs5) (cw_L_X3_heatOn S.2.2.2.2 ⟨by omega, by omega⟩) (rcX hJ.iv) rfl hl.1 (Nat.le_of_ble_eq_true rfl) dL_law_921 ⟨by omega, by omega⟩) (fun r1 σ1 H locs hq1 hJ => ?_)
                obtain ⟨hr1, hs1⟩ := hq1
                rw [hs1] at hJ
                rw [hr1, hSt]
                refine lv_aload S.1 S.2.1 dL_law_924 (lv_at hl 13 rfl) ?_
                refine lv_iload S.1 S.2.1 dL_law_926 (lv_at hl 19 rfl) ?_
                refine i_y S hJ 1 rfl (j := k) hk2 (by omega) dL_law_928 ?_
                rw [show (f2 k) = w9 from v2]
                refine lv_isub S.1 S.2.1 dL_law_929 ?_
                refine lv_istore (lv' := [(29, .int (to9 - w9)), (0, .ref (gE G 6)), (1, .ref (gB G 0)), (2, .ref q0), (3, .int (nI tt)), (7, .int (nI n)), (13, .int (nI o9)), (14, .int F1), (15, .int F2), (16, .int F3), (18, .int (nI hN)), (19, .int lf9), (20, .int (nI jh)), (21, .ref qa), (22, .ref qb), (23, .ref qc), (24, .ref qd), (25, .ref qe), (26, .int (sumN (xR α) 20)), (27, .int (sumN (thF α) k)), (28, .int (nI k))]) S.1 S.2.1 dL_law_930 hl (by decide) rfl (fun ls hl => ?_)
                refine lv_aload_n S.1 S.2.1 dL_law_932 rfl (lv_at hl 2 rfl) ?_
                refine lv_iload S.1 S.2.1 dL_law_933 (lv_at hl 20 rfl) ?_
                refine cz_i hJ (rzV (As := [.int (nI k)]) (rest := []) S hJ (c_heatOf l _ (hourX α) hk2 hn hX2) (cw_L_X3_heatOf S.2.2.2.2 ⟨by omega, by omega⟩) (rcX hJ.iv) rfl hl.1 (Nat.le_of_ble_eq_true rfl) dL_law_935 ⟨by omega, by omega⟩) (fun r2 σ2 H locs hq2 hJ => ?_)
                obtain ⟨hr2, hs2⟩ := hq2
                rw [hs2] at hJ
                rw [hr2, show (gP (hourX α) k).2.2.2.2.2 = (draw to9 w9) from by rw [hP2]]
                refine lv_aload S.1 S.2.1 dL_law_938 (lv_at hl 14 rfl) ?_
                refine lv_iload S.1 S.2.1 dL_law_940 (lv_at hl 20 rfl) ?_
                refine i_y S hJ 1 rfl (j := k) hk2 (by omega) dL_law_942 ?_
                rw [show (f2 k) = w9 from v2]
                refine lv_isub S.1 S.2.1 dL_law_943 ?_
                refine lv_istore (lv' := [(30, .int ((draw to9 w9) - w9)), (29, .int (to9 - w9)), (0, .ref (gE G 6)), (1, .ref (gB G 0)), (2, .ref q0), (3, .int (nI tt)), (7, .int (nI n)), (13, .int (nI o9)), (14, .int F1), (15, .int F2), (16, .int F3), (18, .int (nI hN)), (19, .int lf9), (20, .int (nI jh)), (21, .ref qa), (22, .ref qb), (23, .ref qc), (24, .ref qd), (25, .ref qe), (26, .int (sumN (xR α) 20)), (27, .int (sumN (thF α) k)), (28, .int (nI k))]) S.1 S.2.1 dL_law_944 hl (by decide) rfl (fun ls hl => ?_)
                refine lv_iload S.1 S.2.1 dL_law_946 (lv_at hl 20 rfl) ?_
                refine lv_aload S.1 S.2.1 dL_law_948 (lv_at hl 18 rfl) ?_
                refine lv_iload S.1 S.2.1 dL_law_950 (lv_at hl 21 rfl) ?_
                refine i_yz S hJ 4 rfl (j := k) hk2 (by omega) dL_law_952 ?_
                rw [show (f5 k) = 0 from v5]
                refine lv_if_eq (tgt := 969) S.1 S.2.1 dL_law_953 (by decide) (fun cz_953 => ?_) (fun c9 => absurd (by decide) c9)
                refine lv_iconst (v := 0) S.1 S.2.1 dL_law_969 (by decide) ?_
                refine lv_iadd S.1 S.2.1 dL_law_970 ?_
                refine lv_istore (lv' := [(27, .int ((sumN (thF α) k) + 0)), (30, .int ((draw to9 w9) - w9)), (29, .int (to9 - w9)), (0, .ref (gE G 6)), (1, .ref (gB G 0)), (2, .ref q0), (3, .int (nI tt)), (7, .int (nI n)), (13, .int (nI o9)), (14, .int F1), (15, .int F2), (16, .int F3), (18, .int (nI hN)), (19, .int lf9), (20, .int (nI jh)), (21, .ref qa), (22, .ref qb), (23, .ref qc), (24, .ref qd), (25, .ref qe), (26, .int (sumN (xR α) 20)), (28, .int (nI k))]) S.1 S.2.1 dL_law_971 hl (by decide) rfl (fun ls hl => ?_)
                refine lv_iload S.1 S.2.1 dL_law_973 (lv_at hl 2 rfl) ?_
                refine lv_if_ne (tgt := 982) S.1 S.2.1 dL_law_975 (by decide) (fun cz_975 => ?_) (fun c9 => absurd c9 (pos_ne n1))
                refine lv_iconst (v := 0) S.1 S.2.1 dL_law_982 (by decide) ?_
                refine lv_iload S.1 S.2.1 dL_law_983 (lv_at hl 1 rfl) ?_
                refine lv_if_ne (tgt := 992) S.1 S.2.1 dL_law_985 (by decide) (fun cz_985 => ?_) (fun c9 => absurd c9 (one_ne n2))
                refine lv_iconst (v := 0) S.1 S.2.1 dL_law_992 (by decide) ?_
                refine lv_icmp_ne (tgt := 1104) S.1 S.2.1 dL_law_993 (by decide) (fun c9 => absurd (by decide) c9) (fun cz_993 => ?_)
                refine lv_iload S.1 S.2.1 dL_law_996 (lv_at hl 2 rfl) ?_
                refine lv_if_le (tgt := 1014) S.1 S.2.1 dL_law_998 (by decide) (fun c9 => absurd c9 (Int32.not_le.mpr n1)) (fun cz_998 => ?_)
                refine lv_iload S.1 S.2.1 dL_law_1001 (lv_at hl 1 rfl) ?_
                refine lv_iconst (v := 1) S.1 S.2.1 dL_law_1003 (by decide) ?_
                refine lv_icmp_lt (tgt := 1104) S.1 S.2.1 dL_law_1004 (by decide) (fun c9 => absurd c9 (Int32.not_lt.mpr n2)) (fun cz_1004 => ?_)
                refine lv_iload S.1 S.2.1 dL_law_1007 (lv_at hl 1 rfl) ?_
                refine lv_iload S.1 S.2.1 dL_law_1009 (lv_at hl 2 rfl) ?_
                refine lv_icmp_gt (tgt := 1104) S.1 S.2.1 dL_law_1011 (by decide) (fun c9 => absurd c9 (Int32.not_lt.mpr n3)) (fun cz_1011 => ?_)
                refine lv_iload S.1 S.2.1 dL_law_1014 (lv_at hl 2 rfl) ?_
                refine lv_if_ge (tgt := 1032) S.1 S.2.1 dL_law_1016 (by decide) (fun cz_1016 => ?_) (fun c9 => absurd (Int32.le_of_lt n1) c9)
                refine lv_aload_n S.1 S.2.1 dL_law_1032 rfl (lv_at hl 4 rfl) ?_
                refine lv_iload S.1 S.2.1 dL_law_1033 (lv_at hl 21 rfl) ?_
                refine cz_i hJ (rzV (As := [.int (nI k)]) (rest := []) S hJ (c_ageOf l _ (hourX α) hk2 hn hX2) (cw_L_X3_ageOf S.2.2.2.2 ⟨by omega, by omega⟩) (rcX hJ.iv) rfl hl.1 (Nat.le_of_ble_eq_true rfl) dL_law_1035 ⟨by omega, by omega⟩) (fun r3 σ3 H locs hq3 hJ => ?_)
                obtain ⟨hr3, hs3⟩ := hq3
                rw [hs3] at hJ
                rw [hr3, show (gP (hourX α) k).2.2.2.2.1 = (nI ag + 1) from by rw [hP2]]
                refine lv_aload S.1 S.2.1 dL_law_1038 (lv_at hl 17 rfl) ?_
                refine lv_iload S.1 S.2.1 dL_law_1040 (lv_at hl 21 rfl) ?_
                refine i_y S hJ 2 rfl (j := k) hk2 (by omega) dL_law_1042 ?_
                rw [show (f3 k) = (nI ag) from v3]
                refine lv_aload_n S.1 S.2.1 dL_law_1043 rfl (lv_at hl 4 rfl) ?_
                refine lv_iload S.1 S.2.1 dL_law_1044 (lv_at hl 21 rfl) ?_
                refine cz_i hJ (rzV (As := [.int (nI k)]) (rest := [.int (nI ag), .int (nI ag + 1)]) S hJ (c_isFrozen l _ (hourX α) hok2 hk2 hn hX2) (cw_L_X3_isFrozen S.2.2.2.2 ⟨by omega, by omega⟩) (rcX hJ.iv) rfl hl.1 (Nat.le_of_ble_eq_true rfl) dL_law_1046 ⟨by omega, by omega⟩) (fun r4 σ4 H locs hq4 hJ => ?_)
                obtain ⟨hr4, hs4⟩ := hq4
                rw [hs4] at hJ
                rw [hr4, show (if (gP (hourX α) k).1 = 2 then (1 : Int32) else 0) = 0 from by rw [hP2]; rfl]
                refine lv_if_eq (tgt := 1056) S.1 S.2.1 dL_law_1049 (by decide) (fun cz_1049 => ?_) (fun c9 => absurd (by decide) c9)
                refine lv_iconst (v := 1) S.1 S.2.1 dL_law_1056 (by decide) ?_
                refine lv_iadd S.1 S.2.1 dL_law_1057 ?_
                refine lv_icmp_ne (tgt := 1104) S.1 S.2.1 dL_law_1058 (by decide) (fun c9 => absurd rfl c9) (fun cz_1058 => ?_)
                refine lv_aload_n S.1 S.2.1 dL_law_1061 rfl (lv_at hl 4 rfl) ?_
                refine lv_iload S.1 S.2.1 dL_law_1062 (lv_at hl 21 rfl) ?_
                refine cz_i hJ (rzV (As := [.int (nI k)]) (rest := []) S hJ (c_isFrozen l _ (hourX α) hok2 hk2 hn hX2) (cw_L_X3_isFrozen S.2.2.2.2 ⟨by omega, by omega⟩) (rcX hJ.iv) rfl hl.1 (Nat.le_of_ble_eq_true rfl) dL_law_1064 ⟨by omega, by omega⟩) (fun r5 σ5 H locs hq5 hJ => ?_)
                obtain ⟨hr5, hs5⟩ := hq5
                rw [hs5] at hJ
                rw [hr5, show (if (gP (hourX α) k).1 = 2 then (1 : Int32) else 0) = 0 from by rw [hP2]; rfl]
                refine lv_if_eq (tgt := 1081) S.1 S.2.1 dL_law_1067 (by decide) (fun cz_1067 => ?_) (fun c9 => absurd (by decide) c9)
                refine lv_aload_n S.1 S.2.1 dL_law_1081 rfl (lv_at hl 4 rfl) ?_
                refine lv_iload S.1 S.2.1 dL_law_1082 (lv_at hl 21 rfl) ?_
                refine cz_i hJ (rzV (As := [.int (nI k)]) (rest := []) S hJ (c_isExpired l _ (hourX α) hok2 hk2 hn hX2) (cw_L_X3_isExpired S.2.2.2.2 ⟨by omega, by omega⟩) (rcX hJ.iv) rfl hl.1 (Nat.le_of_ble_eq_true rfl) dL_law_1084 ⟨by omega, by omega⟩) (fun r6 σ6 H locs hq6 hJ => ?_)
                obtain ⟨hr6, hs6⟩ := hq6
                rw [hs6] at hJ
                rw [hr6, show (if (gP (hourX α) k).1 = 5 then (1 : Int32) else 0) = 1 from by rw [hP2]; rfl]
                refine lv_aload_n S.1 S.2.1 dL_law_1087 rfl (lv_at hl 4 rfl) ?_
                refine lv_iload S.1 S.2.1 dL_law_1088 (lv_at hl 21 rfl) ?_
                refine cz_i hJ (rzV (As := [.int (nI k)]) (rest := [.int 1]) S hJ (c_hoursLeft l _ (hourX α) hk2 hn hX2) (cw_L_X3_hoursLeft S.2.2.2.2 ⟨by omega, by omega⟩) (rcX hJ.iv) rfl hl.1 (Nat.le_of_ble_eq_true rfl) dL_law_1090 ⟨by omega, by omega⟩) (fun r7 σ7 H locs hq7 hJ => ?_)
                obtain ⟨hr7, hs7⟩ := hq7
                rw [hs7] at hJ
                rw [hr7, show (gP (hourX α) k).2.2.2.1 - (gP (hourX α) k).2.2.2.2.1 = nI lf - (nI ag + 1) from by rw [hP2]]
                refine lv_if_ne (tgt := 1100) S.1 S.2.1 dL_law_1093 (by decide) (fun c9 => absurd (old_0 c2 hal e5) c9) (fun cz_1093 => ?_)
                refine lv_iconst (v := 1) S.1 S.2.1 dL_law_1096 (by decide) ?_
                refine lv_goto (tgt := 1101) S.1 S.2.1 dL_law_1097 (by decide) ?_
                refine lv_icmp_eq (tgt := 1106) S.1 S.2.1 dL_law_1101 (by decide) (fun cz_1101 => ?_) (fun c9 => absurd (by decide) c9)
                refine lv_iinc (v := (nI (k + 1))) (lv' := [(28, .int (nI (k + 1))), (27, .int ((sumN (thF α) k) + 0)), (30, .int ((draw to9 w9) - w9)), (29, .int (to9 - w9)), (0, .ref (gE G 6)), (1, .ref (gB G 0)), (2, .ref q0), (3, .int (nI tt)), (7, .int (nI n)), (13, .int (nI o9)), (14, .int F1), (15, .int F2), (16, .int F3), (18, .int (nI hN)), (19, .int lf9), (20, .int (nI jh)), (21, .ref qa), (22, .ref qb), (23, .ref qc), (24, .ref qd), (25, .ref qe), (26, .int (sumN (xR α) 20))]) S.1 S.2.1 dL_law_1106 hl (k := 21) rfl (nI_1 k) (by decide) rfl (fun ls hl => ?_)
                refine lv_goto (tgt := 861) S.1 S.2.1 dL_law_1109 (by decide) ?_
                exact ih (k + 1) (by omega) _ _ hJ ls (by rw [show sumN (thF α) (k + 1) = ((sumN (thF α) k) + 0) from by rw [sumN_s, hth0]]; exact lv_sub hl [4, 5, 6, 7, 8, 9, 10, 11, 12, 13, 14, 15, 16, 17, 18, 19, 20, 21, 1, 0] rfl)
              · refine lv_iload S.1 S.2.1 dL_law_861 (lv_at hl 19 rfl) ?_
                refine lv_iload S.1 S.2.1 dL_law_863 (lv_at hl 4 rfl) ?_
                refine lv_icmp_ge (tgt := 1112) S.1 S.2.1 dL_law_865 (by decide) (fun c9 => absurd c9 (nI_ge hk2 (by omega))) (fun cz_865 => ?_)
                refine lv_aload S.1 S.2.1 dL_law_868 (lv_at hl 15 rfl) ?_
                refine lv_iload S.1 S.2.1 dL_law_870 (lv_at hl 19 rfl) ?_
                refine i_y S hJ 3 rfl (j := k) hk2 (by omega) dL_law_872 ?_
                rw [show (f4 k) = (nI sh) from v4]
                refine lv_if_ge (tgt := 915) S.1 S.2.1 dL_law_873 (by decide) (fun cz_873 => ?_) (fun c9 => absurd (Int32.not_lt.mp (nI_pos (by omega))) c9)
                refine lv_aload_n S.1 S.2.1 dL_law_915 rfl (lv_at hl 1 rfl) ?_
                refine lv_aload S.1 S.2.1 dL_law_916 (lv_at hl 15 rfl) ?_
                refine lv_iload S.1 S.2.1 dL_law_918 (lv_at hl 19 rfl) ?_
                refine i_y S hJ 3 rfl (j := k) hk2 (by omega) dL_law_920 ?_
                rw [show (f4 k) = (nI sh) from v4]
                refine cz_i hJ (rzV (As := [.int (nI sh)]) (rest := []) S hJ (c_heatOn l _ (hourX α) hs5) (cw_L_X3_heatOn S.2.2.2.2 ⟨by omega, by omega⟩) (rcX hJ.iv) rfl hl.1 (Nat.le_of_ble_eq_true rfl) dL_law_921 ⟨by omega, by omega⟩) (fun r1 σ1 H locs hq1 hJ => ?_)
                obtain ⟨hr1, hs1⟩ := hq1
                rw [hs1] at hJ
                rw [hr1, hSt]
                refine lv_aload S.1 S.2.1 dL_law_924 (lv_at hl 13 rfl) ?_
                refine lv_iload S.1 S.2.1 dL_law_926 (lv_at hl 19 rfl) ?_
                refine i_y S hJ 1 rfl (j := k) hk2 (by omega) dL_law_928 ?_
                rw [show (f2 k) = w9 from v2]
                refine lv_isub S.1 S.2.1 dL_law_929 ?_
                refine lv_istore (lv' := [(29, .int (to9 - w9)), (0, .ref (gE G 6)), (1, .ref (gB G 0)), (2, .ref q0), (3, .int (nI tt)), (7, .int (nI n)), (13, .int (nI o9)), (14, .int F1), (15, .int F2), (16, .int F3), (18, .int (nI hN)), (19, .int lf9), (20, .int (nI jh)), (21, .ref qa), (22, .ref qb), (23, .ref qc), (24, .ref qd), (25, .ref qe), (26, .int (sumN (xR α) 20)), (27, .int (sumN (thF α) k)), (28, .int (nI k))]) S.1 S.2.1 dL_law_930 hl (by decide) rfl (fun ls hl => ?_)
                refine lv_aload_n S.1 S.2.1 dL_law_932 rfl (lv_at hl 2 rfl) ?_
                refine lv_iload S.1 S.2.1 dL_law_933 (lv_at hl 20 rfl) ?_
                refine cz_i hJ (rzV (As := [.int (nI k)]) (rest := []) S hJ (c_heatOf l _ (hourX α) hk2 hn hX2) (cw_L_X3_heatOf S.2.2.2.2 ⟨by omega, by omega⟩) (rcX hJ.iv) rfl hl.1 (Nat.le_of_ble_eq_true rfl) dL_law_935 ⟨by omega, by omega⟩) (fun r2 σ2 H locs hq2 hJ => ?_)
                obtain ⟨hr2, hs2⟩ := hq2
                rw [hs2] at hJ
                rw [hr2, show (gP (hourX α) k).2.2.2.2.2 = (draw to9 w9) from by rw [hP2]]
                refine lv_aload S.1 S.2.1 dL_law_938 (lv_at hl 14 rfl) ?_
                refine lv_iload S.1 S.2.1 dL_law_940 (lv_at hl 20 rfl) ?_
                refine i_y S hJ 1 rfl (j := k) hk2 (by omega) dL_law_942 ?_
                rw [show (f2 k) = w9 from v2]
                refine lv_isub S.1 S.2.1 dL_law_943 ?_
                refine lv_istore (lv' := [(30, .int ((draw to9 w9) - w9)), (29, .int (to9 - w9)), (0, .ref (gE G 6)), (1, .ref (gB G 0)), (2, .ref q0), (3, .int (nI tt)), (7, .int (nI n)), (13, .int (nI o9)), (14, .int F1), (15, .int F2), (16, .int F3), (18, .int (nI hN)), (19, .int lf9), (20, .int (nI jh)), (21, .ref qa), (22, .ref qb), (23, .ref qc), (24, .ref qd), (25, .ref qe), (26, .int (sumN (xR α) 20)), (27, .int (sumN (thF α) k)), (28, .int (nI k))]) S.1 S.2.1 dL_law_944 hl (by decide) rfl (fun ls hl => ?_)
                refine lv_iload S.1 S.2.1 dL_law_946 (lv_at hl 20 rfl) ?_
                refine lv_aload S.1 S.2.1 dL_law_948 (lv_at hl 18 rfl) ?_
                refine lv_iload S.1 S.2.1 dL_law_950 (lv_at hl 21 rfl) ?_
                refine i_yz S hJ 4 rfl (j := k) hk2 (by omega) dL_law_952 ?_
                rw [show (f5 k) = 0 from v5]
                refine lv_if_eq (tgt := 969) S.1 S.2.1 dL_law_953 (by decide) (fun cz_953 => ?_) (fun c9 => absurd (by decide) c9)
                refine lv_iconst (v := 0) S.1 S.2.1 dL_law_969 (by decide) ?_
                refine lv_iadd S.1 S.2.1 dL_law_970 ?_
                refine lv_istore (lv' := [(27, .int ((sumN (thF α) k) + 0)), (30, .int ((draw to9 w9) - w9)), (29, .int (to9 - w9)), (0, .ref (gE G 6)), (1, .ref (gB G 0)), (2, .ref q0), (3, .int (nI tt)), (7, .int (nI n)), (13, .int (nI o9)), (14, .int F1), (15, .int F2), (16, .int F3), (18, .int (nI hN)), (19, .int lf9), (20, .int (nI jh)), (21, .ref qa), (22, .ref qb), (23, .ref qc), (24, .ref qd), (25, .ref qe), (26, .int (sumN (xR α) 20)), (28, .int (nI k))]) S.1 S.2.1 dL_law_971 hl (by decide) rfl (fun ls hl => ?_)
                refine lv_iload S.1 S.2.1 dL_law_973 (lv_at hl 2 rfl) ?_
                refine lv_if_ne (tgt := 982) S.1 S.2.1 dL_law_975 (by decide) (fun cz_975 => ?_) (fun c9 => absurd c9 (neg_ne n1))
                refine lv_iconst (v := 0) S.1 S.2.1 dL_law_982 (by decide) ?_
                refine lv_iload S.1 S.2.1 dL_law_983 (lv_at hl 1 rfl) ?_
                refine lv_if_ne (tgt := 992) S.1 S.2.1 dL_law_985 (by decide) (fun cz_985 => ?_) (fun c9 => absurd c9 (mone_ne n2))
                refine lv_iconst (v := 0) S.1 S.2.1 dL_law_992 (by decide) ?_
                refine lv_icmp_ne (tgt := 1104) S.1 S.2.1 dL_law_993 (by decide) (fun c9 => absurd (by decide) c9) (fun cz_993 => ?_)
                refine lv_iload S.1 S.2.1 dL_law_996 (lv_at hl 2 rfl) ?_
                refine lv_if_le (tgt := 1014) S.1 S.2.1 dL_law_998 (by decide) (fun cz_998 => ?_) (fun c9 => absurd (Int32.le_of_lt n1) c9)
                refine lv_iload S.1 S.2.1 dL_law_1014 (lv_at hl 2 rfl) ?_
                refine lv_if_ge (tgt := 1032) S.1 S.2.1 dL_law_1016 (by decide) (fun c9 => absurd c9 (Int32.not_le.mpr n1)) (fun cz_1016 => ?_)
                refine lv_iload S.1 S.2.1 dL_law_1019 (lv_at hl 1 rfl) ?_
                refine lv_iconst (v := (-1)) S.1 S.2.1 dL_law_1021 (by decide) ?_
                refine lv_icmp_gt (tgt := 1104) S.1 S.2.1 dL_law_1022 (by decide) (fun c9 => absurd c9 (Int32.not_lt.mpr n2)) (fun cz_1022 => ?_)
                refine lv_iload S.1 S.2.1 dL_law_1025 (lv_at hl 1 rfl) ?_
                refine lv_iload S.1 S.2.1 dL_law_1027 (lv_at hl 2 rfl) ?_
                refine lv_icmp_lt (tgt := 1104) S.1 S.2.1 dL_law_1029 (by decide) (fun c9 => absurd c9 (Int32.not_lt.mpr n3)) (fun cz_1029 => ?_)
                refine lv_aload_n S.1 S.2.1 dL_law_1032 rfl (lv_at hl 4 rfl) ?_
                refine lv_iload S.1 S.2.1 dL_law_1033 (lv_at hl 21 rfl) ?_
                refine cz_i hJ (rzV (As := [.int (nI k)]) (rest := []) S hJ (c_ageOf l _ (hourX α) hk2 hn hX2) (cw_L_X3_ageOf S.2.2.2.2 ⟨by omega, by omega⟩) (rcX hJ.iv) rfl hl.1 (Nat.le_of_ble_eq_true rfl) dL_law_1035 ⟨by omega, by omega⟩) (fun r3 σ3 H locs hq3 hJ => ?_)
                obtain ⟨hr3, hs3⟩ := hq3
                rw [hs3] at hJ
                rw [hr3, show (gP (hourX α) k).2.2.2.2.1 = (nI ag + 1) from by rw [hP2]]
                refine lv_aload S.1 S.2.1 dL_law_1038 (lv_at hl 17 rfl) ?_
                refine lv_iload S.1 S.2.1 dL_law_1040 (lv_at hl 21 rfl) ?_
                refine i_y S hJ 2 rfl (j := k) hk2 (by omega) dL_law_1042 ?_
                rw [show (f3 k) = (nI ag) from v3]
                refine lv_aload_n S.1 S.2.1 dL_law_1043 rfl (lv_at hl 4 rfl) ?_
                refine lv_iload S.1 S.2.1 dL_law_1044 (lv_at hl 21 rfl) ?_
                refine cz_i hJ (rzV (As := [.int (nI k)]) (rest := [.int (nI ag), .int (nI ag + 1)]) S hJ (c_isFrozen l _ (hourX α) hok2 hk2 hn hX2) (cw_L_X3_isFrozen S.2.2.2.2 ⟨by omega, by omega⟩) (rcX hJ.iv) rfl hl.1 (Nat.le_of_ble_eq_true rfl) dL_law_1046 ⟨by omega, by omega⟩) (fun r4 σ4 H locs hq4 hJ => ?_)
                obtain ⟨hr4, hs4⟩ := hq4
                rw [hs4] at hJ
                rw [hr4, show (if (gP (hourX α) k).1 = 2 then (1 : Int32) else 0) = 0 from by rw [hP2]; rfl]
                refine lv_if_eq (tgt := 1056) S.1 S.2.1 dL_law_1049 (by decide) (fun cz_1049 => ?_) (fun c9 => absurd (by decide) c9)
                refine lv_iconst (v := 1) S.1 S.2.1 dL_law_1056 (by decide) ?_
                refine lv_iadd S.1 S.2.1 dL_law_1057 ?_
                refine lv_icmp_ne (tgt := 1104) S.1 S.2.1 dL_law_1058 (by decide) (fun c9 => absurd rfl c9) (fun cz_1058 => ?_)
                refine lv_aload_n S.1 S.2.1 dL_law_1061 rfl (lv_at hl 4 rfl) ?_
                refine lv_iload S.1 S.2.1 dL_law_1062 (lv_at hl 21 rfl) ?_
                refine cz_i hJ (rzV (As := [.int (nI k)]) (rest := []) S hJ (c_isFrozen l _ (hourX α) hok2 hk2 hn hX2) (cw_L_X3_isFrozen S.2.2.2.2 ⟨by omega, by omega⟩) (rcX hJ.iv) rfl hl.1 (Nat.le_of_ble_eq_true rfl) dL_law_1064 ⟨by omega, by omega⟩) (fun r5 σ5 H locs hq5 hJ => ?_)
                obtain ⟨hr5, hs5⟩ := hq5
                rw [hs5] at hJ
                rw [hr5, show (if (gP (hourX α) k).1 = 2 then (1 : Int32) else 0) = 0 from by rw [hP2]; rfl]
                refine lv_if_eq (tgt := 1081) S.1 S.2.1 dL_law_1067 (by decide) (fun cz_1067 => ?_) (fun c9 => absurd (by decide) c9)
                refine lv_aload_n S.1 S.2.1 dL_law_1081 rfl (lv_at hl 4 rfl) ?_
                refine lv_iload S.1 S.2.1 dL_law_1082 (lv_at hl 21 rfl) ?_
                refine cz_i hJ (rzV (As := [.int (nI k)]) (rest := []) S hJ (c_isExpired l _ (hourX α) hok2 hk2 hn hX2) (cw_L_X3_isExpired S.2.2.2.2 ⟨by omega, by omega⟩) (rcX hJ.iv) rfl hl.1 (Nat.le_of_ble_eq_true rfl) dL_law_1084 ⟨by omega, by omega⟩) (fun r6 σ6 H locs hq6 hJ => ?_)
                obtain ⟨hr6, hs6⟩ := hq6
                rw [hs6] at hJ
                rw [hr6, show (if (gP (hourX α) k).1 = 5 then (1 : Int32) else 0) = 1 from by rw [hP2]; rfl]
                refine lv_aload_n S.1 S.2.1 dL_law_1087 rfl (lv_at hl 4 rfl) ?_
                refine lv_iload S.1 S.2.1 dL_law_1088 (lv_at hl 21 rfl) ?_
                refine cz_i hJ (rzV (As := [.int (nI k)]) (rest := [.int 1]) S hJ (c_hoursLeft l _ (hourX α) hk2 hn hX2) (cw_L_X3_hoursLeft S.2.2.2.2 ⟨by omega, by omega⟩) (rcX hJ.iv) rfl hl.1 (Nat.le_of_ble_eq_true rfl) dL_law_1090 ⟨by omega, by omega⟩) (fun r7 σ7 H locs hq7 hJ => ?_)
                obtain ⟨hr7, hs7⟩ := hq7
                rw [hs7] at hJ
                rw [hr7, show (gP (hourX α) k).2.2.2.1 - (gP (hourX α) k).2.2.2.2.1 = nI lf - (nI ag + 1) from by rw [hP2]]
                refine lv_if_ne (tgt := 1100) S.1 S.2.1 dL_law_1093 (by decide) (fun c9 => absurd (old_0 c2 hal e5) c9) (fun cz_1093 => ?_)
                refine lv_iconst (v := 1) S.1 S.2.1 dL_law_1096 (by decide) ?_
                refine lv_goto (tgt := 1101) S.1 S.2.1 dL_law_1097 (by decide) ?_
                refine lv_icmp_eq (tgt := 1106) S.1 S.2.1 dL_law_1101 (by decide) (fun cz_1101 => ?_) (fun c9 => absurd (by decide) c9)
                refine lv_iinc (v := (nI (k + 1))) (lv' := [(28, .int (nI (k + 1))), (27, .int ((sumN (thF α) k) + 0)), (30, .int ((draw to9 w9) - w9)), (29, .int (to9 - w9)), (0, .ref (gE G 6)), (1, .ref (gB G 0)), (2, .ref q0), (3, .int (nI tt)), (7, .int (nI n)), (13, .int (nI o9)), (14, .int F1), (15, .int F2), (16, .int F3), (18, .int (nI hN)), (19, .int lf9), (20, .int (nI jh)), (21, .ref qa), (22, .ref qb), (23, .ref qc), (24, .ref qd), (25, .ref qe), (26, .int (sumN (xR α) 20))]) S.1 S.2.1 dL_law_1106 hl (k := 21) rfl (nI_1 k) (by decide) rfl (fun ls hl => ?_)
                refine lv_goto (tgt := 861) S.1 S.2.1 dL_law_1109 (by decide) ?_
                exact ih (k + 1) (by omega) _ _ hJ ls (by rw [show sumN (thF α) (k + 1) = ((sumN (thF α) k) + 0) from by rw [sumN_s, hth0]]; exact lv_sub hl [4, 5, 6, 7, 8, 9, 10, 11, 12, 13, 14, 15, 16, 17, 18, 19, 20, 21, 1, 0] rfl)
          · obtain ⟨hA, -⟩ := (hq_c hs5 c1 : hourP to9 (1, sh, mk9, nI lf, nI ag, w9) = _ ∧ _)
            rw [hA] at hP2
            rw [hP2] at hth
            have hth0 : thF α k = 0 := by rw [hth]; exact if_neg (fun q => absurd q.1 (show ¬ (1 : Nat) = 2 by decide))
            rcases hnear with ⟨n1, n2⟩ | ⟨n1, n2, n3⟩ | ⟨n1, n2, n3⟩
            · refine lv_iload S.1 S.2.1 dL_law_861 (lv_at hl 19 rfl) ?_
              refine lv_iload S.1 S.2.1 dL_law_863 (lv_at hl 4 rfl) ?_
              refine lv_icmp_ge (tgt := 1112) S.1 S.2.1 dL_law_865 (by decide) (fun c9 => absurd c9 (nI_ge hk2 (by omega))) (fun cz_865 => ?_)
              refine lv_aload S.1 S.2.1 dL_law_868 (lv_at hl 15 rfl) ?_
              refine lv_iload S.1 S.2.1 dL_law_870 (lv_at hl 19 rfl) ?_
              refine i_y S hJ 3 rfl (j := k) hk2 (by omega) dL_law_872 ?_
              rw [show (f4 k) = (nI sh) from v4]
              refine lv_if_ge (tgt := 915) S.1 S.2.1 dL_law_873 (by decide) (fun cz_873 => ?_) (fun c9 => absurd (Int32.not_lt.mp (nI_pos (by omega))) c9)
              refine lv_aload_n S.1 S.2.1 dL_law_915 rfl (lv_at hl 1 rfl) ?_
              refine lv_aload S.1 S.2.1 dL_law_916 (lv_at hl 15 rfl) ?_
              refine lv_iload S.1 S.2.1 dL_law_918 (lv_at hl 19 rfl) ?_
              refine i_y S hJ 3 rfl (j := k) hk2 (by omega) dL_law_920 ?_
              rw [show (f4 k) = (nI sh) from v4]
              refine cz_i hJ (rzV (As := [.int (nI sh)]) (rest := []) S hJ (c_heatOn l _ (hourX α) hs5) (cw_L_X3_heatOn S.2.2.2.2 ⟨by omega, by omega⟩) (rcX hJ.iv) rfl hl.1 (Nat.le_of_ble_eq_true rfl) dL_law_921 ⟨by omega, by omega⟩) (fun r1 σ1 H locs hq1 hJ => ?_)
              obtain ⟨hr1, hs1⟩ := hq1
              rw [hs1] at hJ
              rw [hr1, hSt]
              refine lv_aload S.1 S.2.1 dL_law_924 (lv_at hl 13 rfl) ?_
              refine lv_iload S.1 S.2.1 dL_law_926 (lv_at hl 19 rfl) ?_
              refine i_y S hJ 1 rfl (j := k) hk2 (by omega) dL_law_928 ?_
              rw [show (f2 k) = w9 from v2]
              refine lv_isub S.1 S.2.1 dL_law_929 ?_
              refine lv_istore (lv' := [(29, .int (to9 - w9)), (0, .ref (gE G 6)), (1, .ref (gB G 0)), (2, .ref q0), (3, .int (nI tt)), (7, .int (nI n)), (13, .int (nI o9)), (14, .int F1), (15, .int F2), (16, .int F3), (18, .int (nI hN)), (19, .int lf9), (20, .int (nI jh)), (21, .ref qa), (22, .ref qb), (23, .ref qc), (24, .ref qd), (25, .ref qe), (26, .int (sumN (xR α) 20)), (27, .int (sumN (thF α) k)), (28, .int (nI k))]) S.1 S.2.1 dL_law_930 hl (by decide) rfl (fun ls hl => ?_)
              refine lv_aload_n S.1 S.2.1 dL_law_932 rfl (lv_at hl 2 rfl) ?_
              refine lv_iload S.1 S.2.1 dL_law_933 (lv_at hl 20 rfl) ?_
              refine cz_i hJ (rzV (As := [.int (nI k)]) (rest := []) S hJ (c_heatOf l _ (hourX α) hk2 hn hX2) (cw_L_X3_heatOf S.2.2.2.2 ⟨by omega, by omega⟩) (rcX hJ.iv) rfl hl.1 (Nat.le_of_ble_eq_true rfl) dL_law_935 ⟨by omega, by omega⟩) (fun r2 σ2 H locs hq2 hJ => ?_)
              obtain ⟨hr2, hs2⟩ := hq2
              rw [hs2] at hJ
              rw [hr2, show (gP (hourX α) k).2.2.2.2.2 = (draw to9 w9) from by rw [hP2]]
              refine lv_aload S.1 S.2.1 dL_law_938 (lv_at hl 14 rfl) ?_
              refine lv_iload S.1 S.2.1 dL_law_940 (lv_at hl 20 rfl) ?_
              refine i_y S hJ 1 rfl (j := k) hk2 (by omega) dL_law_942 ?_
              rw [show (f2 k) = w9 from v2]
              refine lv_isub S.1 S.2.1 dL_law_943 ?_
              refine lv_istore (lv' := [(30, .int ((draw to9 w9) - w9)), (29, .int (to9 - w9)), (0, .ref (gE G 6)), (1, .ref (gB G 0)), (2, .ref q0), (3, .int (nI tt)), (7, .int (nI n)), (13, .int (nI o9)), (14, .int F1), (15, .int F2), (16, .int F3), (18, .int (nI hN)), (19, .int lf9), (20, .int (nI jh)), (21, .ref qa), (22, .ref qb), (23, .ref qc), (24, .ref qd), (25, .ref qe), (26, .int (sumN (xR α) 20)), (27, .int (sumN (thF α) k)), (28, .int (nI k))]) S.1 S.2.1 dL_law_944 hl (by decide) rfl (fun ls hl => ?_)
              refine lv_iload S.1 S.2.1 dL_law_946 (lv_at hl 20 rfl) ?_
              refine lv_aload S.1 S.2.1 dL_law_948 (lv_at hl 18 rfl) ?_
              refine lv_iload S.1 S.2.1 dL_law_950 (lv_at hl 21 rfl) ?_
              refine i_yz S hJ 4 rfl (j := k) hk2 (by omega) dL_law_952 ?_
              rw [show (f5 k) = 0 from v5]
              refine lv_if_eq (tgt := 969) S.1 S.2.1 dL_law_953 (by decide) (fun cz_953 => ?_) (fun c9 => absurd (by decide) c9)
              refine lv_iconst (v := 0) S.1 S.2.1 dL_law_969 (by decide) ?_
              refine lv_iadd S.1 S.2.1 dL_law_970 ?_
              refine lv_istore (lv' := [(27, .int ((sumN (thF α) k) + 0)), (30, .int ((draw to9 w9) - w9)), (29, .int (to9 - w9)), (0, .ref (gE G 6)), (1, .ref (gB G 0)), (2, .ref q0), (3, .int (nI tt)), (7, .int (nI n)), (13, .int (nI o9)), (14, .int F1), (15, .int F2), (16, .int F3), (18, .int (nI hN)), (19, .int lf9), (20, .int (nI jh)), (21, .ref qa), (22, .ref qb), (23, .ref qc), (24, .ref qd), (25, .ref qe), (26, .int (sumN (xR α) 20)), (28, .int (nI k))]) S.1 S.2.1 dL_law_971 hl (by decide) rfl (fun ls hl => ?_)
              refine lv_iload S.1 S.2.1 dL_law_973 (lv_at hl 2 rfl) ?_
              refine lv_if_ne (tgt := 982) S.1 S.2.1 dL_law_975 (by decide) (fun c9 => absurd n1 c9) (fun cz_975 => ?_)
              refine lv_iconst (v := 1) S.1 S.2.1 dL_law_978 (by decide) ?_
              refine lv_goto (tgt := 983) S.1 S.2.1 dL_law_979 (by decide) ?_
              refine lv_iload S.1 S.2.1 dL_law_983 (lv_at hl 1 rfl) ?_
              refine lv_if_ne (tgt := 992) S.1 S.2.1 dL_law_985 (by decide) (fun c9 => absurd n2 c9) (fun cz_985 => ?_)
              refine lv_iconst (v := 1) S.1 S.2.1 dL_law_988 (by decide) ?_
              refine lv_goto (tgt := 993) S.1 S.2.1 dL_law_989 (by decide) ?_
              refine lv_icmp_ne (tgt := 1104) S.1 S.2.1 dL_law_993 (by decide) (fun c9 => absurd (by decide) c9) (fun cz_993 => ?_)
              refine lv_iload S.1 S.2.1 dL_law_996 (lv_at hl 2 rfl) ?_
              refine lv_if_le (tgt := 1014) S.1 S.2.1 dL_law_998 (by decide) (fun cz_998 => ?_) (fun c9 => absurd (by rw [n1]; exact Int32.le_refl 0) c9)
              refine lv_iload S.1 S.2.1 dL_law_1014 (lv_at hl 2 rfl) ?_
              refine lv_if_ge (tgt := 1032) S.1 S.2.1 dL_law_1016 (by decide) (fun cz_1016 => ?_) (fun c9 => absurd (by rw [n1]; exact Int32.le_refl 0) c9)
              refine lv_aload_n S.1 S.2.1 dL_law_1032 rfl (lv_at hl 4 rfl) ?_
              refine lv_iload S.1 S.2.1 dL_law_1033 (lv_at hl 21 rfl) ?_
              refine cz_i hJ (rzV (As := [.int (nI k)]) (rest := []) S hJ (c_ageOf l _ (hourX α) hk2 hn hX2) (cw_L_X3_ageOf S.2.2.2.2 ⟨by omega, by omega⟩) (rcX hJ.iv) rfl hl.1 (Nat.le_of_ble_eq_true rfl) dL_law_1035 ⟨by omega, by omega⟩) (fun r3 σ3 H locs hq3 hJ => ?_)
              obtain ⟨hr3, hs3⟩ := hq3
              rw [hs3] at hJ
              rw [hr3, show (gP (hourX α) k).2.2.2.2.1 = (nI ag) from by rw [hP2]]
              refine lv_aload S.1 S.2.1 dL_law_1038 (lv_at hl 17 rfl) ?_
              refine lv_iload S.1 S.2.1 dL_law_1040 (lv_at hl 21 rfl) ?_
              refine i_y S hJ 2 rfl (j := k) hk2 (by omega) dL_law_1042 ?_
              rw [show (f3 k) = (nI ag) from v3]
              refine lv_aload_n S.1 S.2.1 dL_law_1043 rfl (lv_at hl 4 rfl) ?_
              refine lv_iload S.1 S.2.1 dL_law_1044 (lv_at hl 21 rfl) ?_
              refine cz_i hJ (rzV (As := [.int (nI k)]) (rest := [.int (nI ag), .int (nI ag)]) S hJ (c_isFrozen l _ (hourX α) hok2 hk2 hn hX2) (cw_L_X3_isFrozen S.2.2.2.2 ⟨by omega, by omega⟩) (rcX hJ.iv) rfl hl.1 (Nat.le_of_ble_eq_true rfl) dL_law_1046 ⟨by omega, by omega⟩) (fun r4 σ4 H locs hq4 hJ => ?_)
              obtain ⟨hr4, hs4⟩ := hq4
              rw [hs4] at hJ
              rw [hr4, show (if (gP (hourX α) k).1 = 2 then (1 : Int32) else 0) = 1 from by rw [hP2]; rfl]
              refine lv_if_eq (tgt := 1056) S.1 S.2.1 dL_law_1049 (by decide) (fun c9 => absurd c9 (by decide)) (fun cz_1049 => ?_)
              refine lv_iconst (v := 0) S.1 S.2.1 dL_law_1052 (by decide) ?_
              refine lv_goto (tgt := 1057) S.1 S.2.1 dL_law_1053 (by decide) ?_
              refine lv_iadd S.1 S.2.1 dL_law_1057 ?_
              refine lv_icmp_ne (tgt := 1104) S.1 S.2.1 dL_law_1058 (by decide) (fun c9 => absurd ((Int32.add_zero _).symm) c9) (fun cz_1058 => ?_)
              refine lv_aload_n S.1 S.2.1 dL_law_1061 rfl (lv_at hl 4 rfl) ?_
              refine lv_iload S.1 S.2.1 dL_law_1062 (lv_at hl 21 rfl) ?_
              refine cz_i hJ (rzV (As := [.int (nI k)]) (rest := []) S hJ (c_isFrozen l _ (hourX α) hok2 hk2 hn hX2) (cw_L_X3_isFrozen S.2.2.2.2 ⟨by omega, by omega⟩) (rcX hJ.iv) rfl hl.1 (Nat.le_of_ble_eq_true rfl) dL_law_1064 ⟨by omega, by omega⟩) (fun r5 σ5 H locs hq5 hJ => ?_)
              obtain ⟨hr5, hs5⟩ := hq5
              rw [hs5] at hJ
              rw [hr5, show (if (gP (hourX α) k).1 = 2 then (1 : Int32) else 0) = 1 from by rw [hP2]; rfl]
              refine lv_if_eq (tgt := 1081) S.1 S.2.1 dL_law_1067 (by decide) (fun c9 => absurd c9 (by decide)) (fun cz_1067 => ?_)
              refine lv_aload_n S.1 S.2.1 dL_law_1070 rfl (lv_at hl 4 rfl) ?_
              refine lv_iload S.1 S.2.1 dL_law_1071 (lv_at hl 21 rfl) ?_
              refine cz_i hJ (rzV (As := [.int (nI k)]) (rest := []) S hJ (c_heatOf l _ (hourX α) hk2 hn hX2) (cw_L_X3_heatOf S.2.2.2.2 ⟨by omega, by omega⟩) (rcX hJ.iv) rfl hl.1 (Nat.le_of_ble_eq_true rfl) dL_law_1073 ⟨by omega, by omega⟩) (fun r6 σ6 H locs hq6 hJ => ?_)
              obtain ⟨hr6, hs6⟩ := hq6
              rw [hs6] at hJ
              rw [hr6, show (gP (hourX α) k).2.2.2.2.2 = (draw to9 w9) from by rw [hP2]]
              refine lv_bipush (v := (-4)) S.1 S.2.1 dL_law_1076 (by decide) ?_
              refine lv_icmp_gt (tgt := 1104) S.1 S.2.1 dL_law_1078 (by decide) (fun c9 => absurd c9 (Int32.not_lt.mpr (cold4 c1))) (fun cz_1078 => ?_)
              refine lv_aload_n S.1 S.2.1 dL_law_1081 rfl (lv_at hl 4 rfl) ?_
              refine lv_iload S.1 S.2.1 dL_law_1082 (lv_at hl 21 rfl) ?_
              refine cz_i hJ (rzV (As := [.int (nI k)]) (rest := []) S hJ (c_isExpired l _ (hourX α) hok2 hk2 hn hX2) (cw_L_X3_isExpired S.2.2.2.2 ⟨by omega, by omega⟩) (rcX hJ.iv) rfl hl.1 (Nat.le_of_ble_eq_true rfl) dL_law_1084 ⟨by omega, by omega⟩) (fun r7 σ7 H locs hq7 hJ => ?_)
              obtain ⟨hr7, hs7⟩ := hq7
              rw [hs7] at hJ
              rw [hr7, show (if (gP (hourX α) k).1 = 5 then (1 : Int32) else 0) = 0 from by rw [hP2]; rfl]
              refine lv_aload_n S.1 S.2.1 dL_law_1087 rfl (lv_at hl 4 rfl) ?_
              refine lv_iload S.1 S.2.1 dL_law_1088 (lv_at hl 21 rfl) ?_
              refine cz_i hJ (rzV (As := [.int (nI k)]) (rest := [.int 0]) S hJ (c_hoursLeft l _ (hourX α) hk2 hn hX2) (cw_L_X3_hoursLeft S.2.2.2.2 ⟨by omega, by omega⟩) (rcX hJ.iv) rfl hl.1 (Nat.le_of_ble_eq_true rfl) dL_law_1090 ⟨by omega, by omega⟩) (fun r8 σ8 H locs hq8 hJ => ?_)
              obtain ⟨hr8, hs8⟩ := hq8
              rw [hs8] at hJ
              rw [hr8, show (gP (hourX α) k).2.2.2.1 - (gP (hourX α) k).2.2.2.2.1 = nI lf - (nI ag) from by rw [hP2]]
              refine lv_if_ne (tgt := 1100) S.1 S.2.1 dL_law_1093 (by decide) (fun cz_1093 => ?_) (fun c9 => absurd c9 (same_ne hal e5))
              refine lv_iconst (v := 0) S.1 S.2.1 dL_law_1100 (by decide) ?_
              refine lv_icmp_eq (tgt := 1106) S.1 S.2.1 dL_law_1101 (by decide) (fun cz_1101 => ?_) (fun c9 => absurd (by decide) c9)
              refine lv_iinc (v := (nI (k + 1))) (lv' := [(28, .int (nI (k + 1))), (27, .int ((sumN (thF α) k) + 0)), (30, .int ((draw to9 w9) - w9)), (29, .int (to9 - w9)), (0, .ref (gE G 6)), (1, .ref (gB G 0)), (2, .ref q0), (3, .int (nI tt)), (7, .int (nI n)), (13, .int (nI o9)), (14, .int F1), (15, .int F2), (16, .int F3), (18, .int (nI hN)), (19, .int lf9), (20, .int (nI jh)), (21, .ref qa), (22, .ref qb), (23, .ref qc), (24, .ref qd), (25, .ref qe), (26, .int (sumN (xR α) 20))]) S.1 S.2.1 dL_law_1106 hl (k := 21) rfl (nI_1 k) (by decide) rfl (fun ls hl => ?_)
              refine lv_goto (tgt := 861) S.1 S.2.1 dL_law_1109 (by decide) ?_
              exact ih (k + 1) (by omega) _ _ hJ ls (by rw [show sumN (thF α) (k + 1) = ((sumN (thF α) k) + 0) from by rw [sumN_s, hth0]]; exact lv_sub hl [4, 5, 6, 7, 8, 9, 10, 11, 12, 13, 14, 15, 16, 17, 18, 19, 20, 21, 1, 0] rfl)
            · refine lv_iload S.1 S.2.1 dL_law_861 (lv_at hl 19 rfl) ?_
              refine lv_iload S.1 S.2.1 dL_law_863 (lv_at hl 4 rfl) ?_
              refine lv_icmp_ge (tgt := 1112) S.1 S.2.1 dL_law_865 (by decide) (fun c9 => absurd c9 (nI_ge hk2 (by omega))) (fun cz_865 => ?_)
              refine lv_aload S.1 S.2.1 dL_law_868 (lv_at hl 15 rfl) ?_
              refine lv_iload S.1 S.2.1 dL_law_870 (lv_at hl 19 rfl) ?_
              refine i_y S hJ 3 rfl (j := k) hk2 (by omega) dL_law_872 ?_
              rw [show (f4 k) = (nI sh) from v4]
              refine lv_if_ge (tgt := 915) S.1 S.2.1 dL_law_873 (by decide) (fun cz_873 => ?_) (fun c9 => absurd (Int32.not_lt.mp (nI_pos (by omega))) c9)
              refine lv_aload_n S.1 S.2.1 dL_law_915 rfl (lv_at hl 1 rfl) ?_
              refine lv_aload S.1 S.2.1 dL_law_916 (lv_at hl 15 rfl) ?_
              refine lv_iload S.1 S.2.1 dL_law_918 (lv_at hl 19 rfl) ?_
              refine i_y S hJ 3 rfl (j := k) hk2 (by omega) dL_law_920 ?_
              rw [show (f4 k) = (nI sh) from v4]
              refine cz_i hJ (rzV (As := [.int (nI sh)]) (rest := []) S hJ (c_heatOn l _ (hourX α) hs5) (cw_L_X3_heatOn S.2.2.2.2 ⟨by omega, by omega⟩) (rcX hJ.iv) rfl hl.1 (Nat.le_of_ble_eq_true rfl) dL_law_921 ⟨by omega, by omega⟩) (fun r1 σ1 H locs hq1 hJ => ?_)
              obtain ⟨hr1, hs1⟩ := hq1
              rw [hs1] at hJ
              rw [hr1, hSt]
              refine lv_aload S.1 S.2.1 dL_law_924 (lv_at hl 13 rfl) ?_
              refine lv_iload S.1 S.2.1 dL_law_926 (lv_at hl 19 rfl) ?_
              refine i_y S hJ 1 rfl (j := k) hk2 (by omega) dL_law_928 ?_
              rw [show (f2 k) = w9 from v2]
              refine lv_isub S.1 S.2.1 dL_law_929 ?_
              refine lv_istore (lv' := [(29, .int (to9 - w9)), (0, .ref (gE G 6)), (1, .ref (gB G 0)), (2, .ref q0), (3, .int (nI tt)), (7, .int (nI n)), (13, .int (nI o9)), (14, .int F1), (15, .int F2), (16, .int F3), (18, .int (nI hN)), (19, .int lf9), (20, .int (nI jh)), (21, .ref qa), (22, .ref qb), (23, .ref qc), (24, .ref qd), (25, .ref qe), (26, .int (sumN (xR α) 20)), (27, .int (sumN (thF α) k)), (28, .int (nI k))]) S.1 S.2.1 dL_law_930 hl (by decide) rfl (fun ls hl => ?_)
              refine lv_aload_n S.1 S.2.1 dL_law_932 rfl (lv_at hl 2 rfl) ?_
              refine lv_iload S.1 S.2.1 dL_law_933 (lv_at hl 20 rfl) ?_
              refine cz_i hJ (rzV (As := [.int (nI k)]) (rest := []) S hJ (c_heatOf l _ (hourX α) hk2 hn hX2) (cw_L_X3_heatOf S.2.2.2.2 ⟨by omega, by omega⟩) (rcX hJ.iv) rfl hl.1 (Nat.le_of_ble_eq_true rfl) dL_law_935 ⟨by omega, by omega⟩) (fun r2 σ2 H locs hq2 hJ => ?_)
              obtain ⟨hr2, hs2⟩ := hq2
              rw [hs2] at hJ
              rw [hr2, show (gP (hourX α) k).2.2.2.2.2 = (draw to9 w9) from by rw [hP2]]
              refine lv_aload S.1 S.2.1 dL_law_938 (lv_at hl 14 rfl) ?_
              refine lv_iload S.1 S.2.1 dL_law_940 (lv_at hl 20 rfl) ?_
              refine i_y S hJ 1 rfl (j := k) hk2 (by omega) dL_law_942 ?_
              rw [show (f2 k) = w9 from v2]
              refine lv_isub S.1 S.2.1 dL_law_943 ?_
              refine lv_istore (lv' := [(30, .int ((draw to9 w9) - w9)), (29, .int (to9 - w9)), (0, .ref (gE G 6)), (1, .ref (gB G 0)), (2, .ref q0), (3, .int (nI tt)), (7, .int (nI n)), (13, .int (nI o9)), (14, .int F1), (15, .int F2), (16, .int F3), (18, .int (nI hN)), (19, .int lf9), (20, .int (nI jh)), (21, .ref qa), (22, .ref qb), (23, .ref qc), (24, .ref qd), (25, .ref qe), (26, .int (sumN (xR α) 20)), (27, .int (sumN (thF α) k)), (28, .int (nI k))]) S.1 S.2.1 dL_law_944 hl (by decide) rfl (fun ls hl => ?_)
              refine lv_iload S.1 S.2.1 dL_law_946 (lv_at hl 20 rfl) ?_
              refine lv_aload S.1 S.2.1 dL_law_948 (lv_at hl 18 rfl) ?_
              refine lv_iload S.1 S.2.1 dL_law_950 (lv_at hl 21 rfl) ?_
              refine i_yz S hJ 4 rfl (j := k) hk2 (by omega) dL_law_952 ?_
              rw [show (f5 k) = 0 from v5]
              refine lv_if_eq (tgt := 969) S.1 S.2.1 dL_law_953 (by decide) (fun cz_953 => ?_) (fun c9 => absurd (by decide) c9)
              refine lv_iconst (v := 0) S.1 S.2.1 dL_law_969 (by decide) ?_
              refine lv_iadd S.1 S.2.1 dL_law_970 ?_
              refine lv_istore (lv' := [(27, .int ((sumN (thF α) k) + 0)), (30, .int ((draw to9 w9) - w9)), (29, .int (to9 - w9)), (0, .ref (gE G 6)), (1, .ref (gB G 0)), (2, .ref q0), (3, .int (nI tt)), (7, .int (nI n)), (13, .int (nI o9)), (14, .int F1), (15, .int F2), (16, .int F3), (18, .int (nI hN)), (19, .int lf9), (20, .int (nI jh)), (21, .ref qa), (22, .ref qb), (23, .ref qc), (24, .ref qd), (25, .ref qe), (26, .int (sumN (xR α) 20)), (28, .int (nI k))]) S.1 S.2.1 dL_law_971 hl (by decide) rfl (fun ls hl => ?_)
              refine lv_iload S.1 S.2.1 dL_law_973 (lv_at hl 2 rfl) ?_
              refine lv_if_ne (tgt := 982) S.1 S.2.1 dL_law_975 (by decide) (fun cz_975 => ?_) (fun c9 => absurd c9 (pos_ne n1))
              refine lv_iconst (v := 0) S.1 S.2.1 dL_law_982 (by decide) ?_
              refine lv_iload S.1 S.2.1 dL_law_983 (lv_at hl 1 rfl) ?_
              refine lv_if_ne (tgt := 992) S.1 S.2.1 dL_law_985 (by decide) (fun cz_985 => ?_) (fun c9 => absurd c9 (one_ne n2))
              refine lv_iconst (v := 0) S.1 S.2.1 dL_law_992 (by decide) ?_
              refine lv_icmp_ne (tgt := 1104) S.1 S.2.1 dL_law_993 (by decide) (fun c9 => absurd (by decide) c9) (fun cz_993 => ?_)
              refine lv_iload S.1 S.2.1 dL_law_996 (lv_at hl 2 rfl) ?_
              refine lv_if_le (tgt := 1014) S.1 S.2.1 dL_law_998 (by decide) (fun c9 => absurd c9 (Int32.not_le.mpr n1)) (fun cz_998 => ?_)
              refine lv_iload S.1 S.2.1 dL_law_1001 (lv_at hl 1 rfl) ?_
              refine lv_iconst (v := 1) S.1 S.2.1 dL_law_1003 (by decide) ?_
              refine lv_icmp_lt (tgt := 1104) S.1 S.2.1 dL_law_1004 (by decide) (fun c9 => absurd c9 (Int32.not_lt.mpr n2)) (fun cz_1004 => ?_)
              refine lv_iload S.1 S.2.1 dL_law_1007 (lv_at hl 1 rfl) ?_
              refine lv_iload S.1 S.2.1 dL_law_1009 (lv_at hl 2 rfl) ?_
              refine lv_icmp_gt (tgt := 1104) S.1 S.2.1 dL_law_1011 (by decide) (fun c9 => absurd c9 (Int32.not_lt.mpr n3)) (fun cz_1011 => ?_)
              refine lv_iload S.1 S.2.1 dL_law_1014 (lv_at hl 2 rfl) ?_
              refine lv_if_ge (tgt := 1032) S.1 S.2.1 dL_law_1016 (by decide) (fun cz_1016 => ?_) (fun c9 => absurd (Int32.le_of_lt n1) c9)
              refine lv_aload_n S.1 S.2.1 dL_law_1032 rfl (lv_at hl 4 rfl) ?_
              refine lv_iload S.1 S.2.1 dL_law_1033 (lv_at hl 21 rfl) ?_
              refine cz_i hJ (rzV (As := [.int (nI k)]) (rest := []) S hJ (c_ageOf l _ (hourX α) hk2 hn hX2) (cw_L_X3_ageOf S.2.2.2.2 ⟨by omega, by omega⟩) (rcX hJ.iv) rfl hl.1 (Nat.le_of_ble_eq_true rfl) dL_law_1035 ⟨by omega, by omega⟩) (fun r3 σ3 H locs hq3 hJ => ?_)
              obtain ⟨hr3, hs3⟩ := hq3
              rw [hs3] at hJ
              rw [hr3, show (gP (hourX α) k).2.2.2.2.1 = (nI ag) from by rw [hP2]]
              refine lv_aload S.1 S.2.1 dL_law_1038 (lv_at hl 17 rfl) ?_
              refine lv_iload S.1 S.2.1 dL_law_1040 (lv_at hl 21 rfl) ?_
              refine i_y S hJ 2 rfl (j := k) hk2 (by omega) dL_law_1042 ?_
              rw [show (f3 k) = (nI ag) from v3]
              refine lv_aload_n S.1 S.2.1 dL_law_1043 rfl (lv_at hl 4 rfl) ?_
              refine lv_iload S.1 S.2.1 dL_law_1044 (lv_at hl 21 rfl) ?_
              refine cz_i hJ (rzV (As := [.int (nI k)]) (rest := [.int (nI ag), .int (nI ag)]) S hJ (c_isFrozen l _ (hourX α) hok2 hk2 hn hX2) (cw_L_X3_isFrozen S.2.2.2.2 ⟨by omega, by omega⟩) (rcX hJ.iv) rfl hl.1 (Nat.le_of_ble_eq_true rfl) dL_law_1046 ⟨by omega, by omega⟩) (fun r4 σ4 H locs hq4 hJ => ?_)
              obtain ⟨hr4, hs4⟩ := hq4
              rw [hs4] at hJ
              rw [hr4, show (if (gP (hourX α) k).1 = 2 then (1 : Int32) else 0) = 1 from by rw [hP2]; rfl]
              refine lv_if_eq (tgt := 1056) S.1 S.2.1 dL_law_1049 (by decide) (fun c9 => absurd c9 (by decide)) (fun cz_1049 => ?_)
              refine lv_iconst (v := 0) S.1 S.2.1 dL_law_1052 (by decide) ?_
              refine lv_goto (tgt := 1057) S.1 S.2.1 dL_law_1053 (by decide) ?_
              refine lv_iadd S.1 S.2.1 dL_law_1057 ?_
              refine lv_icmp_ne (tgt := 1104) S.1 S.2.1 dL_law_1058 (by decide) (fun c9 => absurd ((Int32.add_zero _).symm) c9) (fun cz_1058 => ?_)
              refine lv_aload_n S.1 S.2.1 dL_law_1061 rfl (lv_at hl 4 rfl) ?_
              refine lv_iload S.1 S.2.1 dL_law_1062 (lv_at hl 21 rfl) ?_
              refine cz_i hJ (rzV (As := [.int (nI k)]) (rest := []) S hJ (c_isFrozen l _ (hourX α) hok2 hk2 hn hX2) (cw_L_X3_isFrozen S.2.2.2.2 ⟨by omega, by omega⟩) (rcX hJ.iv) rfl hl.1 (Nat.le_of_ble_eq_true rfl) dL_law_1064 ⟨by omega, by omega⟩) (fun r5 σ5 H locs hq5 hJ => ?_)
              obtain ⟨hr5, hs5⟩ := hq5
              rw [hs5] at hJ
              rw [hr5, show (if (gP (hourX α) k).1 = 2 then (1 : Int32) else 0) = 1 from by rw [hP2]; rfl]
              refine lv_if_eq (tgt := 1081) S.1 S.2.1 dL_law_1067 (by decide) (fun c9 => absurd c9 (by decide)) (fun cz_1067 => ?_)
              refine lv_aload_n S.1 S.2.1 dL_law_1070 rfl (lv_at hl 4 rfl) ?_
              refine lv_iload S.1 S.2.1 dL_law_1071 (lv_at hl 21 rfl) ?_
              refine cz_i hJ (rzV (As := [.int (nI k)]) (rest := []) S hJ (c_heatOf l _ (hourX α) hk2 hn hX2) (cw_L_X3_heatOf S.2.2.2.2 ⟨by omega, by omega⟩) (rcX hJ.iv) rfl hl.1 (Nat.le_of_ble_eq_true rfl) dL_law_1073 ⟨by omega, by omega⟩) (fun r6 σ6 H locs hq6 hJ => ?_)
              obtain ⟨hr6, hs6⟩ := hq6
              rw [hs6] at hJ
              rw [hr6, show (gP (hourX α) k).2.2.2.2.2 = (draw to9 w9) from by rw [hP2]]
              refine lv_bipush (v := (-4)) S.1 S.2.1 dL_law_1076 (by decide) ?_
              refine lv_icmp_gt (tgt := 1104) S.1 S.2.1 dL_law_1078 (by decide) (fun c9 => absurd c9 (Int32.not_lt.mpr (cold4 c1))) (fun cz_1078 => ?_)
              refine lv_aload_n S.1 S.2.1 dL_law_1081 rfl (lv_at hl 4 rfl) ?_
              refine lv_iload S.1 S.2.1 dL_law_1082 (lv_at hl 21 rfl) ?_
              refine cz_i hJ (rzV (As := [.int (nI k)]) (rest := []) S hJ (c_isExpired l _ (hourX α) hok2 hk2 hn hX2) (cw_L_X3_isExpired S.2.2.2.2 ⟨by omega, by omega⟩) (rcX hJ.iv) rfl hl.1 (Nat.le_of_ble_eq_true rfl) dL_law_1084 ⟨by omega, by omega⟩) (fun r7 σ7 H locs hq7 hJ => ?_)
              obtain ⟨hr7, hs7⟩ := hq7
              rw [hs7] at hJ
              rw [hr7, show (if (gP (hourX α) k).1 = 5 then (1 : Int32) else 0) = 0 from by rw [hP2]; rfl]
              refine lv_aload_n S.1 S.2.1 dL_law_1087 rfl (lv_at hl 4 rfl) ?_
              refine lv_iload S.1 S.2.1 dL_law_1088 (lv_at hl 21 rfl) ?_
              refine cz_i hJ (rzV (As := [.int (nI k)]) (rest := [.int 0]) S hJ (c_hoursLeft l _ (hourX α) hk2 hn hX2) (cw_L_X3_hoursLeft S.2.2.2.2 ⟨by omega, by omega⟩) (rcX hJ.iv) rfl hl.1 (Nat.le_of_ble_eq_true rfl) dL_law_1090 ⟨by omega, by omega⟩) (fun r8 σ8 H locs hq8 hJ => ?_)
              obtain ⟨hr8, hs8⟩ := hq8
              rw [hs8] at hJ
              rw [hr8, show (gP (hourX α) k).2.2.2.1 - (gP (hourX α) k).2.2.2.2.1 = nI lf - (nI ag) from by rw [hP2]]
              refine lv_if_ne (tgt := 1100) S.1 S.2.1 dL_law_1093 (by decide) (fun cz_1093 => ?_) (fun c9 => absurd c9 (same_ne hal e5))
              refine lv_iconst (v := 0) S.1 S.2.1 dL_law_1100 (by decide) ?_
              refine lv_icmp_eq (tgt := 1106) S.1 S.2.1 dL_law_1101 (by decide) (fun cz_1101 => ?_) (fun c9 => absurd (by decide) c9)
              refine lv_iinc (v := (nI (k + 1))) (lv' := [(28, .int (nI (k + 1))), (27, .int ((sumN (thF α) k) + 0)), (30, .int ((draw to9 w9) - w9)), (29, .int (to9 - w9)), (0, .ref (gE G 6)), (1, .ref (gB G 0)), (2, .ref q0), (3, .int (nI tt)), (7, .int (nI n)), (13, .int (nI o9)), (14, .int F1), (15, .int F2), (16, .int F3), (18, .int (nI hN)), (19, .int lf9), (20, .int (nI jh)), (21, .ref qa), (22, .ref qb), (23, .ref qc), (24, .ref qd), (25, .ref qe), (26, .int (sumN (xR α) 20))]) S.1 S.2.1 dL_law_1106 hl (k := 21) rfl (nI_1 k) (by decide) rfl (fun ls hl => ?_)
              refine lv_goto (tgt := 861) S.1 S.2.1 dL_law_1109 (by decide) ?_
              exact ih (k + 1) (by omega) _ _ hJ ls (by rw [show sumN (thF α) (k + 1) = ((sumN (thF α) k) + 0) from by rw [sumN_s, hth0]]; exact lv_sub hl [4, 5, 6, 7, 8, 9, 10, 11, 12, 13, 14, 15, 16, 17, 18, 19, 20, 21, 1, 0] rfl)
            · refine lv_iload S.1 S.2.1 dL_law_861 (lv_at hl 19 rfl) ?_
              refine lv_iload S.1 S.2.1 dL_law_863 (lv_at hl 4 rfl) ?_
              refine lv_icmp_ge (tgt := 1112) S.1 S.2.1 dL_law_865 (by decide) (fun c9 => absurd c9 (nI_ge hk2 (by omega))) (fun cz_865 => ?_)
              refine lv_aload S.1 S.2.1 dL_law_868 (lv_at hl 15 rfl) ?_
              refine lv_iload S.1 S.2.1 dL_law_870 (lv_at hl 19 rfl) ?_
              refine i_y S hJ 3 rfl (j := k) hk2 (by omega) dL_law_872 ?_
              rw [show (f4 k) = (nI sh) from v4]
              refine lv_if_ge (tgt := 915) S.1 S.2.1 dL_law_873 (by decide) (fun cz_873 => ?_) (fun c9 => absurd (Int32.not_lt.mp (nI_pos (by omega))) c9)
              refine lv_aload_n S.1 S.2.1 dL_law_915 rfl (lv_at hl 1 rfl) ?_
              refine lv_aload S.1 S.2.1 dL_law_916 (lv_at hl 15 rfl) ?_
              refine lv_iload S.1 S.2.1 dL_law_918 (lv_at hl 19 rfl) ?_
              refine i_y S hJ 3 rfl (j := k) hk2 (by omega) dL_law_920 ?_
              rw [show (f4 k) = (nI sh) from v4]
              refine cz_i hJ (rzV (As := [.int (nI sh)]) (rest := []) S hJ (c_heatOn l _ (hourX α) hs5) (cw_L_X3_heatOn S.2.2.2.2 ⟨by omega, by omega⟩) (rcX hJ.iv) rfl hl.1 (Nat.le_of_ble_eq_true rfl) dL_law_921 ⟨by omega, by omega⟩) (fun r1 σ1 H locs hq1 hJ => ?_)
              obtain ⟨hr1, hs1⟩ := hq1
              rw [hs1] at hJ
              rw [hr1, hSt]
              refine lv_aload S.1 S.2.1 dL_law_924 (lv_at hl 13 rfl) ?_
              refine lv_iload S.1 S.2.1 dL_law_926 (lv_at hl 19 rfl) ?_
              refine i_y S hJ 1 rfl (j := k) hk2 (by omega) dL_law_928 ?_
              rw [show (f2 k) = w9 from v2]
              refine lv_isub S.1 S.2.1 dL_law_929 ?_
              refine lv_istore (lv' := [(29, .int (to9 - w9)), (0, .ref (gE G 6)), (1, .ref (gB G 0)), (2, .ref q0), (3, .int (nI tt)), (7, .int (nI n)), (13, .int (nI o9)), (14, .int F1), (15, .int F2), (16, .int F3), (18, .int (nI hN)), (19, .int lf9), (20, .int (nI jh)), (21, .ref qa), (22, .ref qb), (23, .ref qc), (24, .ref qd), (25, .ref qe), (26, .int (sumN (xR α) 20)), (27, .int (sumN (thF α) k)), (28, .int (nI k))]) S.1 S.2.1 dL_law_930 hl (by decide) rfl (fun ls hl => ?_)
              refine lv_aload_n S.1 S.2.1 dL_law_932 rfl (lv_at hl 2 rfl) ?_
              refine lv_iload S.1 S.2.1 dL_law_933 (lv_at hl 20 rfl) ?_
              refine cz_i hJ (rzV (As := [.int (nI k)]) (rest := []) S hJ (c_heatOf l _ (hourX α) hk2 hn hX2) (cw_L_X3_heatOf S.2.2.2.2 ⟨by omega, by omega⟩) (rcX hJ.iv) rfl hl.1 (Nat.le_of_ble_eq_true rfl) dL_law_935 ⟨by omega, by omega⟩) (fun r2 σ2 H locs hq2 hJ => ?_)
              obtain ⟨hr2, hs2⟩ := hq2
              rw [hs2] at hJ
              rw [hr2, show (gP (hourX α) k).2.2.2.2.2 = (draw to9 w9) from by rw [hP2]]
              refine lv_aload S.1 S.2.1 dL_law_938 (lv_at hl 14 rfl) ?_
              refine lv_iload S.1 S.2.1 dL_law_940 (lv_at hl 20 rfl) ?_
              refine i_y S hJ 1 rfl (j := k) hk2 (by omega) dL_law_942 ?_
              rw [show (f2 k) = w9 from v2]
              refine lv_isub S.1 S.2.1 dL_law_943 ?_
              refine lv_istore (lv' := [(30, .int ((draw to9 w9) - w9)), (29, .int (to9 - w9)), (0, .ref (gE G 6)), (1, .ref (gB G 0)), (2, .ref q0), (3, .int (nI tt)), (7, .int (nI n)), (13, .int (nI o9)), (14, .int F1), (15, .int F2), (16, .int F3), (18, .int (nI hN)), (19, .int lf9), (20, .int (nI jh)), (21, .ref qa), (22, .ref qb), (23, .ref qc), (24, .ref qd), (25, .ref qe), (26, .int (sumN (xR α) 20)), (27, .int (sumN (thF α) k)), (28, .int (nI k))]) S.1 S.2.1 dL_law_944 hl (by decide) rfl (fun ls hl => ?_)
              refine lv_iload S.1 S.2.1 dL_law_946 (lv_at hl 20 rfl) ?_
              refine lv_aload S.1 S.2.1 dL_law_948 (lv_at hl 18 rfl) ?_
              refine lv_iload S.1 S.2.1 dL_law_950 (lv_at hl 21 rfl) ?_
              refine i_yz S hJ 4 rfl (j := k) hk2 (by omega) dL_law_952 ?_
              rw [show (f5 k) = 0 from v5]
              refine lv_if_eq (tgt := 969) S.1 S.2.1 dL_law_953 (by decide) (fun cz_953 => ?_) (fun c9 => absurd (by decide) c9)
              refine lv_iconst (v := 0) S.1 S.2.1 dL_law_969 (by decide) ?_
              refine lv_iadd S.1 S.2.1 dL_law_970 ?_
              refine lv_istore (lv' := [(27, .int ((sumN (thF α) k) + 0)), (30, .int ((draw to9 w9) - w9)), (29, .int (to9 - w9)), (0, .ref (gE G 6)), (1, .ref (gB G 0)), (2, .ref q0), (3, .int (nI tt)), (7, .int (nI n)), (13, .int (nI o9)), (14, .int F1), (15, .int F2), (16, .int F3), (18, .int (nI hN)), (19, .int lf9), (20, .int (nI jh)), (21, .ref qa), (22, .ref qb), (23, .ref qc), (24, .ref qd), (25, .ref qe), (26, .int (sumN (xR α) 20)), (28, .int (nI k))]) S.1 S.2.1 dL_law_971 hl (by decide) rfl (fun ls hl => ?_)
              refine lv_iload S.1 S.2.1 dL_law_973 (lv_at hl 2 rfl) ?_
              refine lv_if_ne (tgt := 982) S.1 S.2.1 dL_law_975 (by decide) (fun cz_975 => ?_) (fun c9 => absurd c9 (neg_ne n1))
              refine lv_iconst (v := 0) S.1 S.2.1 dL_law_982 (by decide) ?_
              refine lv_iload S.1 S.2.1 dL_law_983 (lv_at hl 1 rfl) ?_
              refine lv_if_ne (tgt := 992) S.1 S.2.1 dL_law_985 (by decide) (fun cz_985 => ?_) (fun c9 => absurd c9 (mone_ne n2))
              refine lv_iconst (v := 0) S.1 S.2.1 dL_law_992 (by decide) ?_
              refine lv_icmp_ne (tgt := 1104) S.1 S.2.1 dL_law_993 (by decide) (fun c9 => absurd (by decide) c9) (fun cz_993 => ?_)
              refine lv_iload S.1 S.2.1 dL_law_996 (lv_at hl 2 rfl) ?_
              refine lv_if_le (tgt := 1014) S.1 S.2.1 dL_law_998 (by decide) (fun cz_998 => ?_) (fun c9 => absurd (Int32.le_of_lt n1) c9)
              refine lv_iload S.1 S.2.1 dL_law_1014 (lv_at hl 2 rfl) ?_
              refine lv_if_ge (tgt := 1032) S.1 S.2.1 dL_law_1016 (by decide) (fun c9 => absurd c9 (Int32.not_le.mpr n1)) (fun cz_1016 => ?_)
              refine lv_iload S.1 S.2.1 dL_law_1019 (lv_at hl 1 rfl) ?_
              refine lv_iconst (v := (-1)) S.1 S.2.1 dL_law_1021 (by decide) ?_
              refine lv_icmp_gt (tgt := 1104) S.1 S.2.1 dL_law_1022 (by decide) (fun c9 => absurd c9 (Int32.not_lt.mpr n2)) (fun cz_1022 => ?_)
              refine lv_iload S.1 S.2.1 dL_law_1025 (lv_at hl 1 rfl) ?_
              refine lv_iload S.1 S.2.1 dL_law_1027 (lv_at hl 2 rfl) ?_
              refine lv_icmp_lt (tgt := 1104) S.1 S.2.1 dL_law_1029 (by decide) (fun c9 => absurd c9 (Int32.not_lt.mpr n3)) (fun cz_1029 => ?_)
              refine lv_aload_n S.1 S.2.1 dL_law_1032 rfl (lv_at hl 4 rfl) ?_
              refine lv_iload S.1 S.2.1 dL_law_1033 (lv_at hl 21 rfl) ?_
              refine cz_i hJ (rzV (As := [.int (nI k)]) (rest := []) S hJ (c_ageOf l _ (hourX α) hk2 hn hX2) (cw_L_X3_ageOf S.2.2.2.2 ⟨by omega, by omega⟩) (rcX hJ.iv) rfl hl.1 (Nat.le_of_ble_eq_true rfl) dL_law_1035 ⟨by omega, by omega⟩) (fun r3 σ3 H locs hq3 hJ => ?_)
              obtain ⟨hr3, hs3⟩ := hq3
              rw [hs3] at hJ
              rw [hr3, show (gP (hourX α) k).2.2.2.2.1 = (nI ag) from by rw [hP2]]
              refine lv_aload S.1 S.2.1 dL_law_1038 (lv_at hl 17 rfl) ?_
              refine lv_iload S.1 S.2.1 dL_law_1040 (lv_at hl 21 rfl) ?_
              refine i_y S hJ 2 rfl (j := k) hk2 (by omega) dL_law_1042 ?_
              rw [show (f3 k) = (nI ag) from v3]
              refine lv_aload_n S.1 S.2.1 dL_law_1043 rfl (lv_at hl 4 rfl) ?_
              refine lv_iload S.1 S.2.1 dL_law_1044 (lv_at hl 21 rfl) ?_
              refine cz_i hJ (rzV (As := [.int (nI k)]) (rest := [.int (nI ag), .int (nI ag)]) S hJ (c_isFrozen l _ (hourX α) hok2 hk2 hn hX2) (cw_L_X3_isFrozen S.2.2.2.2 ⟨by omega, by omega⟩) (rcX hJ.iv) rfl hl.1 (Nat.le_of_ble_eq_true rfl) dL_law_1046 ⟨by omega, by omega⟩) (fun r4 σ4 H locs hq4 hJ => ?_)
              obtain ⟨hr4, hs4⟩ := hq4
              rw [hs4] at hJ
              rw [hr4, show (if (gP (hourX α) k).1 = 2 then (1 : Int32) else 0) = 1 from by rw [hP2]; rfl]
              refine lv_if_eq (tgt := 1056) S.1 S.2.1 dL_law_1049 (by decide) (fun c9 => absurd c9 (by decide)) (fun cz_1049 => ?_)
              refine lv_iconst (v := 0) S.1 S.2.1 dL_law_1052 (by decide) ?_
              refine lv_goto (tgt := 1057) S.1 S.2.1 dL_law_1053 (by decide) ?_
              refine lv_iadd S.1 S.2.1 dL_law_1057 ?_
              refine lv_icmp_ne (tgt := 1104) S.1 S.2.1 dL_law_1058 (by decide) (fun c9 => absurd ((Int32.add_zero _).symm) c9) (fun cz_1058 => ?_)
              refine lv_aload_n S.1 S.2.1 dL_law_1061 rfl (lv_at hl 4 rfl) ?_
              refine lv_iload S.1 S.2.1 dL_law_1062 (lv_at hl 21 rfl) ?_
              refine cz_i hJ (rzV (As := [.int (nI k)]) (rest := []) S hJ (c_isFrozen l _ (hourX α) hok2 hk2 hn hX2) (cw_L_X3_isFrozen S.2.2.2.2 ⟨by omega, by omega⟩) (rcX hJ.iv) rfl hl.1 (Nat.le_of_ble_eq_true rfl) dL_law_1064 ⟨by omega, by omega⟩) (fun r5 σ5 H locs hq5 hJ => ?_)
              obtain ⟨hr5, hs5⟩ := hq5
              rw [hs5] at hJ
              rw [hr5, show (if (gP (hourX α) k).1 = 2 then (1 : Int32) else 0) = 1 from by rw [hP2]; rfl]
              refine lv_if_eq (tgt := 1081) S.1 S.2.1 dL_law_1067 (by decide) (fun c9 => absurd c9 (by decide)) (fun cz_1067 => ?_)
              refine lv_aload_n S.1 S.2.1 dL_law_1070 rfl (lv_at hl 4 rfl) ?_
              refine lv_iload S.1 S.2.1 dL_law_1071 (lv_at hl 21 rfl) ?_
              refine cz_i hJ (rzV (As := [.int (nI k)]) (rest := []) S hJ (c_heatOf l _ (hourX α) hk2 hn hX2) (cw_L_X3_heatOf S.2.2.2.2 ⟨by omega, by omega⟩) (rcX hJ.iv) rfl hl.1 (Nat.le_of_ble_eq_true rfl) dL_law_1073 ⟨by omega, by omega⟩) (fun r6 σ6 H locs hq6 hJ => ?_)
              obtain ⟨hr6, hs6⟩ := hq6
              rw [hs6] at hJ
              rw [hr6, show (gP (hourX α) k).2.2.2.2.2 = (draw to9 w9) from by rw [hP2]]
              refine lv_bipush (v := (-4)) S.1 S.2.1 dL_law_1076 (by decide) ?_
              refine lv_icmp_gt (tgt := 1104) S.1 S.2.1 dL_law_1078 (by decide) (fun c9 => absurd c9 (Int32.not_lt.mpr (cold4 c1))) (fun cz_1078 => ?_)
              refine lv_aload_n S.1 S.2.1 dL_law_1081 rfl (lv_at hl 4 rfl) ?_
              refine lv_iload S.1 S.2.1 dL_law_1082 (lv_at hl 21 rfl) ?_
              refine cz_i hJ (rzV (As := [.int (nI k)]) (rest := []) S hJ (c_isExpired l _ (hourX α) hok2 hk2 hn hX2) (cw_L_X3_isExpired S.2.2.2.2 ⟨by omega, by omega⟩) (rcX hJ.iv) rfl hl.1 (Nat.le_of_ble_eq_true rfl) dL_law_1084 ⟨by omega, by omega⟩) (fun r7 σ7 H locs hq7 hJ => ?_)
              obtain ⟨hr7, hs7⟩ := hq7
              rw [hs7] at hJ
              rw [hr7, show (if (gP (hourX α) k).1 = 5 then (1 : Int32) else 0) = 0 from by rw [hP2]; rfl]
              refine lv_aload_n S.1 S.2.1 dL_law_1087 rfl (lv_at hl 4 rfl) ?_
              refine lv_iload S.1 S.2.1 dL_law_1088 (lv_at hl 21 rfl) ?_
              refine cz_i hJ (rzV (As := [.int (nI k)]) (rest := [.int 0]) S hJ (c_hoursLeft l _ (hourX α) hk2 hn hX2) (cw_L_X3_hoursLeft S.2.2.2.2 ⟨by omega, by omega⟩) (rcX hJ.iv) rfl hl.1 (Nat.le_of_ble_eq_true rfl) dL_law_1090 ⟨by omega, by omega⟩) (fun r8 σ8 H locs hq8 hJ => ?_)
              obtain ⟨hr8, hs8⟩ := hq8
              rw [hs8] at hJ
              rw [hr8, show (gP (hourX α) k).2.2.2.1 - (gP (hourX α) k).2.2.2.2.1 = nI lf - (nI ag) from by rw [hP2]]
              refine lv_if_ne (tgt := 1100) S.1 S.2.1 dL_law_1093 (by decide) (fun cz_1093 => ?_) (fun c9 => absurd c9 (same_ne hal e5))
              refine lv_iconst (v := 0) S.1 S.2.1 dL_law_1100 (by decide) ?_
              refine lv_icmp_eq (tgt := 1106) S.1 S.2.1 dL_law_1101 (by decide) (fun cz_1101 => ?_) (fun c9 => absurd (by decide) c9)
              refine lv_iinc (v := (nI (k + 1))) (lv' := [(28, .int (nI (k + 1))), (27, .int ((sumN (thF α) k) + 0)), (30, .int ((draw to9 w9) - w9)), (29, .int (to9 - w9)), (0, .ref (gE G 6)), (1, .ref (gB G 0)), (2, .ref q0), (3, .int (nI tt)), (7, .int (nI n)), (13, .int (nI o9)), (14, .int F1), (15, .int F2), (16, .int F3), (18, .int (nI hN)), (19, .int lf9), (20, .int (nI jh)), (21, .ref qa), (22, .ref qb), (23, .ref qc), (24, .ref qd), (25, .ref qe), (26, .int (sumN (xR α) 20))]) S.1 S.2.1 dL_law_1106 hl (k := 21) rfl (nI_1 k) (by decide) rfl (fun ls hl => ?_)
              refine lv_goto (tgt := 861) S.1 S.2.1 dL_law_1109 (by decide) ?_
              exact ih (k + 1) (by omega) _ _ hJ ls (by rw [show sumN (thF α) (k + 1) = ((sumN (thF α) k) + 0) from by rw [sumN_s, hth0]]; exact lv_sub hl [4, 5, 6, 7, 8, 9, 10, 11, 12, 13, 14, 15, 16, 17, 18, 19, 20, 21, 1, 0] rfl)
        · by_cases c1 : draw to9 w9 ≤ -4
          · obtain ⟨hA, -⟩ := (hq_d hs5 c1 : hourP to9 (2, sh, mk9, nI lf, nI ag, w9) = _ ∧ _)
            rw [hA] at hP2
            rw [hP2] at hth
            have hth0 : thF α k = 0 := by rw [hth]; exact if_neg (fun q => absurd q.2 (show ¬ (2 : Nat) = 3 by decide))
            rcases hnear with ⟨n1, n2⟩ | ⟨n1, n2, n3⟩ | ⟨n1, n2, n3⟩
            · refine lv_iload S.1 S.2.1 dL_law_861 (lv_at hl 19 rfl) ?_
              refine lv_iload S.1 S.2.1 dL_law_863 (lv_at hl 4 rfl) ?_
              refine lv_icmp_ge (tgt := 1112) S.1 S.2.1 dL_law_865 (by decide) (fun c9 => absurd c9 (nI_ge hk2 (by omega))) (fun cz_865 => ?_)
              refine lv_aload S.1 S.2.1 dL_law_868 (lv_at hl 15 rfl) ?_
              refine lv_iload S.1 S.2.1 dL_law_870 (lv_at hl 19 rfl) ?_
              refine i_y S hJ 3 rfl (j := k) hk2 (by omega) dL_law_872 ?_
              rw [show (f4 k) = (nI sh) from v4]
              refine lv_if_ge (tgt := 915) S.1 S.2.1 dL_law_873 (by decide) (fun cz_873 => ?_) (fun c9 => absurd (Int32.not_lt.mp (nI_pos (by omega))) c9)
              refine lv_aload_n S.1 S.2.1 dL_law_915 rfl (lv_at hl 1 rfl) ?_
              refine lv_aload S.1 S.2.1 dL_law_916 (lv_at hl 15 rfl) ?_
              refine lv_iload S.1 S.2.1 dL_law_918 (lv_at hl 19 rfl) ?_
              refine i_y S hJ 3 rfl (j := k) hk2 (by omega) dL_law_920 ?_
              rw [show (f4 k) = (nI sh) from v4]
              refine cz_i hJ (rzV (As := [.int (nI sh)]) (rest := []) S hJ (c_heatOn l _ (hourX α) hs5) (cw_L_X3_heatOn S.2.2.2.2 ⟨by omega, by omega⟩) (rcX hJ.iv) rfl hl.1 (Nat.le_of_ble_eq_true rfl) dL_law_921 ⟨by omega, by omega⟩) (fun r1 σ1 H locs hq1 hJ => ?_)
              obtain ⟨hr1, hs1⟩ := hq1
              rw [hs1] at hJ
              rw [hr1, hSt]
              refine lv_aload S.1 S.2.1 dL_law_924 (lv_at hl 13 rfl) ?_
              refine lv_iload S.1 S.2.1 dL_law_926 (lv_at hl 19 rfl) ?_
              refine i_y S hJ 1 rfl (j := k) hk2 (by omega) dL_law_928 ?_
              rw [show (f2 k) = w9 from v2]
              refine lv_isub S.1 S.2.1 dL_law_929 ?_
              refine lv_istore (lv' := [(29, .int (to9 - w9)), (0, .ref (gE G 6)), (1, .ref (gB G 0)), (2, .ref q0), (3, .int (nI tt)), (7, .int (nI n)), (13, .int (nI o9)), (14, .int F1), (15, .int F2), (16, .int F3), (18, .int (nI hN)), (19, .int lf9), (20, .int (nI jh)), (21, .ref qa), (22, .ref qb), (23, .ref qc), (24, .ref qd), (25, .ref qe), (26, .int (sumN (xR α) 20)), (27, .int (sumN (thF α) k)), (28, .int (nI k))]) S.1 S.2.1 dL_law_930 hl (by decide) rfl (fun ls hl => ?_)
              refine lv_aload_n S.1 S.2.1 dL_law_932 rfl (lv_at hl 2 rfl) ?_
              refine lv_iload S.1 S.2.1 dL_law_933 (lv_at hl 20 rfl) ?_
              refine cz_i hJ (rzV (As := [.int (nI k)]) (rest := []) S hJ (c_heatOf l _ (hourX α) hk2 hn hX2) (cw_L_X3_heatOf S.2.2.2.2 ⟨by omega, by omega⟩) (rcX hJ.iv) rfl hl.1 (Nat.le_of_ble_eq_true rfl) dL_law_935 ⟨by omega, by omega⟩) (fun r2 σ2 H locs hq2 hJ => ?_)
              obtain ⟨hr2, hs2⟩ := hq2
              rw [hs2] at hJ
              rw [hr2, show (gP (hourX α) k).2.2.2.2.2 = (draw to9 w9) from by rw [hP2]]
              refine lv_aload S.1 S.2.1 dL_law_938 (lv_at hl 14 rfl) ?_
              refine lv_iload S.1 S.2.1 dL_law_940 (lv_at hl 20 rfl) ?_
              refine i_y S hJ 1 rfl (j := k) hk2 (by omega) dL_law_942 ?_
              rw [show (f2 k) = w9 from v2]
              refine lv_isub S.1 S.2.1 dL_law_943 ?_
              refine lv_istore (lv' := [(30, .int ((draw to9 w9) - w9)), (29, .int (to9 - w9)), (0, .ref (gE G 6)), (1, .ref (gB G 0)), (2, .ref q0), (3, .int (nI tt)), (7, .int (nI n)), (13, .int (nI o9)), (14, .int F1), (15, .int F2), (16, .int F3), (18, .int (nI hN)), (19, .int lf9), (20, .int (nI jh)), (21, .ref qa), (22, .ref qb), (23, .ref qc), (24, .ref qd), (25, .ref qe), (26, .int (sumN (xR α) 20)), (27, .int (sumN (thF α) k)), (28, .int (nI k))]) S.1 S.2.1 dL_law_944 hl (by decide) rfl (fun ls hl => ?_)
              refine lv_iload S.1 S.2.1 dL_law_946 (lv_at hl 20 rfl) ?_
              refine lv_aload S.1 S.2.1 dL_law_948 (lv_at hl 18 rfl) ?_
              refine lv_iload S.1 S.2.1 dL_law_950 (lv_at hl 21 rfl) ?_
              refine i_yz S hJ 4 rfl (j := k) hk2 (by omega) dL_law_952 ?_
              rw [show (f5 k) = 1 from v5]
              refine lv_if_eq (tgt := 969) S.1 S.2.1 dL_law_953 (by decide) (fun c9 => absurd c9 (by decide)) (fun cz_953 => ?_)
              refine lv_aload_n S.1 S.2.1 dL_law_956 rfl (lv_at hl 3 rfl) ?_
              refine lv_iload S.1 S.2.1 dL_law_957 (lv_at hl 21 rfl) ?_
              refine cz_i hJ (rzV (As := [.int (nI k)]) (rest := [.int (sumN (thF α) k)]) S hJ (c_isThawed l _ (hourX α) hok2 hk2 hn hX2) (cw_L_X3_isThawed S.2.2.2.2 ⟨by omega, by omega⟩) (rcX hJ.iv) rfl hl.1 (Nat.le_of_ble_eq_true rfl) dL_law_959 ⟨by omega, by omega⟩) (fun r3 σ3 H locs hq3 hJ => ?_)
              obtain ⟨hr3, hs3⟩ := hq3
              rw [hs3] at hJ
              rw [hr3, show (if (gP (hourX α) k).1 = 3 then (1 : Int32) else 0) = 0 from by rw [hP2]; rfl]
              refine lv_if_eq (tgt := 969) S.1 S.2.1 dL_law_962 (by decide) (fun cz_962 => ?_) (fun c9 => absurd (by decide) c9)
              refine lv_iconst (v := 0) S.1 S.2.1 dL_law_969 (by decide) ?_
              refine lv_iadd S.1 S.2.1 dL_law_970 ?_
              refine lv_istore (lv' := [(27, .int ((sumN (thF α) k) + 0)), (30, .int ((draw to9 w9) - w9)), (29, .int (to9 - w9)), (0, .ref (gE G 6)), (1, .ref (gB G 0)), (2, .ref q0), (3, .int (nI tt)), (7, .int (nI n)), (13, .int (nI o9)), (14, .int F1), (15, .int F2), (16, .int F3), (18, .int (nI hN)), (19, .int lf9), (20, .int (nI jh)), (21, .ref qa), (22, .ref qb), (23, .ref qc), (24, .ref qd), (25, .ref qe), (26, .int (sumN (xR α) 20)), (28, .int (nI k))]) S.1 S.2.1 dL_law_971 hl (by decide) rfl (fun ls hl => ?_)
              refine lv_iload S.1 S.2.1 dL_law_973 (lv_at hl 2 rfl) ?_
              refine lv_if_ne (tgt := 982) S.1 S.2.1 dL_law_975 (by decide) (fun c9 => absurd n1 c9) (fun cz_975 => ?_)
              refine lv_iconst (v := 1) S.1 S.2.1 dL_law_978 (by decide) ?_
              refine lv_goto (tgt := 983) S.1 S.2.1 dL_law_979 (by decide) ?_
              refine lv_iload S.1 S.2.1 dL_law_983 (lv_at hl 1 rfl) ?_
              refine lv_if_ne (tgt := 992) S.1 S.2.1 dL_law_985 (by decide) (fun c9 => absurd n2 c9) (fun cz_985 => ?_)
              refine lv_iconst (v := 1) S.1 S.2.1 dL_law_988 (by decide) ?_
              refine lv_goto (tgt := 993) S.1 S.2.1 dL_law_989 (by decide) ?_
              refine lv_icmp_ne (tgt := 1104) S.1 S.2.1 dL_law_993 (by decide) (fun c9 => absurd (by decide) c9) (fun cz_993 => ?_)
              refine lv_iload S.1 S.2.1 dL_law_996 (lv_at hl 2 rfl) ?_
              refine lv_if_le (tgt := 1014) S.1 S.2.1 dL_law_998 (by decide) (fun cz_998 => ?_) (fun c9 => absurd (by rw [n1]; exact Int32.le_refl 0) c9)
              refine lv_iload S.1 S.2.1 dL_law_1014 (lv_at hl 2 rfl) ?_
              refine lv_if_ge (tgt := 1032) S.1 S.2.1 dL_law_1016 (by decide) (fun cz_1016 => ?_) (fun c9 => absurd (by rw [n1]; exact Int32.le_refl 0) c9)
              refine lv_aload_n S.1 S.2.1 dL_law_1032 rfl (lv_at hl 4 rfl) ?_
              refine lv_iload S.1 S.2.1 dL_law_1033 (lv_at hl 21 rfl) ?_
              refine cz_i hJ (rzV (As := [.int (nI k)]) (rest := []) S hJ (c_ageOf l _ (hourX α) hk2 hn hX2) (cw_L_X3_ageOf S.2.2.2.2 ⟨by omega, by omega⟩) (rcX hJ.iv) rfl hl.1 (Nat.le_of_ble_eq_true rfl) dL_law_1035 ⟨by omega, by omega⟩) (fun r4 σ4 H locs hq4 hJ => ?_)
              obtain ⟨hr4, hs4⟩ := hq4
              rw [hs4] at hJ
              rw [hr4, show (gP (hourX α) k).2.2.2.2.1 = (nI ag) from by rw [hP2]]
              refine lv_aload S.1 S.2.1 dL_law_1038 (lv_at hl 17 rfl) ?_
              refine lv_iload S.1 S.2.1 dL_law_1040 (lv_at hl 21 rfl) ?_
              refine i_y S hJ 2 rfl (j := k) hk2 (by omega) dL_law_1042 ?_
              rw [show (f3 k) = (nI ag) from v3]
              refine lv_aload_n S.1 S.2.1 dL_law_1043 rfl (lv_at hl 4 rfl) ?_
              refine lv_iload S.1 S.2.1 dL_law_1044 (lv_at hl 21 rfl) ?_
              refine cz_i hJ (rzV (As := [.int (nI k)]) (rest := [.int (nI ag), .int (nI ag)]) S hJ (c_isFrozen l _ (hourX α) hok2 hk2 hn hX2) (cw_L_X3_isFrozen S.2.2.2.2 ⟨by omega, by omega⟩) (rcX hJ.iv) rfl hl.1 (Nat.le_of_ble_eq_true rfl) dL_law_1046 ⟨by omega, by omega⟩) (fun r5 σ5 H locs hq5 hJ => ?_)
              obtain ⟨hr5, hs5⟩ := hq5
              rw [hs5] at hJ
              rw [hr5, show (if (gP (hourX α) k).1 = 2 then (1 : Int32) else 0) = 1 from by rw [hP2]; rfl]
              refine lv_if_eq (tgt := 1056) S.1 S.2.1 dL_law_1049 (by decide) (fun c9 => absurd c9 (by decide)) (fun cz_1049 => ?_)
              refine lv_iconst (v := 0) S.1 S.2.1 dL_law_1052 (by decide) ?_
              refine lv_goto (tgt := 1057) S.1 S.2.1 dL_law_1053 (by decide) ?_
              refine lv_iadd S.1 S.2.1 dL_law_1057 ?_
              refine lv_icmp_ne (tgt := 1104) S.1 S.2.1 dL_law_1058 (by decide) (fun c9 => absurd ((Int32.add_zero _).symm) c9) (fun cz_1058 => ?_)
              refine lv_aload_n S.1 S.2.1 dL_law_1061 rfl (lv_at hl 4 rfl) ?_
              refine lv_iload S.1 S.2.1 dL_law_1062 (lv_at hl 21 rfl) ?_
              refine cz_i hJ (rzV (As := [.int (nI k)]) (rest := []) S hJ (c_isFrozen l _ (hourX α) hok2 hk2 hn hX2) (cw_L_X3_isFrozen S.2.2.2.2 ⟨by omega, by omega⟩) (rcX hJ.iv) rfl hl.1 (Nat.le_of_ble_eq_true rfl) dL_law_1064 ⟨by omega, by omega⟩) (fun r6 σ6 H locs hq6 hJ => ?_)
              obtain ⟨hr6, hs6⟩ := hq6
              rw [hs6] at hJ
              rw [hr6, show (if (gP (hourX α) k).1 = 2 then (1 : Int32) else 0) = 1 from by rw [hP2]; rfl]
              refine lv_if_eq (tgt := 1081) S.1 S.2.1 dL_law_1067 (by decide) (fun c9 => absurd c9 (by decide)) (fun cz_1067 => ?_)
              refine lv_aload_n S.1 S.2.1 dL_law_1070 rfl (lv_at hl 4 rfl) ?_
              refine lv_iload S.1 S.2.1 dL_law_1071 (lv_at hl 21 rfl) ?_
              refine cz_i hJ (rzV (As := [.int (nI k)]) (rest := []) S hJ (c_heatOf l _ (hourX α) hk2 hn hX2) (cw_L_X3_heatOf S.2.2.2.2 ⟨by omega, by omega⟩) (rcX hJ.iv) rfl hl.1 (Nat.le_of_ble_eq_true rfl) dL_law_1073 ⟨by omega, by omega⟩) (fun r7 σ7 H locs hq7 hJ => ?_)
              obtain ⟨hr7, hs7⟩ := hq7
              rw [hs7] at hJ
              rw [hr7, show (gP (hourX α) k).2.2.2.2.2 = (draw to9 w9) from by rw [hP2]]
              refine lv_bipush (v := (-4)) S.1 S.2.1 dL_law_1076 (by decide) ?_
              refine lv_icmp_gt (tgt := 1104) S.1 S.2.1 dL_law_1078 (by decide) (fun c9 => absurd c9 (Int32.not_lt.mpr c1)) (fun cz_1078 => ?_)
              refine lv_aload_n S.1 S.2.1 dL_law_1081 rfl (lv_at hl 4 rfl) ?_
              refine lv_iload S.1 S.2.1 dL_law_1082 (lv_at hl 21 rfl) ?_
              refine cz_i hJ (rzV (As := [.int (nI k)]) (rest := []) S hJ (c_isExpired l _ (hourX α) hok2 hk2 hn hX2) (cw_L_X3_isExpired S.2.2.2.2 ⟨by omega, by omega⟩) (rcX hJ.iv) rfl hl.1 (Nat.le_of_ble_eq_true rfl) dL_law_1084 ⟨by omega, by omega⟩) (fun r8 σ8 H locs hq8 hJ => ?_)
              obtain ⟨hr8, hs8⟩ := hq8
              rw [hs8] at hJ
              rw [hr8, show (if (gP (hourX α) k).1 = 5 then (1 : Int32) else 0) = 0 from by rw [hP2]; rfl]
              refine lv_aload_n S.1 S.2.1 dL_law_1087 rfl (lv_at hl 4 rfl) ?_
              refine lv_iload S.1 S.2.1 dL_law_1088 (lv_at hl 21 rfl) ?_
              refine cz_i hJ (rzV (As := [.int (nI k)]) (rest := [.int 0]) S hJ (c_hoursLeft l _ (hourX α) hk2 hn hX2) (cw_L_X3_hoursLeft S.2.2.2.2 ⟨by omega, by omega⟩) (rcX hJ.iv) rfl hl.1 (Nat.le_of_ble_eq_true rfl) dL_law_1090 ⟨by omega, by omega⟩) (fun r9 σ9 H locs hq9 hJ => ?_)
              obtain ⟨hr9, hs9⟩ := hq9
              rw [hs9] at hJ
              rw [hr9, show (gP (hourX α) k).2.2.2.1 - (gP (hourX α) k).2.2.2.2.1 = nI lf - (nI ag) from by rw [hP2]]
              refine lv_if_ne (tgt := 1100) S.1 S.2.1 dL_law_1093 (by decide) (fun cz_1093 => ?_) (fun c9 => absurd c9 (same_ne hal e5))
              refine lv_iconst (v := 0) S.1 S.2.1 dL_law_1100 (by decide) ?_
              refine lv_icmp_eq (tgt := 1106) S.1 S.2.1 dL_law_1101 (by decide) (fun cz_1101 => ?_) (fun c9 => absurd (by decide) c9)
              refine lv_iinc (v := (nI (k + 1))) (lv' := [(28, .int (nI (k + 1))), (27, .int ((sumN (thF α) k) + 0)), (30, .int ((draw to9 w9) - w9)), (29, .int (to9 - w9)), (0, .ref (gE G 6)), (1, .ref (gB G 0)), (2, .ref q0), (3, .int (nI tt)), (7, .int (nI n)), (13, .int (nI o9)), (14, .int F1), (15, .int F2), (16, .int F3), (18, .int (nI hN)), (19, .int lf9), (20, .int (nI jh)), (21, .ref qa), (22, .ref qb), (23, .ref qc), (24, .ref qd), (25, .ref qe), (26, .int (sumN (xR α) 20))]) S.1 S.2.1 dL_law_1106 hl (k := 21) rfl (nI_1 k) (by decide) rfl (fun ls hl => ?_)
              refine lv_goto (tgt := 861) S.1 S.2.1 dL_law_1109 (by decide) ?_
              exact ih (k + 1) (by omega) _ _ hJ ls (by rw [show sumN (thF α) (k + 1) = ((sumN (thF α) k) + 0) from by rw [sumN_s, hth0]]; exact lv_sub hl [4, 5, 6, 7, 8, 9, 10, 11, 12, 13, 14, 15, 16, 17, 18, 19, 20, 21, 1, 0] rfl)
            · refine lv_iload S.1 S.2.1 dL_law_861 (lv_at hl 19 rfl) ?_
              refine lv_iload S.1 S.2.1 dL_law_863 (lv_at hl 4 rfl) ?_
              refine lv_icmp_ge (tgt := 1112) S.1 S.2.1 dL_law_865 (by decide) (fun c9 => absurd c9 (nI_ge hk2 (by omega))) (fun cz_865 => ?_)
              refine lv_aload S.1 S.2.1 dL_law_868 (lv_at hl 15 rfl) ?_
              refine lv_iload S.1 S.2.1 dL_law_870 (lv_at hl 19 rfl) ?_
              refine i_y S hJ 3 rfl (j := k) hk2 (by omega) dL_law_872 ?_
              rw [show (f4 k) = (nI sh) from v4]
              refine lv_if_ge (tgt := 915) S.1 S.2.1 dL_law_873 (by decide) (fun cz_873 => ?_) (fun c9 => absurd (Int32.not_lt.mp (nI_pos (by omega))) c9)
              refine lv_aload_n S.1 S.2.1 dL_law_915 rfl (lv_at hl 1 rfl) ?_
              refine lv_aload S.1 S.2.1 dL_law_916 (lv_at hl 15 rfl) ?_
              refine lv_iload S.1 S.2.1 dL_law_918 (lv_at hl 19 rfl) ?_
              refine i_y S hJ 3 rfl (j := k) hk2 (by omega) dL_law_920 ?_
              rw [show (f4 k) = (nI sh) from v4]
              refine cz_i hJ (rzV (As := [.int (nI sh)]) (rest := []) S hJ (c_heatOn l _ (hourX α) hs5) (cw_L_X3_heatOn S.2.2.2.2 ⟨by omega, by omega⟩) (rcX hJ.iv) rfl hl.1 (Nat.le_of_ble_eq_true rfl) dL_law_921 ⟨by omega, by omega⟩) (fun r1 σ1 H locs hq1 hJ => ?_)
              obtain ⟨hr1, hs1⟩ := hq1
              rw [hs1] at hJ
              rw [hr1, hSt]
              refine lv_aload S.1 S.2.1 dL_law_924 (lv_at hl 13 rfl) ?_
              refine lv_iload S.1 S.2.1 dL_law_926 (lv_at hl 19 rfl) ?_
              refine i_y S hJ 1 rfl (j := k) hk2 (by omega) dL_law_928 ?_
              rw [show (f2 k) = w9 from v2]
              refine lv_isub S.1 S.2.1 dL_law_929 ?_
              refine lv_istore (lv' := [(29, .int (to9 - w9)), (0, .ref (gE G 6)), (1, .ref (gB G 0)), (2, .ref q0), (3, .int (nI tt)), (7, .int (nI n)), (13, .int (nI o9)), (14, .int F1), (15, .int F2), (16, .int F3), (18, .int (nI hN)), (19, .int lf9), (20, .int (nI jh)), (21, .ref qa), (22, .ref qb), (23, .ref qc), (24, .ref qd), (25, .ref qe), (26, .int (sumN (xR α) 20)), (27, .int (sumN (thF α) k)), (28, .int (nI k))]) S.1 S.2.1 dL_law_930 hl (by decide) rfl (fun ls hl => ?_)
              refine lv_aload_n S.1 S.2.1 dL_law_932 rfl (lv_at hl 2 rfl) ?_
              refine lv_iload S.1 S.2.1 dL_law_933 (lv_at hl 20 rfl) ?_
              refine cz_i hJ (rzV (As := [.int (nI k)]) (rest := []) S hJ (c_heatOf l _ (hourX α) hk2 hn hX2) (cw_L_X3_heatOf S.2.2.2.2 ⟨by omega, by omega⟩) (rcX hJ.iv) rfl hl.1 (Nat.le_of_ble_eq_true rfl) dL_law_935 ⟨by omega, by omega⟩) (fun r2 σ2 H locs hq2 hJ => ?_)
              obtain ⟨hr2, hs2⟩ := hq2
              rw [hs2] at hJ
              rw [hr2, show (gP (hourX α) k).2.2.2.2.2 = (draw to9 w9) from by rw [hP2]]
              refine lv_aload S.1 S.2.1 dL_law_938 (lv_at hl 14 rfl) ?_
              refine lv_iload S.1 S.2.1 dL_law_940 (lv_at hl 20 rfl) ?_
              refine i_y S hJ 1 rfl (j := k) hk2 (by omega) dL_law_942 ?_
              rw [show (f2 k) = w9 from v2]
              refine lv_isub S.1 S.2.1 dL_law_943 ?_
              refine lv_istore (lv' := [(30, .int ((draw to9 w9) - w9)), (29, .int (to9 - w9)), (0, .ref (gE G 6)), (1, .ref (gB G 0)), (2, .ref q0), (3, .int (nI tt)), (7, .int (nI n)), (13, .int (nI o9)), (14, .int F1), (15, .int F2), (16, .int F3), (18, .int (nI hN)), (19, .int lf9), (20, .int (nI jh)), (21, .ref qa), (22, .ref qb), (23, .ref qc), (24, .ref qd), (25, .ref qe), (26, .int (sumN (xR α) 20)), (27, .int (sumN (thF α) k)), (28, .int (nI k))]) S.1 S.2.1 dL_law_944 hl (by decide) rfl (fun ls hl => ?_)
              refine lv_iload S.1 S.2.1 dL_law_946 (lv_at hl 20 rfl) ?_
              refine lv_aload S.1 S.2.1 dL_law_948 (lv_at hl 18 rfl) ?_
              refine lv_iload S.1 S.2.1 dL_law_950 (lv_at hl 21 rfl) ?_
              refine i_yz S hJ 4 rfl (j := k) hk2 (by omega) dL_law_952 ?_
              rw [show (f5 k) = 1 from v5]
              refine lv_if_eq (tgt := 969) S.1 S.2.1 dL_law_953 (by decide) (fun c9 => absurd c9 (by decide)) (fun cz_953 => ?_)
              refine lv_aload_n S.1 S.2.1 dL_law_956 rfl (lv_at hl 3 rfl) ?_
              refine lv_iload S.1 S.2.1 dL_law_957 (lv_at hl 21 rfl) ?_
              refine cz_i hJ (rzV (As := [.int (nI k)]) (rest := [.int (sumN (thF α) k)]) S hJ (c_isThawed l _ (hourX α) hok2 hk2 hn hX2) (cw_L_X3_isThawed S.2.2.2.2 ⟨by omega, by omega⟩) (rcX hJ.iv) rfl hl.1 (Nat.le_of_ble_eq_true rfl) dL_law_959 ⟨by omega, by omega⟩) (fun r3 σ3 H locs hq3 hJ => ?_)
              obtain ⟨hr3, hs3⟩ := hq3
              rw [hs3] at hJ
              rw [hr3, show (if (gP (hourX α) k).1 = 3 then (1 : Int32) else 0) = 0 from by rw [hP2]; rfl]
              refine lv_if_eq (tgt := 969) S.1 S.2.1 dL_law_962 (by decide) (fun cz_962 => ?_) (fun c9 => absurd (by decide) c9)
              refine lv_iconst (v := 0) S.1 S.2.1 dL_law_969 (by decide) ?_
              refine lv_iadd S.1 S.2.1 dL_law_970 ?_
              refine lv_istore (lv' := [(27, .int ((sumN (thF α) k) + 0)), (30, .int ((draw to9 w9) - w9)), (29, .int (to9 - w9)), (0, .ref (gE G 6)), (1, .ref (gB G 0)), (2, .ref q0), (3, .int (nI tt)), (7, .int (nI n)), (13, .int (nI o9)), (14, .int F1), (15, .int F2), (16, .int F3), (18, .int (nI hN)), (19, .int lf9), (20, .int (nI jh)), (21, .ref qa), (22, .ref qb), (23, .ref qc), (24, .ref qd), (25, .ref qe), (26, .int (sumN (xR α) 20)), (28, .int (nI k))]) S.1 S.2.1 dL_law_971 hl (by decide) rfl (fun ls hl => ?_)
              refine lv_iload S.1 S.2.1 dL_law_973 (lv_at hl 2 rfl) ?_
              refine lv_if_ne (tgt := 982) S.1 S.2.1 dL_law_975 (by decide) (fun cz_975 => ?_) (fun c9 => absurd c9 (pos_ne n1))
              refine lv_iconst (v := 0) S.1 S.2.1 dL_law_982 (by decide) ?_
              refine lv_iload S.1 S.2.1 dL_law_983 (lv_at hl 1 rfl) ?_
              refine lv_if_ne (tgt := 992) S.1 S.2.1 dL_law_985 (by decide) (fun cz_985 => ?_) (fun c9 => absurd c9 (one_ne n2))
              refine lv_iconst (v := 0) S.1 S.2.1 dL_law_992 (by decide) ?_
              refine lv_icmp_ne (tgt := 1104) S.1 S.2.1 dL_law_993 (by decide) (fun c9 => absurd (by decide) c9) (fun cz_993 => ?_)
              refine lv_iload S.1 S.2.1 dL_law_996 (lv_at hl 2 rfl) ?_
              refine lv_if_le (tgt := 1014) S.1 S.2.1 dL_law_998 (by decide) (fun c9 => absurd c9 (Int32.not_le.mpr n1)) (fun cz_998 => ?_)
              refine lv_iload S.1 S.2.1 dL_law_1001 (lv_at hl 1 rfl) ?_
              refine lv_iconst (v := 1) S.1 S.2.1 dL_law_1003 (by decide) ?_
              refine lv_icmp_lt (tgt := 1104) S.1 S.2.1 dL_law_1004 (by decide) (fun c9 => absurd c9 (Int32.not_lt.mpr n2)) (fun cz_1004 => ?_)
              refine lv_iload S.1 S.2.1 dL_law_1007 (lv_at hl 1 rfl) ?_
              refine lv_iload S.1 S.2.1 dL_law_1009 (lv_at hl 2 rfl) ?_
              refine lv_icmp_gt (tgt := 1104) S.1 S.2.1 dL_law_1011 (by decide) (fun c9 => absurd c9 (Int32.not_lt.mpr n3)) (fun cz_1011 => ?_)
              refine lv_iload S.1 S.2.1 dL_law_1014 (lv_at hl 2 rfl) ?_
              refine lv_if_ge (tgt := 1032) S.1 S.2.1 dL_law_1016 (by decide) (fun cz_1016 => ?_) (fun c9 => absurd (Int32.le_of_lt n1) c9)
              refine lv_aload_n S.1 S.2.1 dL_law_1032 rfl (lv_at hl 4 rfl) ?_
              refine lv_iload S.1 S.2.1 dL_law_1033 (lv_at hl 21 rfl) ?_
              refine cz_i hJ (rzV (As := [.int (nI k)]) (rest := []) S hJ (c_ageOf l _ (hourX α) hk2 hn hX2) (cw_L_X3_ageOf S.2.2.2.2 ⟨by omega, by omega⟩) (rcX hJ.iv) rfl hl.1 (Nat.le_of_ble_eq_true rfl) dL_law_1035 ⟨by omega, by omega⟩) (fun r4 σ4 H locs hq4 hJ => ?_)
              obtain ⟨hr4, hs4⟩ := hq4
              rw [hs4] at hJ
              rw [hr4, show (gP (hourX α) k).2.2.2.2.1 = (nI ag) from by rw [hP2]]
              refine lv_aload S.1 S.2.1 dL_law_1038 (lv_at hl 17 rfl) ?_
              refine lv_iload S.1 S.2.1 dL_law_1040 (lv_at hl 21 rfl) ?_
              refine i_y S hJ 2 rfl (j := k) hk2 (by omega) dL_law_1042 ?_
              rw [show (f3 k) = (nI ag) from v3]
              refine lv_aload_n S.1 S.2.1 dL_law_1043 rfl (lv_at hl 4 rfl) ?_
              refine lv_iload S.1 S.2.1 dL_law_1044 (lv_at hl 21 rfl) ?_
              refine cz_i hJ (rzV (As := [.int (nI k)]) (rest := [.int (nI ag), .int (nI ag)]) S hJ (c_isFrozen l _ (hourX α) hok2 hk2 hn hX2) (cw_L_X3_isFrozen S.2.2.2.2 ⟨by omega, by omega⟩) (rcX hJ.iv) rfl hl.1 (Nat.le_of_ble_eq_true rfl) dL_law_1046 ⟨by omega, by omega⟩) (fun r5 σ5 H locs hq5 hJ => ?_)
              obtain ⟨hr5, hs5⟩ := hq5
              rw [hs5] at hJ
              rw [hr5, show (if (gP (hourX α) k).1 = 2 then (1 : Int32) else 0) = 1 from by rw [hP2]; rfl]
              refine lv_if_eq (tgt := 1056) S.1 S.2.1 dL_law_1049 (by decide) (fun c9 => absurd c9 (by decide)) (fun cz_1049 => ?_)
              refine lv_iconst (v := 0) S.1 S.2.1 dL_law_1052 (by decide) ?_
              refine lv_goto (tgt := 1057) S.1 S.2.1 dL_law_1053 (by decide) ?_
              refine lv_iadd S.1 S.2.1 dL_law_1057 ?_
              refine lv_icmp_ne (tgt := 1104) S.1 S.2.1 dL_law_1058 (by decide) (fun c9 => absurd ((Int32.add_zero _).symm) c9) (fun cz_1058 => ?_)
              refine lv_aload_n S.1 S.2.1 dL_law_1061 rfl (lv_at hl 4 rfl) ?_
              refine lv_iload S.1 S.2.1 dL_law_1062 (lv_at hl 21 rfl) ?_
              refine cz_i hJ (rzV (As := [.int (nI k)]) (rest := []) S hJ (c_isFrozen l _ (hourX α) hok2 hk2 hn hX2) (cw_L_X3_isFrozen S.2.2.2.2 ⟨by omega, by omega⟩) (rcX hJ.iv) rfl hl.1 (Nat.le_of_ble_eq_true rfl) dL_law_1064 ⟨by omega, by omega⟩) (fun r6 σ6 H locs hq6 hJ => ?_)
              obtain ⟨hr6, hs6⟩ := hq6
              rw [hs6] at hJ
              rw [hr6, show (if (gP (hourX α) k).1 = 2 then (1 : Int32) else 0) = 1 from by rw [hP2]; rfl]
              refine lv_if_eq (tgt := 1081) S.1 S.2.1 dL_law_1067 (by decide) (fun c9 => absurd c9 (by decide)) (fun cz_1067 => ?_)
              refine lv_aload_n S.1 S.2.1 dL_law_1070 rfl (lv_at hl 4 rfl) ?_
              refine lv_iload S.1 S.2.1 dL_law_1071 (lv_at hl 21 rfl) ?_
              refine cz_i hJ (rzV (As := [.int (nI k)]) (rest := []) S hJ (c_heatOf l _ (hourX α) hk2 hn hX2) (cw_L_X3_heatOf S.2.2.2.2 ⟨by omega, by omega⟩) (rcX hJ.iv) rfl hl.1 (Nat.le_of_ble_eq_true rfl) dL_law_1073 ⟨by omega, by omega⟩) (fun r7 σ7 H locs hq7 hJ => ?_)
              obtain ⟨hr7, hs7⟩ := hq7
              rw [hs7] at hJ
              rw [hr7, show (gP (hourX α) k).2.2.2.2.2 = (draw to9 w9) from by rw [hP2]]
              refine lv_bipush (v := (-4)) S.1 S.2.1 dL_law_1076 (by decide) ?_
              refine lv_icmp_gt (tgt := 1104) S.1 S.2.1 dL_law_1078 (by decide) (fun c9 => absurd c9 (Int32.not_lt.mpr c1)) (fun cz_1078 => ?_)
              refine lv_aload_n S.1 S.2.1 dL_law_1081 rfl (lv_at hl 4 rfl) ?_
              refine lv_iload S.1 S.2.1 dL_law_1082 (lv_at hl 21 rfl) ?_
              refine cz_i hJ (rzV (As := [.int (nI k)]) (rest := []) S hJ (c_isExpired l _ (hourX α) hok2 hk2 hn hX2) (cw_L_X3_isExpired S.2.2.2.2 ⟨by omega, by omega⟩) (rcX hJ.iv) rfl hl.1 (Nat.le_of_ble_eq_true rfl) dL_law_1084 ⟨by omega, by omega⟩) (fun r8 σ8 H locs hq8 hJ => ?_)
              obtain ⟨hr8, hs8⟩ := hq8
              rw [hs8] at hJ
              rw [hr8, show (if (gP (hourX α) k).1 = 5 then (1 : Int32) else 0) = 0 from by rw [hP2]; rfl]
              refine lv_aload_n S.1 S.2.1 dL_law_1087 rfl (lv_at hl 4 rfl) ?_
              refine lv_iload S.1 S.2.1 dL_law_1088 (lv_at hl 21 rfl) ?_
              refine cz_i hJ (rzV (As := [.int (nI k)]) (rest := [.int 0]) S hJ (c_hoursLeft l _ (hourX α) hk2 hn hX2) (cw_L_X3_hoursLeft S.2.2.2.2 ⟨by omega, by omega⟩) (rcX hJ.iv) rfl hl.1 (Nat.le_of_ble_eq_true rfl) dL_law_1090 ⟨by omega, by omega⟩) (fun r9 σ9 H locs hq9 hJ => ?_)
              obtain ⟨hr9, hs9⟩ := hq9
              rw [hs9] at hJ
              rw [hr9, show (gP (hourX α) k).2.2.2.1 - (gP (hourX α) k).2.2.2.2.1 = nI lf - (nI ag) from by rw [hP2]]
              refine lv_if_ne (tgt := 1100) S.1 S.2.1 dL_law_1093 (by decide) (fun cz_1093 => ?_) (fun c9 => absurd c9 (same_ne hal e5))
              refine lv_iconst (v := 0) S.1 S.2.1 dL_law_1100 (by decide) ?_
              refine lv_icmp_eq (tgt := 1106) S.1 S.2.1 dL_law_1101 (by decide) (fun cz_1101 => ?_) (fun c9 => absurd (by decide) c9)
              refine lv_iinc (v := (nI (k + 1))) (lv' := [(28, .int (nI (k + 1))), (27, .int ((sumN (thF α) k) + 0)), (30, .int ((draw to9 w9) - w9)), (29, .int (to9 - w9)), (0, .ref (gE G 6)), (1, .ref (gB G 0)), (2, .ref q0), (3, .int (nI tt)), (7, .int (nI n)), (13, .int (nI o9)), (14, .int F1), (15, .int F2), (16, .int F3), (18, .int (nI hN)), (19, .int lf9), (20, .int (nI jh)), (21, .ref qa), (22, .ref qb), (23, .ref qc), (24, .ref qd), (25, .ref qe), (26, .int (sumN (xR α) 20))]) S.1 S.2.1 dL_law_1106 hl (k := 21) rfl (nI_1 k) (by decide) rfl (fun ls hl => ?_)
              refine lv_goto (tgt := 861) S.1 S.2.1 dL_law_1109 (by decide) ?_
              exact ih (k + 1) (by omega) _ _ hJ ls (by rw [show sumN (thF α) (k + 1) = ((sumN (thF α) k) + 0) from by rw [sumN_s, hth0]]; exact lv_sub hl [4, 5, 6, 7, 8, 9, 10, 11, 12, 13, 14, 15, 16, 17, 18, 19, 20, 21, 1, 0] rfl)
            · refine lv_iload S.1 S.2.1 dL_law_861 (lv_at hl 19 rfl) ?_
              refine lv_iload S.1 S.2.1 dL_law_863 (lv_at hl 4 rfl) ?_
              refine lv_icmp_ge (tgt := 1112) S.1 S.2.1 dL_law_865 (by decide) (fun c9 => absurd c9 (nI_ge hk2 (by omega))) (fun cz_865 => ?_)
              refine lv_aload S.1 S.2.1 dL_law_868 (lv_at hl 15 rfl) ?_
              refine lv_iload S.1 S.2.1 dL_law_870 (lv_at hl 19 rfl) ?_
              refine i_y S hJ 3 rfl (j := k) hk2 (by omega) dL_law_872 ?_
              rw [show (f4 k) = (nI sh) from v4]
              refine lv_if_ge (tgt := 915) S.1 S.2.1 dL_law_873 (by decide) (fun cz_873 => ?_) (fun c9 => absurd (Int32.not_lt.mp (nI_pos (by omega))) c9)
              refine lv_aload_n S.1 S.2.1 dL_law_915 rfl (lv_at hl 1 rfl) ?_
              refine lv_aload S.1 S.2.1 dL_law_916 (lv_at hl 15 rfl) ?_
              refine lv_iload S.1 S.2.1 dL_law_918 (lv_at hl 19 rfl) ?_
              refine i_y S hJ 3 rfl (j := k) hk2 (by omega) dL_law_920 ?_
              rw [show (f4 k) = (nI sh) from v4]
              refine cz_i hJ (rzV (As := [.int (nI sh)]) (rest := []) S hJ (c_heatOn l _ (hourX α) hs5) (cw_L_X3_heatOn S.2.2.2.2 ⟨by omega, by omega⟩) (rcX hJ.iv) rfl hl.1 (Nat.le_of_ble_eq_true rfl) dL_law_921 ⟨by omega, by omega⟩) (fun r1 σ1 H locs hq1 hJ => ?_)
              obtain ⟨hr1, hs1⟩ := hq1
              rw [hs1] at hJ
              rw [hr1, hSt]
              refine lv_aload S.1 S.2.1 dL_law_924 (lv_at hl 13 rfl) ?_
              refine lv_iload S.1 S.2.1 dL_law_926 (lv_at hl 19 rfl) ?_
              refine i_y S hJ 1 rfl (j := k) hk2 (by omega) dL_law_928 ?_
              rw [show (f2 k) = w9 from v2]
              refine lv_isub S.1 S.2.1 dL_law_929 ?_
              refine lv_istore (lv' := [(29, .int (to9 - w9)), (0, .ref (gE G 6)), (1, .ref (gB G 0)), (2, .ref q0), (3, .int (nI tt)), (7, .int (nI n)), (13, .int (nI o9)), (14, .int F1), (15, .int F2), (16, .int F3), (18, .int (nI hN)), (19, .int lf9), (20, .int (nI jh)), (21, .ref qa), (22, .ref qb), (23, .ref qc), (24, .ref qd), (25, .ref qe), (26, .int (sumN (xR α) 20)), (27, .int (sumN (thF α) k)), (28, .int (nI k))]) S.1 S.2.1 dL_law_930 hl (by decide) rfl (fun ls hl => ?_)
              refine lv_aload_n S.1 S.2.1 dL_law_932 rfl (lv_at hl 2 rfl) ?_
              refine lv_iload S.1 S.2.1 dL_law_933 (lv_at hl 20 rfl) ?_
              refine cz_i hJ (rzV (As := [.int (nI k)]) (rest := []) S hJ (c_heatOf l _ (hourX α) hk2 hn hX2) (cw_L_X3_heatOf S.2.2.2.2 ⟨by omega, by omega⟩) (rcX hJ.iv) rfl hl.1 (Nat.le_of_ble_eq_true rfl) dL_law_935 ⟨by omega, by omega⟩) (fun r2 σ2 H locs hq2 hJ => ?_)
              obtain ⟨hr2, hs2⟩ := hq2
              rw [hs2] at hJ
              rw [hr2, show (gP (hourX α) k).2.2.2.2.2 = (draw to9 w9) from by rw [hP2]]
              refine lv_aload S.1 S.2.1 dL_law_938 (lv_at hl 14 rfl) ?_
              refine lv_iload S.1 S.2.1 dL_law_940 (lv_at hl 20 rfl) ?_
              refine i_y S hJ 1 rfl (j := k) hk2 (by omega) dL_law_942 ?_
              rw [show (f2 k) = w9 from v2]
              refine lv_isub S.1 S.2.1 dL_law_943 ?_
              refine lv_istore (lv' := [(30, .int ((draw to9 w9) - w9)), (29, .int (to9 - w9)), (0, .ref (gE G 6)), (1, .ref (gB G 0)), (2, .ref q0), (3, .int (nI tt)), (7, .int (nI n)), (13, .int (nI o9)), (14, .int F1), (15, .int F2), (16, .int F3), (18, .int (nI hN)), (19, .int lf9), (20, .int (nI jh)), (21, .ref qa), (22, .ref qb), (23, .ref qc), (24, .ref qd), (25, .ref qe), (26, .int (sumN (xR α) 20)), (27, .int (sumN (thF α) k)), (28, .int (nI k))]) S.1 S.2.1 dL_law_944 hl (by decide) rfl (fun ls hl => ?_)
              refine lv_iload S.1 S.2.1 dL_law_946 (lv_at hl 20 rfl) ?_
              refine lv_aload S.1 S.2.1 dL_law_948 (lv_at hl 18 rfl) ?_
              refine lv_iload S.1 S.2.1 dL_law_950 (lv_at hl 21 rfl) ?_
              refine i_yz S hJ 4 rfl (j := k) hk2 (by omega) dL_law_952 ?_
              rw [show (f5 k) = 1 from v5]
              refine lv_if_eq (tgt := 969) S.1 S.2.1 dL_law_953 (by decide) (fun c9 => absurd c9 (by decide)) (fun cz_953 => ?_)
              refine lv_aload_n S.1 S.2.1 dL_law_956 rfl (lv_at hl 3 rfl) ?_
              refine lv_iload S.1 S.2.1 dL_law_957 (lv_at hl 21 rfl) ?_
              refine cz_i hJ (rzV (As := [.int (nI k)]) (rest := [.int (sumN (thF α) k)]) S hJ (c_isThawed l _ (hourX α) hok2 hk2 hn hX2) (cw_L_X3_isThawed S.2.2.2.2 ⟨by omega, by omega⟩) (rcX hJ.iv) rfl hl.1 (Nat.le_of_ble_eq_true rfl) dL_law_959 ⟨by omega, by omega⟩) (fun r3 σ3 H locs hq3 hJ => ?_)
              obtain ⟨hr3, hs3⟩ := hq3
              rw [hs3] at hJ
              rw [hr3, show (if (gP (hourX α) k).1 = 3 then (1 : Int32) else 0) = 0 from by rw [hP2]; rfl]
              refine lv_if_eq (tgt := 969) S.1 S.2.1 dL_law_962 (by decide) (fun cz_962 => ?_) (fun c9 => absurd (by decide) c9)
              refine lv_iconst (v := 0) S.1 S.2.1 dL_law_969 (by decide) ?_
              refine lv_iadd S.1 S.2.1 dL_law_970 ?_
              refine lv_istore (lv' := [(27, .int ((sumN (thF α) k) + 0)), (30, .int ((draw to9 w9) - w9)), (29, .int (to9 - w9)), (0, .ref (gE G 6)), (1, .ref (gB G 0)), (2, .ref q0), (3, .int (nI tt)), (7, .int (nI n)), (13, .int (nI o9)), (14, .int F1), (15, .int F2), (16, .int F3), (18, .int (nI hN)), (19, .int lf9), (20, .int (nI jh)), (21, .ref qa), (22, .ref qb), (23, .ref qc), (24, .ref qd), (25, .ref qe), (26, .int (sumN (xR α) 20)), (28, .int (nI k))]) S.1 S.2.1 dL_law_971 hl (by decide) rfl (fun ls hl => ?_)
              refine lv_iload S.1 S.2.1 dL_law_973 (lv_at hl 2 rfl) ?_
              refine lv_if_ne (tgt := 982) S.1 S.2.1 dL_law_975 (by decide) (fun cz_975 => ?_) (fun c9 => absurd c9 (neg_ne n1))
              refine lv_iconst (v := 0) S.1 S.2.1 dL_law_982 (by decide) ?_
              refine lv_iload S.1 S.2.1 dL_law_983 (lv_at hl 1 rfl) ?_
              refine lv_if_ne (tgt := 992) S.1 S.2.1 dL_law_985 (by decide) (fun cz_985 => ?_) (fun c9 => absurd c9 (mone_ne n2))
              refine lv_iconst (v := 0) S.1 S.2.1 dL_law_992 (by decide) ?_
              refine lv_icmp_ne (tgt := 1104) S.1 S.2.1 dL_law_993 (by decide) (fun c9 => absurd (by decide) c9) (fun cz_993 => ?_)
              refine lv_iload S.1 S.2.1 dL_law_996 (lv_at hl 2 rfl) ?_
              refine lv_if_le (tgt := 1014) S.1 S.2.1 dL_law_998 (by decide) (fun cz_998 => ?_) (fun c9 => absurd (Int32.le_of_lt n1) c9)
              refine lv_iload S.1 S.2.1 dL_law_1014 (lv_at hl 2 rfl) ?_
              refine lv_if_ge (tgt := 1032) S.1 S.2.1 dL_law_1016 (by decide) (fun c9 => absurd c9 (Int32.not_le.mpr n1)) (fun cz_1016 => ?_)
              refine lv_iload S.1 S.2.1 dL_law_1019 (lv_at hl 1 rfl) ?_
              refine lv_iconst (v := (-1)) S.1 S.2.1 dL_law_1021 (by decide) ?_
              refine lv_icmp_gt (tgt := 1104) S.1 S.2.1 dL_law_1022 (by decide) (fun c9 => absurd c9 (Int32.not_lt.mpr n2)) (fun cz_1022 => ?_)
              refine lv_iload S.1 S.2.1 dL_law_1025 (lv_at hl 1 rfl) ?_
              refine lv_iload S.1 S.2.1 dL_law_1027 (lv_at hl 2 rfl) ?_
              refine lv_icmp_lt (tgt := 1104) S.1 S.2.1 dL_law_1029 (by decide) (fun c9 => absurd c9 (Int32.not_lt.mpr n3)) (fun cz_1029 => ?_)
              refine lv_aload_n S.1 S.2.1 dL_law_1032 rfl (lv_at hl 4 rfl) ?_
              refine lv_iload S.1 S.2.1 dL_law_1033 (lv_at hl 21 rfl) ?_
              refine cz_i hJ (rzV (As := [.int (nI k)]) (rest := []) S hJ (c_ageOf l _ (hourX α) hk2 hn hX2) (cw_L_X3_ageOf S.2.2.2.2 ⟨by omega, by omega⟩) (rcX hJ.iv) rfl hl.1 (Nat.le_of_ble_eq_true rfl) dL_law_1035 ⟨by omega, by omega⟩) (fun r4 σ4 H locs hq4 hJ => ?_)
              obtain ⟨hr4, hs4⟩ := hq4
              rw [hs4] at hJ
              rw [hr4, show (gP (hourX α) k).2.2.2.2.1 = (nI ag) from by rw [hP2]]
              refine lv_aload S.1 S.2.1 dL_law_1038 (lv_at hl 17 rfl) ?_
              refine lv_iload S.1 S.2.1 dL_law_1040 (lv_at hl 21 rfl) ?_
              refine i_y S hJ 2 rfl (j := k) hk2 (by omega) dL_law_1042 ?_
              rw [show (f3 k) = (nI ag) from v3]
              refine lv_aload_n S.1 S.2.1 dL_law_1043 rfl (lv_at hl 4 rfl) ?_
              refine lv_iload S.1 S.2.1 dL_law_1044 (lv_at hl 21 rfl) ?_
              refine cz_i hJ (rzV (As := [.int (nI k)]) (rest := [.int (nI ag), .int (nI ag)]) S hJ (c_isFrozen l _ (hourX α) hok2 hk2 hn hX2) (cw_L_X3_isFrozen S.2.2.2.2 ⟨by omega, by omega⟩) (rcX hJ.iv) rfl hl.1 (Nat.le_of_ble_eq_true rfl) dL_law_1046 ⟨by omega, by omega⟩) (fun r5 σ5 H locs hq5 hJ => ?_)
              obtain ⟨hr5, hs5⟩ := hq5
              rw [hs5] at hJ
              rw [hr5, show (if (gP (hourX α) k).1 = 2 then (1 : Int32) else 0) = 1 from by rw [hP2]; rfl]
              refine lv_if_eq (tgt := 1056) S.1 S.2.1 dL_law_1049 (by decide) (fun c9 => absurd c9 (by decide)) (fun cz_1049 => ?_)
              refine lv_iconst (v := 0) S.1 S.2.1 dL_law_1052 (by decide) ?_
              refine lv_goto (tgt := 1057) S.1 S.2.1 dL_law_1053 (by decide) ?_
              refine lv_iadd S.1 S.2.1 dL_law_1057 ?_
              refine lv_icmp_ne (tgt := 1104) S.1 S.2.1 dL_law_1058 (by decide) (fun c9 => absurd ((Int32.add_zero _).symm) c9) (fun cz_1058 => ?_)
              refine lv_aload_n S.1 S.2.1 dL_law_1061 rfl (lv_at hl 4 rfl) ?_
              refine lv_iload S.1 S.2.1 dL_law_1062 (lv_at hl 21 rfl) ?_
              refine cz_i hJ (rzV (As := [.int (nI k)]) (rest := []) S hJ (c_isFrozen l _ (hourX α) hok2 hk2 hn hX2) (cw_L_X3_isFrozen S.2.2.2.2 ⟨by omega, by omega⟩) (rcX hJ.iv) rfl hl.1 (Nat.le_of_ble_eq_true rfl) dL_law_1064 ⟨by omega, by omega⟩) (fun r6 σ6 H locs hq6 hJ => ?_)
              obtain ⟨hr6, hs6⟩ := hq6
              rw [hs6] at hJ
              rw [hr6, show (if (gP (hourX α) k).1 = 2 then (1 : Int32) else 0) = 1 from by rw [hP2]; rfl]
              refine lv_if_eq (tgt := 1081) S.1 S.2.1 dL_law_1067 (by decide) (fun c9 => absurd c9 (by decide)) (fun cz_1067 => ?_)
              refine lv_aload_n S.1 S.2.1 dL_law_1070 rfl (lv_at hl 4 rfl) ?_
              refine lv_iload S.1 S.2.1 dL_law_1071 (lv_at hl 21 rfl) ?_
              refine cz_i hJ (rzV (As := [.int (nI k)]) (rest := []) S hJ (c_heatOf l _ (hourX α) hk2 hn hX2) (cw_L_X3_heatOf S.2.2.2.2 ⟨by omega, by omega⟩) (rcX hJ.iv) rfl hl.1 (Nat.le_of_ble_eq_true rfl) dL_law_1073 ⟨by omega, by omega⟩) (fun r7 σ7 H locs hq7 hJ => ?_)
              obtain ⟨hr7, hs7⟩ := hq7
              rw [hs7] at hJ
              rw [hr7, show (gP (hourX α) k).2.2.2.2.2 = (draw to9 w9) from by rw [hP2]]
              refine lv_bipush (v := (-4)) S.1 S.2.1 dL_law_1076 (by decide) ?_
              refine lv_icmp_gt (tgt := 1104) S.1 S.2.1 dL_law_1078 (by decide) (fun c9 => absurd c9 (Int32.not_lt.mpr c1)) (fun cz_1078 => ?_)
              refine lv_aload_n S.1 S.2.1 dL_law_1081 rfl (lv_at hl 4 rfl) ?_
              refine lv_iload S.1 S.2.1 dL_law_1082 (lv_at hl 21 rfl) ?_
              refine cz_i hJ (rzV (As := [.int (nI k)]) (rest := []) S hJ (c_isExpired l _ (hourX α) hok2 hk2 hn hX2) (cw_L_X3_isExpired S.2.2.2.2 ⟨by omega, by omega⟩) (rcX hJ.iv) rfl hl.1 (Nat.le_of_ble_eq_true rfl) dL_law_1084 ⟨by omega, by omega⟩) (fun r8 σ8 H locs hq8 hJ => ?_)
              obtain ⟨hr8, hs8⟩ := hq8
              rw [hs8] at hJ
              rw [hr8, show (if (gP (hourX α) k).1 = 5 then (1 : Int32) else 0) = 0 from by rw [hP2]; rfl]
              refine lv_aload_n S.1 S.2.1 dL_law_1087 rfl (lv_at hl 4 rfl) ?_
              refine lv_iload S.1 S.2.1 dL_law_1088 (lv_at hl 21 rfl) ?_
              refine cz_i hJ (rzV (As := [.int (nI k)]) (rest := [.int 0]) S hJ (c_hoursLeft l _ (hourX α) hk2 hn hX2) (cw_L_X3_hoursLeft S.2.2.2.2 ⟨by omega, by omega⟩) (rcX hJ.iv) rfl hl.1 (Nat.le_of_ble_eq_true rfl) dL_law_1090 ⟨by omega, by omega⟩) (fun r9 σ9 H locs hq9 hJ => ?_)
              obtain ⟨hr9, hs9⟩ := hq9
              rw [hs9] at hJ
              rw [hr9, show (gP (hourX α) k).2.2.2.1 - (gP (hourX α) k).2.2.2.2.1 = nI lf - (nI ag) from by rw [hP2]]
              refine lv_if_ne (tgt := 1100) S.1 S.2.1 dL_law_1093 (by decide) (fun cz_1093 => ?_) (fun c9 => absurd c9 (same_ne hal e5))
              refine lv_iconst (v := 0) S.1 S.2.1 dL_law_1100 (by decide) ?_
              refine lv_icmp_eq (tgt := 1106) S.1 S.2.1 dL_law_1101 (by decide) (fun cz_1101 => ?_) (fun c9 => absurd (by decide) c9)
              refine lv_iinc (v := (nI (k + 1))) (lv' := [(28, .int (nI (k + 1))), (27, .int ((sumN (thF α) k) + 0)), (30, .int ((draw to9 w9) - w9)), (29, .int (to9 - w9)), (0, .ref (gE G 6)), (1, .ref (gB G 0)), (2, .ref q0), (3, .int (nI tt)), (7, .int (nI n)), (13, .int (nI o9)), (14, .int F1), (15, .int F2), (16, .int F3), (18, .int (nI hN)), (19, .int lf9), (20, .int (nI jh)), (21, .ref qa), (22, .ref qb), (23, .ref qc), (24, .ref qd), (25, .ref qe), (26, .int (sumN (xR α) 20))]) S.1 S.2.1 dL_law_1106 hl (k := 21) rfl (nI_1 k) (by decide) rfl (fun ls hl => ?_)
              refine lv_goto (tgt := 861) S.1 S.2.1 dL_law_1109 (by decide) ?_
              exact ih (k + 1) (by omega) _ _ hJ ls (by rw [show sumN (thF α) (k + 1) = ((sumN (thF α) k) + 0) from by rw [sumN_s, hth0]]; exact lv_sub hl [4, 5, 6, 7, 8, 9, 10, 11, 12, 13, 14, 15, 16, 17, 18, 19, 20, 21, 1, 0] rfl)
          · by_cases c2 : nI ag + 1 < nI lf
            · obtain ⟨hA, -⟩ := (hq_e hs5 c1 c2 : hourP to9 (2, sh, mk9, nI lf, nI ag, w9) = _ ∧ _)
              rw [hA] at hP2
              rw [hP2] at hth
              have hth0 : thF α k = 1 := by rw [hth]; exact if_pos ⟨rfl, rfl⟩
              rcases hnear with ⟨n1, n2⟩ | ⟨n1, n2, n3⟩ | ⟨n1, n2, n3⟩
              · refine lv_iload S.1 S.2.1 dL_law_861 (lv_at hl 19 rfl) ?_
                refine lv_iload S.1 S.2.1 dL_law_863 (lv_at hl 4 rfl) ?_
                refine lv_icmp_ge (tgt := 1112) S.1 S.2.1 dL_law_865 (by decide) (fun c9 => absurd c9 (nI_ge hk2 (by omega))) (fun cz_865 => ?_)
                refine lv_aload S.1 S.2.1 dL_law_868 (lv_at hl 15 rfl) ?_
                refine lv_iload S.1 S.2.1 dL_law_870 (lv_at hl 19 rfl) ?_
                refine i_y S hJ 3 rfl (j := k) hk2 (by omega) dL_law_872 ?_
                rw [show (f4 k) = (nI sh) from v4]
                refine lv_if_ge (tgt := 915) S.1 S.2.1 dL_law_873 (by decide) (fun cz_873 => ?_) (fun c9 => absurd (Int32.not_lt.mp (nI_pos (by omega))) c9)
                refine lv_aload_n S.1 S.2.1 dL_law_915 rfl (lv_at hl 1 rfl) ?_
                refine lv_aload S.1 S.2.1 dL_law_916 (lv_at hl 15 rfl) ?_
                refine lv_iload S.1 S.2.1 dL_law_918 (lv_at hl 19 rfl) ?_
                refine i_y S hJ 3 rfl (j := k) hk2 (by omega) dL_law_920 ?_
                rw [show (f4 k) = (nI sh) from v4]
                refine cz_i hJ (rzV (As := [.int (nI sh)]) (rest := []) S hJ (c_heatOn l _ (hourX α) hs5) (cw_L_X3_heatOn S.2.2.2.2 ⟨by omega, by omega⟩) (rcX hJ.iv) rfl hl.1 (Nat.le_of_ble_eq_true rfl) dL_law_921 ⟨by omega, by omega⟩) (fun r1 σ1 H locs hq1 hJ => ?_)
                obtain ⟨hr1, hs1⟩ := hq1
                rw [hs1] at hJ
                rw [hr1, hSt]
                refine lv_aload S.1 S.2.1 dL_law_924 (lv_at hl 13 rfl) ?_
                refine lv_iload S.1 S.2.1 dL_law_926 (lv_at hl 19 rfl) ?_
                refine i_y S hJ 1 rfl (j := k) hk2 (by omega) dL_law_928 ?_
                rw [show (f2 k) = w9 from v2]
                refine lv_isub S.1 S.2.1 dL_law_929 ?_
                refine lv_istore (lv' := [(29, .int (to9 - w9)), (0, .ref (gE G 6)), (1, .ref (gB G 0)), (2, .ref q0), (3, .int (nI tt)), (7, .int (nI n)), (13, .int (nI o9)), (14, .int F1), (15, .int F2), (16, .int F3), (18, .int (nI hN)), (19, .int lf9), (20, .int (nI jh)), (21, .ref qa), (22, .ref qb), (23, .ref qc), (24, .ref qd), (25, .ref qe), (26, .int (sumN (xR α) 20)), (27, .int (sumN (thF α) k)), (28, .int (nI k))]) S.1 S.2.1 dL_law_930 hl (by decide) rfl (fun ls hl => ?_)
                refine lv_aload_n S.1 S.2.1 dL_law_932 rfl (lv_at hl 2 rfl) ?_
                refine lv_iload S.1 S.2.1 dL_law_933 (lv_at hl 20 rfl) ?_
                refine cz_i hJ (rzV (As := [.int (nI k)]) (rest := []) S hJ (c_heatOf l _ (hourX α) hk2 hn hX2) (cw_L_X3_heatOf S.2.2.2.2 ⟨by omega, by omega⟩) (rcX hJ.iv) rfl hl.1 (Nat.le_of_ble_eq_true rfl) dL_law_935 ⟨by omega, by omega⟩) (fun r2 σ2 H locs hq2 hJ => ?_)
                obtain ⟨hr2, hs2⟩ := hq2
                rw [hs2] at hJ
                rw [hr2, show (gP (hourX α) k).2.2.2.2.2 = (draw to9 w9) from by rw [hP2]]
                refine lv_aload S.1 S.2.1 dL_law_938 (lv_at hl 14 rfl) ?_
                refine lv_iload S.1 S.2.1 dL_law_940 (lv_at hl 20 rfl) ?_
                refine i_y S hJ 1 rfl (j := k) hk2 (by omega) dL_law_942 ?_
                rw [show (f2 k) = w9 from v2]
                refine lv_isub S.1 S.2.1 dL_law_943 ?_
                refine lv_istore (lv' := [(30, .int ((draw to9 w9) - w9)), (29, .int (to9 - w9)), (0, .ref (gE G 6)), (1, .ref (gB G 0)), (2, .ref q0), (3, .int (nI tt)), (7, .int (nI n)), (13, .int (nI o9)), (14, .int F1), (15, .int F2), (16, .int F3), (18, .int (nI hN)), (19, .int lf9), (20, .int (nI jh)), (21, .ref qa), (22, .ref qb), (23, .ref qc), (24, .ref qd), (25, .ref qe), (26, .int (sumN (xR α) 20)), (27, .int (sumN (thF α) k)), (28, .int (nI k))]) S.1 S.2.1 dL_law_944 hl (by decide) rfl (fun ls hl => ?_)
                refine lv_iload S.1 S.2.1 dL_law_946 (lv_at hl 20 rfl) ?_
                refine lv_aload S.1 S.2.1 dL_law_948 (lv_at hl 18 rfl) ?_
                refine lv_iload S.1 S.2.1 dL_law_950 (lv_at hl 21 rfl) ?_
                refine i_yz S hJ 4 rfl (j := k) hk2 (by omega) dL_law_952 ?_
                rw [show (f5 k) = 1 from v5]
                refine lv_if_eq (tgt := 969) S.1 S.2.1 dL_law_953 (by decide) (fun c9 => absurd c9 (by decide)) (fun cz_953 => ?_)
                refine lv_aload_n S.1 S.2.1 dL_law_956 rfl (lv_at hl 3 rfl) ?_
                refine lv_iload S.1 S.2.1 dL_law_957 (lv_at hl 21 rfl) ?_
                refine cz_i hJ (rzV (As := [.int (nI k)]) (rest := [.int (sumN (thF α) k)]) S hJ (c_isThawed l _ (hourX α) hok2 hk2 hn hX2) (cw_L_X3_isThawed S.2.2.2.2 ⟨by omega, by omega⟩) (rcX hJ.iv) rfl hl.1 (Nat.le_of_ble_eq_true rfl) dL_law_959 ⟨by omega, by omega⟩) (fun r3 σ3 H locs hq3 hJ => ?_)
                obtain ⟨hr3, hs3⟩ := hq3
                rw [hs3] at hJ
                rw [hr3, show (if (gP (hourX α) k).1 = 3 then (1 : Int32) else 0) = 1 from by rw [hP2]; rfl]
                refine lv_if_eq (tgt := 969) S.1 S.2.1 dL_law_962 (by decide) (fun c9 => absurd c9 (by decide)) (fun cz_962 => ?_)
                refine lv_iconst (v := 1) S.1 S.2.1 dL_law_965 (by decide) ?_
                refine lv_goto (tgt := 970) S.1 S.2.1 dL_law_966 (by decide) ?_
                refine lv_iadd S.1 S.2.1 dL_law_970 ?_
                refine lv_istore (lv' := [(27, .int ((sumN (thF α) k) + 1)), (30, .int ((draw to9 w9) - w9)), (29, .int (to9 - w9)), (0, .ref (gE G 6)), (1, .ref (gB G 0)), (2, .ref q0), (3, .int (nI tt)), (7, .int (nI n)), (13, .int (nI o9)), (14, .int F1), (15, .int F2), (16, .int F3), (18, .int (nI hN)), (19, .int lf9), (20, .int (nI jh)), (21, .ref qa), (22, .ref qb), (23, .ref qc), (24, .ref qd), (25, .ref qe), (26, .int (sumN (xR α) 20)), (28, .int (nI k))]) S.1 S.2.1 dL_law_971 hl (by decide) rfl (fun ls hl => ?_)
                refine lv_iload S.1 S.2.1 dL_law_973 (lv_at hl 2 rfl) ?_
                refine lv_if_ne (tgt := 982) S.1 S.2.1 dL_law_975 (by decide) (fun c9 => absurd n1 c9) (fun cz_975 => ?_)
                refine lv_iconst (v := 1) S.1 S.2.1 dL_law_978 (by decide) ?_
                refine lv_goto (tgt := 983) S.1 S.2.1 dL_law_979 (by decide) ?_
                refine lv_iload S.1 S.2.1 dL_law_983 (lv_at hl 1 rfl) ?_
                refine lv_if_ne (tgt := 992) S.1 S.2.1 dL_law_985 (by decide) (fun c9 => absurd n2 c9) (fun cz_985 => ?_)
                refine lv_iconst (v := 1) S.1 S.2.1 dL_law_988 (by decide) ?_
                refine lv_goto (tgt := 993) S.1 S.2.1 dL_law_989 (by decide) ?_
                refine lv_icmp_ne (tgt := 1104) S.1 S.2.1 dL_law_993 (by decide) (fun c9 => absurd (by decide) c9) (fun cz_993 => ?_)
                refine lv_iload S.1 S.2.1 dL_law_996 (lv_at hl 2 rfl) ?_
                refine lv_if_le (tgt := 1014) S.1 S.2.1 dL_law_998 (by decide) (fun cz_998 => ?_) (fun c9 => absurd (by rw [n1]; exact Int32.le_refl 0) c9)
                refine lv_iload S.1 S.2.1 dL_law_1014 (lv_at hl 2 rfl) ?_
                refine lv_if_ge (tgt := 1032) S.1 S.2.1 dL_law_1016 (by decide) (fun cz_1016 => ?_) (fun c9 => absurd (by rw [n1]; exact Int32.le_refl 0) c9)
                refine lv_aload_n S.1 S.2.1 dL_law_1032 rfl (lv_at hl 4 rfl) ?_
                refine lv_iload S.1 S.2.1 dL_law_1033 (lv_at hl 21 rfl) ?_
                refine cz_i hJ (rzV (As := [.int (nI k)]) (rest := []) S hJ (c_ageOf l _ (hourX α) hk2 hn hX2) (cw_L_X3_ageOf S.2.2.2.2 ⟨by omega, by omega⟩) (rcX hJ.iv) rfl hl.1 (Nat.le_of_ble_eq_true rfl) dL_law_1035 ⟨by omega, by omega⟩) (fun r4 σ4 H locs hq4 hJ => ?_)
                obtain ⟨hr4, hs4⟩ := hq4
                rw [hs4] at hJ
                rw [hr4, show (gP (hourX α) k).2.2.2.2.1 = (nI ag + 1) from by rw [hP2]]
                refine lv_aload S.1 S.2.1 dL_law_1038 (lv_at hl 17 rfl) ?_
                refine lv_iload S.1 S.2.1 dL_law_1040 (lv_at hl 21 rfl) ?_
                refine i_y S hJ 2 rfl (j := k) hk2 (by omega) dL_law_1042 ?_
                rw [show (f3 k) = (nI ag) from v3]
                refine lv_aload_n S.1 S.2.1 dL_law_1043 rfl (lv_at hl 4 rfl) ?_
                refine lv_iload S.1 S.2.1 dL_law_1044 (lv_at hl 21 rfl) ?_
                refine cz_i hJ (rzV (As := [.int (nI k)]) (rest := [.int (nI ag), .int (nI ag + 1)]) S hJ (c_isFrozen l _ (hourX α) hok2 hk2 hn hX2) (cw_L_X3_isFrozen S.2.2.2.2 ⟨by omega, by omega⟩) (rcX hJ.iv) rfl hl.1 (Nat.le_of_ble_eq_true rfl) dL_law_1046 ⟨by omega, by omega⟩) (fun r5 σ5 H locs hq5 hJ => ?_)
                obtain ⟨hr5, hs5⟩ := hq5
                rw [hs5] at hJ
                rw [hr5, show (if (gP (hourX α) k).1 = 2 then (1 : Int32) else 0) = 0 from by rw [hP2]; rfl]
                refine lv_if_eq (tgt := 1056) S.1 S.2.1 dL_law_1049 (by decide) (fun cz_1049 => ?_) (fun c9 => absurd (by decide) c9)
                refine lv_iconst (v := 1) S.1 S.2.1 dL_law_1056 (by decide) ?_
                refine lv_iadd S.1 S.2.1 dL_law_1057 ?_
                refine lv_icmp_ne (tgt := 1104) S.1 S.2.1 dL_law_1058 (by decide) (fun c9 => absurd rfl c9) (fun cz_1058 => ?_)
                refine lv_aload_n S.1 S.2.1 dL_law_1061 rfl (lv_at hl 4 rfl) ?_
                refine lv_iload S.1 S.2.1 dL_law_1062 (lv_at hl 21 rfl) ?_
                refine cz_i hJ (rzV (As := [.int (nI k)]) (rest := []) S hJ (c_isFrozen l _ (hourX α) hok2 hk2 hn hX2) (cw_L_X3_isFrozen S.2.2.2.2 ⟨by omega, by omega⟩) (rcX hJ.iv) rfl hl.1 (Nat.le_of_ble_eq_true rfl) dL_law_1064 ⟨by omega, by omega⟩) (fun r6 σ6 H locs hq6 hJ => ?_)
                obtain ⟨hr6, hs6⟩ := hq6
                rw [hs6] at hJ
                rw [hr6, show (if (gP (hourX α) k).1 = 2 then (1 : Int32) else 0) = 0 from by rw [hP2]; rfl]
                refine lv_if_eq (tgt := 1081) S.1 S.2.1 dL_law_1067 (by decide) (fun cz_1067 => ?_) (fun c9 => absurd (by decide) c9)
                refine lv_aload_n S.1 S.2.1 dL_law_1081 rfl (lv_at hl 4 rfl) ?_
                refine lv_iload S.1 S.2.1 dL_law_1082 (lv_at hl 21 rfl) ?_
                refine cz_i hJ (rzV (As := [.int (nI k)]) (rest := []) S hJ (c_isExpired l _ (hourX α) hok2 hk2 hn hX2) (cw_L_X3_isExpired S.2.2.2.2 ⟨by omega, by omega⟩) (rcX hJ.iv) rfl hl.1 (Nat.le_of_ble_eq_true rfl) dL_law_1084 ⟨by omega, by omega⟩) (fun r7 σ7 H locs hq7 hJ => ?_)
                obtain ⟨hr7, hs7⟩ := hq7
                rw [hs7] at hJ
                rw [hr7, show (if (gP (hourX α) k).1 = 5 then (1 : Int32) else 0) = 0 from by rw [hP2]; rfl]
                refine lv_aload_n S.1 S.2.1 dL_law_1087 rfl (lv_at hl 4 rfl) ?_
                refine lv_iload S.1 S.2.1 dL_law_1088 (lv_at hl 21 rfl) ?_
                refine cz_i hJ (rzV (As := [.int (nI k)]) (rest := [.int 0]) S hJ (c_hoursLeft l _ (hourX α) hk2 hn hX2) (cw_L_X3_hoursLeft S.2.2.2.2 ⟨by omega, by omega⟩) (rcX hJ.iv) rfl hl.1 (Nat.le_of_ble_eq_true rfl) dL_law_1090 ⟨by omega, by omega⟩) (fun r8 σ8 H locs hq8 hJ => ?_)
                obtain ⟨hr8, hs8⟩ := hq8
                rw [hs8] at hJ
                rw [hr8, show (gP (hourX α) k).2.2.2.1 - (gP (hourX α) k).2.2.2.2.1 = nI lf - (nI ag + 1) from by rw [hP2]]
                refine lv_if_ne (tgt := 1100) S.1 S.2.1 dL_law_1093 (by decide) (fun cz_1093 => ?_) (fun c9 => absurd c9 (young_ne c2 hal e5))
                refine lv_iconst (v := 0) S.1 S.2.1 dL_law_1100 (by decide) ?_
                refine lv_icmp_eq (tgt := 1106) S.1 S.2.1 dL_law_1101 (by decide) (fun cz_1101 => ?_) (fun c9 => absurd (by decide) c9)
                refine lv_iinc (v := (nI (k + 1))) (lv' := [(28, .int (nI (k + 1))), (27, .int ((sumN (thF α) k) + 1)), (30, .int ((draw to9 w9) - w9)), (29, .int (to9 - w9)), (0, .ref (gE G 6)), (1, .ref (gB G 0)), (2, .ref q0), (3, .int (nI tt)), (7, .int (nI n)), (13, .int (nI o9)), (14, .int F1), (15, .int F2), (16, .int F3), (18, .int (nI hN)), (19, .int lf9), (20, .int (nI jh)), (21, .ref qa), (22, .ref qb), (23, .ref qc), (24, .ref qd), (25, .ref qe), (26, .int (sumN (xR α) 20))]) S.1 S.2.1 dL_law_1106 hl (k := 21) rfl (nI_1 k) (by decide) rfl (fun ls hl => ?_)
                refine lv_goto (tgt := 861) S.1 S.2.1 dL_law_1109 (by decide) ?_
                exact ih (k + 1) (by omega) _ _ hJ ls (by rw [show sumN (thF α) (k + 1) = ((sumN (thF α) k) + 1) from by rw [sumN_s, hth0]]; exact lv_sub hl [4, 5, 6, 7, 8, 9, 10, 11, 12, 13, 14, 15, 16, 17, 18, 19, 20, 21, 1, 0] rfl)
              · refine lv_iload S.1 S.2.1 dL_law_861 (lv_at hl 19 rfl) ?_
                refine lv_iload S.1 S.2.1 dL_law_863 (lv_at hl 4 rfl) ?_
                refine lv_icmp_ge (tgt := 1112) S.1 S.2.1 dL_law_865 (by decide) (fun c9 => absurd c9 (nI_ge hk2 (by omega))) (fun cz_865 => ?_)
                refine lv_aload S.1 S.2.1 dL_law_868 (lv_at hl 15 rfl) ?_
                refine lv_iload S.1 S.2.1 dL_law_870 (lv_at hl 19 rfl) ?_
                refine i_y S hJ 3 rfl (j := k) hk2 (by omega) dL_law_872 ?_
                rw [show (f4 k) = (nI sh) from v4]
                refine lv_if_ge (tgt := 915) S.1 S.2.1 dL_law_873 (by decide) (fun cz_873 => ?_) (fun c9 => absurd (Int32.not_lt.mp (nI_pos (by omega))) c9)
                refine lv_aload_n S.1 S.2.1 dL_law_915 rfl (lv_at hl 1 rfl) ?_
                refine lv_aload S.1 S.2.1 dL_law_916 (lv_at hl 15 rfl) ?_
                refine lv_iload S.1 S.2.1 dL_law_918 (lv_at hl 19 rfl) ?_
                refine i_y S hJ 3 rfl (j := k) hk2 (by omega) dL_law_920 ?_
                rw [show (f4 k) = (nI sh) from v4]
                refine cz_i hJ (rzV (As := [.int (nI sh)]) (rest := []) S hJ (c_heatOn l _ (hourX α) hs5) (cw_L_X3_heatOn S.2.2.2.2 ⟨by omega, by omega⟩) (rcX hJ.iv) rfl hl.1 (Nat.le_of_ble_eq_true rfl) dL_law_921 ⟨by omega, by omega⟩) (fun r1 σ1 H locs hq1 hJ => ?_)
                obtain ⟨hr1, hs1⟩ := hq1
                rw [hs1] at hJ
                rw [hr1, hSt]
                refine lv_aload S.1 S.2.1 dL_law_924 (lv_at hl 13 rfl) ?_
                refine lv_iload S.1 S.2.1 dL_law_926 (lv_at hl 19 rfl) ?_
                refine i_y S hJ 1 rfl (j := k) hk2 (by omega) dL_law_928 ?_
                rw [show (f2 k) = w9 from v2]
                refine lv_isub S.1 S.2.1 dL_law_929 ?_
                refine lv_istore (lv' := [(29, .int (to9 - w9)), (0, .ref (gE G 6)), (1, .ref (gB G 0)), (2, .ref q0), (3, .int (nI tt)), (7, .int (nI n)), (13, .int (nI o9)), (14, .int F1), (15, .int F2), (16, .int F3), (18, .int (nI hN)), (19, .int lf9), (20, .int (nI jh)), (21, .ref qa), (22, .ref qb), (23, .ref qc), (24, .ref qd), (25, .ref qe), (26, .int (sumN (xR α) 20)), (27, .int (sumN (thF α) k)), (28, .int (nI k))]) S.1 S.2.1 dL_law_930 hl (by decide) rfl (fun ls hl => ?_)
                refine lv_aload_n S.1 S.2.1 dL_law_932 rfl (lv_at hl 2 rfl) ?_
                refine lv_iload S.1 S.2.1 dL_law_933 (lv_at hl 20 rfl) ?_
                refine cz_i hJ (rzV (As := [.int (nI k)]) (rest := []) S hJ (c_heatOf l _ (hourX α) hk2 hn hX2) (cw_L_X3_heatOf S.2.2.2.2 ⟨by omega, by omega⟩) (rcX hJ.iv) rfl hl.1 (Nat.le_of_ble_eq_true rfl) dL_law_935 ⟨by omega, by omega⟩) (fun r2 σ2 H locs hq2 hJ => ?_)
                obtain ⟨hr2, hs2⟩ := hq2
                rw [hs2] at hJ
                rw [hr2, show (gP (hourX α) k).2.2.2.2.2 = (draw to9 w9) from by rw [hP2]]
                refine lv_aload S.1 S.2.1 dL_law_938 (lv_at hl 14 rfl) ?_
                refine lv_iload S.1 S.2.1 dL_law_940 (lv_at hl 20 rfl) ?_
                refine i_y S hJ 1 rfl (j := k) hk2 (by omega) dL_law_942 ?_
                rw [show (f2 k) = w9 from v2]
                refine lv_isub S.1 S.2.1 dL_law_943 ?_
                refine lv_istore (lv' := [(30, .int ((draw to9 w9) - w9)), (29, .int (to9 - w9)), (0, .ref (gE G 6)), (1, .ref (gB G 0)), (2, .ref q0), (3, .int (nI tt)), (7, .int (nI n)), (13, .int (nI o9)), (14, .int F1), (15, .int F2), (16, .int F3), (18, .int (nI hN)), (19, .int lf9), (20, .int (nI jh)), (21, .ref qa), (22, .ref qb), (23, .ref qc), (24, .ref qd), (25, .ref qe), (26, .int (sumN (xR α) 20)), (27, .int (sumN (thF α) k)), (28, .int (nI k))]) S.1 S.2.1 dL_law_944 hl (by decide) rfl (fun ls hl => ?_)
                refine lv_iload S.1 S.2.1 dL_law_946 (lv_at hl 20 rfl) ?_
                refine lv_aload S.1 S.2.1 dL_law_948 (lv_at hl 18 rfl) ?_
                refine lv_iload S.1 S.2.1 dL_law_950 (lv_at hl 21 rfl) ?_
                refine i_yz S hJ 4 rfl (j := k) hk2 (by omega) dL_law_952 ?_
                rw [show (f5 k) = 1 from v5]
                refine lv_if_eq (tgt := 969) S.1 S.2.1 dL_law_953 (by decide) (fun c9 => absurd c9 (by decide)) (fun cz_953 => ?_)
                refine lv_aload_n S.1 S.2.1 dL_law_956 rfl (lv_at hl 3 rfl) ?_
                refine lv_iload S.1 S.2.1 dL_law_957 (lv_at hl 21 rfl) ?_
                refine cz_i hJ (rzV (As := [.int (nI k)]) (rest := [.int (sumN (thF α) k)]) S hJ (c_isThawed l _ (hourX α) hok2 hk2 hn hX2) (cw_L_X3_isThawed S.2.2.2.2 ⟨by omega, by omega⟩) (rcX hJ.iv) rfl hl.1 (Nat.le_of_ble_eq_true rfl) dL_law_959 ⟨by omega, by omega⟩) (fun r3 σ3 H locs hq3 hJ => ?_)
                obtain ⟨hr3, hs3⟩ := hq3
                rw [hs3] at hJ
                rw [hr3, show (if (gP (hourX α) k).1 = 3 then (1 : Int32) else 0) = 1 from by rw [hP2]; rfl]
                refine lv_if_eq (tgt := 969) S.1 S.2.1 dL_law_962 (by decide) (fun c9 => absurd c9 (by decide)) (fun cz_962 => ?_)
                refine lv_iconst (v := 1) S.1 S.2.1 dL_law_965 (by decide) ?_
                refine lv_goto (tgt := 970) S.1 S.2.1 dL_law_966 (by decide) ?_
                refine lv_iadd S.1 S.2.1 dL_law_970 ?_
                refine lv_istore (lv' := [(27, .int ((sumN (thF α) k) + 1)), (30, .int ((draw to9 w9) - w9)), (29, .int (to9 - w9)), (0, .ref (gE G 6)), (1, .ref (gB G 0)), (2, .ref q0), (3, .int (nI tt)), (7, .int (nI n)), (13, .int (nI o9)), (14, .int F1), (15, .int F2), (16, .int F3), (18, .int (nI hN)), (19, .int lf9), (20, .int (nI jh)), (21, .ref qa), (22, .ref qb), (23, .ref qc), (24, .ref qd), (25, .ref qe), (26, .int (sumN (xR α) 20)), (28, .int (nI k))]) S.1 S.2.1 dL_law_971 hl (by decide) rfl (fun ls hl => ?_)
                refine lv_iload S.1 S.2.1 dL_law_973 (lv_at hl 2 rfl) ?_
                refine lv_if_ne (tgt := 982) S.1 S.2.1 dL_law_975 (by decide) (fun cz_975 => ?_) (fun c9 => absurd c9 (pos_ne n1))
                refine lv_iconst (v := 0) S.1 S.2.1 dL_law_982 (by decide) ?_
                refine lv_iload S.1 S.2.1 dL_law_983 (lv_at hl 1 rfl) ?_
                refine lv_if_ne (tgt := 992) S.1 S.2.1 dL_law_985 (by decide) (fun cz_985 => ?_) (fun c9 => absurd c9 (one_ne n2))
                refine lv_iconst (v := 0) S.1 S.2.1 dL_law_992 (by decide) ?_
                refine lv_icmp_ne (tgt := 1104) S.1 S.2.1 dL_law_993 (by decide) (fun c9 => absurd (by decide) c9) (fun cz_993 => ?_)
                refine lv_iload S.1 S.2.1 dL_law_996 (lv_at hl 2 rfl) ?_
                refine lv_if_le (tgt := 1014) S.1 S.2.1 dL_law_998 (by decide) (fun c9 => absurd c9 (Int32.not_le.mpr n1)) (fun cz_998 => ?_)
                refine lv_iload S.1 S.2.1 dL_law_1001 (lv_at hl 1 rfl) ?_
                refine lv_iconst (v := 1) S.1 S.2.1 dL_law_1003 (by decide) ?_
                refine lv_icmp_lt (tgt := 1104) S.1 S.2.1 dL_law_1004 (by decide) (fun c9 => absurd c9 (Int32.not_lt.mpr n2)) (fun cz_1004 => ?_)
                refine lv_iload S.1 S.2.1 dL_law_1007 (lv_at hl 1 rfl) ?_
                refine lv_iload S.1 S.2.1 dL_law_1009 (lv_at hl 2 rfl) ?_
                refine lv_icmp_gt (tgt := 1104) S.1 S.2.1 dL_law_1011 (by decide) (fun c9 => absurd c9 (Int32.not_lt.mpr n3)) (fun cz_1011 => ?_)
                refine lv_iload S.1 S.2.1 dL_law_1014 (lv_at hl 2 rfl) ?_
                refine lv_if_ge (tgt := 1032) S.1 S.2.1 dL_law_1016 (by decide) (fun cz_1016 => ?_) (fun c9 => absurd (Int32.le_of_lt n1) c9)
                refine lv_aload_n S.1 S.2.1 dL_law_1032 rfl (lv_at hl 4 rfl) ?_
                refine lv_iload S.1 S.2.1 dL_law_1033 (lv_at hl 21 rfl) ?_
                refine cz_i hJ (rzV (As := [.int (nI k)]) (rest := []) S hJ (c_ageOf l _ (hourX α) hk2 hn hX2) (cw_L_X3_ageOf S.2.2.2.2 ⟨by omega, by omega⟩) (rcX hJ.iv) rfl hl.1 (Nat.le_of_ble_eq_true rfl) dL_law_1035 ⟨by omega, by omega⟩) (fun r4 σ4 H locs hq4 hJ => ?_)
                obtain ⟨hr4, hs4⟩ := hq4
                rw [hs4] at hJ
                rw [hr4, show (gP (hourX α) k).2.2.2.2.1 = (nI ag + 1) from by rw [hP2]]
                refine lv_aload S.1 S.2.1 dL_law_1038 (lv_at hl 17 rfl) ?_
                refine lv_iload S.1 S.2.1 dL_law_1040 (lv_at hl 21 rfl) ?_
                refine i_y S hJ 2 rfl (j := k) hk2 (by omega) dL_law_1042 ?_
                rw [show (f3 k) = (nI ag) from v3]
                refine lv_aload_n S.1 S.2.1 dL_law_1043 rfl (lv_at hl 4 rfl) ?_
                refine lv_iload S.1 S.2.1 dL_law_1044 (lv_at hl 21 rfl) ?_
                refine cz_i hJ (rzV (As := [.int (nI k)]) (rest := [.int (nI ag), .int (nI ag + 1)]) S hJ (c_isFrozen l _ (hourX α) hok2 hk2 hn hX2) (cw_L_X3_isFrozen S.2.2.2.2 ⟨by omega, by omega⟩) (rcX hJ.iv) rfl hl.1 (Nat.le_of_ble_eq_true rfl) dL_law_1046 ⟨by omega, by omega⟩) (fun r5 σ5 H locs hq5 hJ => ?_)
                obtain ⟨hr5, hs5⟩ := hq5
                rw [hs5] at hJ
                rw [hr5, show (if (gP (hourX α) k).1 = 2 then (1 : Int32) else 0) = 0 from by rw [hP2]; rfl]
                refine lv_if_eq (tgt := 1056) S.1 S.2.1 dL_law_1049 (by decide) (fun cz_1049 => ?_) (fun c9 => absurd (by decide) c9)
                refine lv_iconst (v := 1) S.1 S.2.1 dL_law_1056 (by decide) ?_
                refine lv_iadd S.1 S.2.1 dL_law_1057 ?_
                refine lv_icmp_ne (tgt := 1104) S.1 S.2.1 dL_law_1058 (by decide) (fun c9 => absurd rfl c9) (fun cz_1058 => ?_)
                refine lv_aload_n S.1 S.2.1 dL_law_1061 rfl (lv_at hl 4 rfl) ?_
                refine lv_iload S.1 S.2.1 dL_law_1062 (lv_at hl 21 rfl) ?_
                refine cz_i hJ (rzV (As := [.int (nI k)]) (rest := []) S hJ (c_isFrozen l _ (hourX α) hok2 hk2 hn hX2) (cw_L_X3_isFrozen S.2.2.2.2 ⟨by omega, by omega⟩) (rcX hJ.iv) rfl hl.1 (Nat.le_of_ble_eq_true rfl) dL_law_1064 ⟨by omega, by omega⟩) (fun r6 σ6 H locs hq6 hJ => ?_)
                obtain ⟨hr6, hs6⟩ := hq6
                rw [hs6] at hJ
                rw [hr6, show (if (gP (hourX α) k).1 = 2 then (1 : Int32) else 0) = 0 from by rw [hP2]; rfl]
                refine lv_if_eq (tgt := 1081) S.1 S.2.1 dL_law_1067 (by decide) (fun cz_1067 => ?_) (fun c9 => absurd (by decide) c9)
                refine lv_aload_n S.1 S.2.1 dL_law_1081 rfl (lv_at hl 4 rfl) ?_
                refine lv_iload S.1 S.2.1 dL_law_1082 (lv_at hl 21 rfl) ?_
                refine cz_i hJ (rzV (As := [.int (nI k)]) (rest := []) S hJ (c_isExpired l _ (hourX α) hok2 hk2 hn hX2) (cw_L_X3_isExpired S.2.2.2.2 ⟨by omega, by omega⟩) (rcX hJ.iv) rfl hl.1 (Nat.le_of_ble_eq_true rfl) dL_law_1084 ⟨by omega, by omega⟩) (fun r7 σ7 H locs hq7 hJ => ?_)
                obtain ⟨hr7, hs7⟩ := hq7
                rw [hs7] at hJ
                rw [hr7, show (if (gP (hourX α) k).1 = 5 then (1 : Int32) else 0) = 0 from by rw [hP2]; rfl]
                refine lv_aload_n S.1 S.2.1 dL_law_1087 rfl (lv_at hl 4 rfl) ?_
                refine lv_iload S.1 S.2.1 dL_law_1088 (lv_at hl 21 rfl) ?_
                refine cz_i hJ (rzV (As := [.int (nI k)]) (rest := [.int 0]) S hJ (c_hoursLeft l _ (hourX α) hk2 hn hX2) (cw_L_X3_hoursLeft S.2.2.2.2 ⟨by omega, by omega⟩) (rcX hJ.iv) rfl hl.1 (Nat.le_of_ble_eq_true rfl) dL_law_1090 ⟨by omega, by omega⟩) (fun r8 σ8 H locs hq8 hJ => ?_)
                obtain ⟨hr8, hs8⟩ := hq8
                rw [hs8] at hJ
                rw [hr8, show (gP (hourX α) k).2.2.2.1 - (gP (hourX α) k).2.2.2.2.1 = nI lf - (nI ag + 1) from by rw [hP2]]
                refine lv_if_ne (tgt := 1100) S.1 S.2.1 dL_law_1093 (by decide) (fun cz_1093 => ?_) (fun c9 => absurd c9 (young_ne c2 hal e5))
                refine lv_iconst (v := 0) S.1 S.2.1 dL_law_1100 (by decide) ?_
                refine lv_icmp_eq (tgt := 1106) S.1 S.2.1 dL_law_1101 (by decide) (fun cz_1101 => ?_) (fun c9 => absurd (by decide) c9)
                refine lv_iinc (v := (nI (k + 1))) (lv' := [(28, .int (nI (k + 1))), (27, .int ((sumN (thF α) k) + 1)), (30, .int ((draw to9 w9) - w9)), (29, .int (to9 - w9)), (0, .ref (gE G 6)), (1, .ref (gB G 0)), (2, .ref q0), (3, .int (nI tt)), (7, .int (nI n)), (13, .int (nI o9)), (14, .int F1), (15, .int F2), (16, .int F3), (18, .int (nI hN)), (19, .int lf9), (20, .int (nI jh)), (21, .ref qa), (22, .ref qb), (23, .ref qc), (24, .ref qd), (25, .ref qe), (26, .int (sumN (xR α) 20))]) S.1 S.2.1 dL_law_1106 hl (k := 21) rfl (nI_1 k) (by decide) rfl (fun ls hl => ?_)
                refine lv_goto (tgt := 861) S.1 S.2.1 dL_law_1109 (by decide) ?_
                exact ih (k + 1) (by omega) _ _ hJ ls (by rw [show sumN (thF α) (k + 1) = ((sumN (thF α) k) + 1) from by rw [sumN_s, hth0]]; exact lv_sub hl [4, 5, 6, 7, 8, 9, 10, 11, 12, 13, 14, 15, 16, 17, 18, 19, 20, 21, 1, 0] rfl)
              · refine lv_iload S.1 S.2.1 dL_law_861 (lv_at hl 19 rfl) ?_
                refine lv_iload S.1 S.2.1 dL_law_863 (lv_at hl 4 rfl) ?_
                refine lv_icmp_ge (tgt := 1112) S.1 S.2.1 dL_law_865 (by decide) (fun c9 => absurd c9 (nI_ge hk2 (by omega))) (fun cz_865 => ?_)
                refine lv_aload S.1 S.2.1 dL_law_868 (lv_at hl 15 rfl) ?_
                refine lv_iload S.1 S.2.1 dL_law_870 (lv_at hl 19 rfl) ?_
                refine i_y S hJ 3 rfl (j := k) hk2 (by omega) dL_law_872 ?_
                rw [show (f4 k) = (nI sh) from v4]
                refine lv_if_ge (tgt := 915) S.1 S.2.1 dL_law_873 (by decide) (fun cz_873 => ?_) (fun c9 => absurd (Int32.not_lt.mp (nI_pos (by omega))) c9)
                refine lv_aload_n S.1 S.2.1 dL_law_915 rfl (lv_at hl 1 rfl) ?_
                refine lv_aload S.1 S.2.1 dL_law_916 (lv_at hl 15 rfl) ?_
                refine lv_iload S.1 S.2.1 dL_law_918 (lv_at hl 19 rfl) ?_
                refine i_y S hJ 3 rfl (j := k) hk2 (by omega) dL_law_920 ?_
                rw [show (f4 k) = (nI sh) from v4]
                refine cz_i hJ (rzV (As := [.int (nI sh)]) (rest := []) S hJ (c_heatOn l _ (hourX α) hs5) (cw_L_X3_heatOn S.2.2.2.2 ⟨by omega, by omega⟩) (rcX hJ.iv) rfl hl.1 (Nat.le_of_ble_eq_true rfl) dL_law_921 ⟨by omega, by omega⟩) (fun r1 σ1 H locs hq1 hJ => ?_)
                obtain ⟨hr1, hs1⟩ := hq1
                rw [hs1] at hJ
                rw [hr1, hSt]
                refine lv_aload S.1 S.2.1 dL_law_924 (lv_at hl 13 rfl) ?_
                refine lv_iload S.1 S.2.1 dL_law_926 (lv_at hl 19 rfl) ?_
                refine i_y S hJ 1 rfl (j := k) hk2 (by omega) dL_law_928 ?_
                rw [show (f2 k) = w9 from v2]
                refine lv_isub S.1 S.2.1 dL_law_929 ?_
                refine lv_istore (lv' := [(29, .int (to9 - w9)), (0, .ref (gE G 6)), (1, .ref (gB G 0)), (2, .ref q0), (3, .int (nI tt)), (7, .int (nI n)), (13, .int (nI o9)), (14, .int F1), (15, .int F2), (16, .int F3), (18, .int (nI hN)), (19, .int lf9), (20, .int (nI jh)), (21, .ref qa), (22, .ref qb), (23, .ref qc), (24, .ref qd), (25, .ref qe), (26, .int (sumN (xR α) 20)), (27, .int (sumN (thF α) k)), (28, .int (nI k))]) S.1 S.2.1 dL_law_930 hl (by decide) rfl (fun ls hl => ?_)
                refine lv_aload_n S.1 S.2.1 dL_law_932 rfl (lv_at hl 2 rfl) ?_
                refine lv_iload S.1 S.2.1 dL_law_933 (lv_at hl 20 rfl) ?_
                refine cz_i hJ (rzV (As := [.int (nI k)]) (rest := []) S hJ (c_heatOf l _ (hourX α) hk2 hn hX2) (cw_L_X3_heatOf S.2.2.2.2 ⟨by omega, by omega⟩) (rcX hJ.iv) rfl hl.1 (Nat.le_of_ble_eq_true rfl) dL_law_935 ⟨by omega, by omega⟩) (fun r2 σ2 H locs hq2 hJ => ?_)
                obtain ⟨hr2, hs2⟩ := hq2
                rw [hs2] at hJ
                rw [hr2, show (gP (hourX α) k).2.2.2.2.2 = (draw to9 w9) from by rw [hP2]]
                refine lv_aload S.1 S.2.1 dL_law_938 (lv_at hl 14 rfl) ?_
                refine lv_iload S.1 S.2.1 dL_law_940 (lv_at hl 20 rfl) ?_
                refine i_y S hJ 1 rfl (j := k) hk2 (by omega) dL_law_942 ?_
                rw [show (f2 k) = w9 from v2]
                refine lv_isub S.1 S.2.1 dL_law_943 ?_
                refine lv_istore (lv' := [(30, .int ((draw to9 w9) - w9)), (29, .int (to9 - w9)), (0, .ref (gE G 6)), (1, .ref (gB G 0)), (2, .ref q0), (3, .int (nI tt)), (7, .int (nI n)), (13, .int (nI o9)), (14, .int F1), (15, .int F2), (16, .int F3), (18, .int (nI hN)), (19, .int lf9), (20, .int (nI jh)), (21, .ref qa), (22, .ref qb), (23, .ref qc), (24, .ref qd), (25, .ref qe), (26, .int (sumN (xR α) 20)), (27, .int (sumN (thF α) k)), (28, .int (nI k))]) S.1 S.2.1 dL_law_944 hl (by decide) rfl (fun ls hl => ?_)
                refine lv_iload S.1 S.2.1 dL_law_946 (lv_at hl 20 rfl) ?_
                refine lv_aload S.1 S.2.1 dL_law_948 (lv_at hl 18 rfl) ?_
                refine lv_iload S.1 S.2.1 dL_law_950 (lv_at hl 21 rfl) ?_
                refine i_yz S hJ 4 rfl (j := k) hk2 (by omega) dL_law_952 ?_
                rw [show (f5 k) = 1 from v5]
                refine lv_if_eq (tgt := 969) S.1 S.2.1 dL_law_953 (by decide) (fun c9 => absurd c9 (by decide)) (fun cz_953 => ?_)
                refine lv_aload_n S.1 S.2.1 dL_law_956 rfl (lv_at hl 3 rfl) ?_
                refine lv_iload S.1 S.2.1 dL_law_957 (lv_at hl 21 rfl) ?_
                refine cz_i hJ (rzV (As := [.int (nI k)]) (rest := [.int (sumN (thF α) k)]) S hJ (c_isThawed l _ (hourX α) hok2 hk2 hn hX2) (cw_L_X3_isThawed S.2.2.2.2 ⟨by omega, by omega⟩) (rcX hJ.iv) rfl hl.1 (Nat.le_of_ble_eq_true rfl) dL_law_959 ⟨by omega, by omega⟩) (fun r3 σ3 H locs hq3 hJ => ?_)
                obtain ⟨hr3, hs3⟩ := hq3
                rw [hs3] at hJ
                rw [hr3, show (if (gP (hourX α) k).1 = 3 then (1 : Int32) else 0) = 1 from by rw [hP2]; rfl]
                refine lv_if_eq (tgt := 969) S.1 S.2.1 dL_law_962 (by decide) (fun c9 => absurd c9 (by decide)) (fun cz_962 => ?_)
                refine lv_iconst (v := 1) S.1 S.2.1 dL_law_965 (by decide) ?_
                refine lv_goto (tgt := 970) S.1 S.2.1 dL_law_966 (by decide) ?_
                refine lv_iadd S.1 S.2.1 dL_law_970 ?_
                refine lv_istore (lv' := [(27, .int ((sumN (thF α) k) + 1)), (30, .int ((draw to9 w9) - w9)), (29, .int (to9 - w9)), (0, .ref (gE G 6)), (1, .ref (gB G 0)), (2, .ref q0), (3, .int (nI tt)), (7, .int (nI n)), (13, .int (nI o9)), (14, .int F1), (15, .int F2), (16, .int F3), (18, .int (nI hN)), (19, .int lf9), (20, .int (nI jh)), (21, .ref qa), (22, .ref qb), (23, .ref qc), (24, .ref qd), (25, .ref qe), (26, .int (sumN (xR α) 20)), (28, .int (nI k))]) S.1 S.2.1 dL_law_971 hl (by decide) rfl (fun ls hl => ?_)
                refine lv_iload S.1 S.2.1 dL_law_973 (lv_at hl 2 rfl) ?_
                refine lv_if_ne (tgt := 982) S.1 S.2.1 dL_law_975 (by decide) (fun cz_975 => ?_) (fun c9 => absurd c9 (neg_ne n1))
                refine lv_iconst (v := 0) S.1 S.2.1 dL_law_982 (by decide) ?_
                refine lv_iload S.1 S.2.1 dL_law_983 (lv_at hl 1 rfl) ?_
                refine lv_if_ne (tgt := 992) S.1 S.2.1 dL_law_985 (by decide) (fun cz_985 => ?_) (fun c9 => absurd c9 (mone_ne n2))
                refine lv_iconst (v := 0) S.1 S.2.1 dL_law_992 (by decide) ?_
                refine lv_icmp_ne (tgt := 1104) S.1 S.2.1 dL_law_993 (by decide) (fun c9 => absurd (by decide) c9) (fun cz_993 => ?_)
                refine lv_iload S.1 S.2.1 dL_law_996 (lv_at hl 2 rfl) ?_
                refine lv_if_le (tgt := 1014) S.1 S.2.1 dL_law_998 (by decide) (fun cz_998 => ?_) (fun c9 => absurd (Int32.le_of_lt n1) c9)
                refine lv_iload S.1 S.2.1 dL_law_1014 (lv_at hl 2 rfl) ?_
                refine lv_if_ge (tgt := 1032) S.1 S.2.1 dL_law_1016 (by decide) (fun c9 => absurd c9 (Int32.not_le.mpr n1)) (fun cz_1016 => ?_)
                refine lv_iload S.1 S.2.1 dL_law_1019 (lv_at hl 1 rfl) ?_
                refine lv_iconst (v := (-1)) S.1 S.2.1 dL_law_1021 (by decide) ?_
                refine lv_icmp_gt (tgt := 1104) S.1 S.2.1 dL_law_1022 (by decide) (fun c9 => absurd c9 (Int32.not_lt.mpr n2)) (fun cz_1022 => ?_)
                refine lv_iload S.1 S.2.1 dL_law_1025 (lv_at hl 1 rfl) ?_
                refine lv_iload S.1 S.2.1 dL_law_1027 (lv_at hl 2 rfl) ?_
                refine lv_icmp_lt (tgt := 1104) S.1 S.2.1 dL_law_1029 (by decide) (fun c9 => absurd c9 (Int32.not_lt.mpr n3)) (fun cz_1029 => ?_)
                refine lv_aload_n S.1 S.2.1 dL_law_1032 rfl (lv_at hl 4 rfl) ?_
                refine lv_iload S.1 S.2.1 dL_law_1033 (lv_at hl 21 rfl) ?_
                refine cz_i hJ (rzV (As := [.int (nI k)]) (rest := []) S hJ (c_ageOf l _ (hourX α) hk2 hn hX2) (cw_L_X3_ageOf S.2.2.2.2 ⟨by omega, by omega⟩) (rcX hJ.iv) rfl hl.1 (Nat.le_of_ble_eq_true rfl) dL_law_1035 ⟨by omega, by omega⟩) (fun r4 σ4 H locs hq4 hJ => ?_)
                obtain ⟨hr4, hs4⟩ := hq4
                rw [hs4] at hJ
                rw [hr4, show (gP (hourX α) k).2.2.2.2.1 = (nI ag + 1) from by rw [hP2]]
                refine lv_aload S.1 S.2.1 dL_law_1038 (lv_at hl 17 rfl) ?_
                refine lv_iload S.1 S.2.1 dL_law_1040 (lv_at hl 21 rfl) ?_
                refine i_y S hJ 2 rfl (j := k) hk2 (by omega) dL_law_1042 ?_
                rw [show (f3 k) = (nI ag) from v3]
                refine lv_aload_n S.1 S.2.1 dL_law_1043 rfl (lv_at hl 4 rfl) ?_
                refine lv_iload S.1 S.2.1 dL_law_1044 (lv_at hl 21 rfl) ?_
                refine cz_i hJ (rzV (As := [.int (nI k)]) (rest := [.int (nI ag), .int (nI ag + 1)]) S hJ (c_isFrozen l _ (hourX α) hok2 hk2 hn hX2) (cw_L_X3_isFrozen S.2.2.2.2 ⟨by omega, by omega⟩) (rcX hJ.iv) rfl hl.1 (Nat.le_of_ble_eq_true rfl) dL_law_1046 ⟨by omega, by omega⟩) (fun r5 σ5 H locs hq5 hJ => ?_)
                obtain ⟨hr5, hs5⟩ := hq5
                rw [hs5] at hJ
                rw [hr5, show (if (gP (hourX α) k).1 = 2 then (1 : Int32) else 0) = 0 from by rw [hP2]; rfl]
                refine lv_if_eq (tgt := 1056) S.1 S.2.1 dL_law_1049 (by decide) (fun cz_1049 => ?_) (fun c9 => absurd (by decide) c9)
                refine lv_iconst (v := 1) S.1 S.2.1 dL_law_1056 (by decide) ?_
                refine lv_iadd S.1 S.2.1 dL_law_1057 ?_
                refine lv_icmp_ne (tgt := 1104) S.1 S.2.1 dL_law_1058 (by decide) (fun c9 => absurd rfl c9) (fun cz_1058 => ?_)
                refine lv_aload_n S.1 S.2.1 dL_law_1061 rfl (lv_at hl 4 rfl) ?_
                refine lv_iload S.1 S.2.1 dL_law_1062 (lv_at hl 21 rfl) ?_
                refine cz_i hJ (rzV (As := [.int (nI k)]) (rest := []) S hJ (c_isFrozen l _ (hourX α) hok2 hk2 hn hX2) (cw_L_X3_isFrozen S.2.2.2.2 ⟨by omega, by omega⟩) (rcX hJ.iv) rfl hl.1 (Nat.le_of_ble_eq_true rfl) dL_law_1064 ⟨by omega, by omega⟩) (fun r6 σ6 H locs hq6 hJ => ?_)
                obtain ⟨hr6, hs6⟩ := hq6
                rw [hs6] at hJ
                rw [hr6, show (if (gP (hourX α) k).1 = 2 then (1 : Int32) else 0) = 0 from by rw [hP2]; rfl]
                refine lv_if_eq (tgt := 1081) S.1 S.2.1 dL_law_1067 (by decide) (fun cz_1067 => ?_) (fun c9 => absurd (by decide) c9)
                refine lv_aload_n S.1 S.2.1 dL_law_1081 rfl (lv_at hl 4 rfl) ?_
                refine lv_iload S.1 S.2.1 dL_law_1082 (lv_at hl 21 rfl) ?_
                refine cz_i hJ (rzV (As := [.int (nI k)]) (rest := []) S hJ (c_isExpired l _ (hourX α) hok2 hk2 hn hX2) (cw_L_X3_isExpired S.2.2.2.2 ⟨by omega, by omega⟩) (rcX hJ.iv) rfl hl.1 (Nat.le_of_ble_eq_true rfl) dL_law_1084 ⟨by omega, by omega⟩) (fun r7 σ7 H locs hq7 hJ => ?_)
                obtain ⟨hr7, hs7⟩ := hq7
                rw [hs7] at hJ
                rw [hr7, show (if (gP (hourX α) k).1 = 5 then (1 : Int32) else 0) = 0 from by rw [hP2]; rfl]
                refine lv_aload_n S.1 S.2.1 dL_law_1087 rfl (lv_at hl 4 rfl) ?_
                refine lv_iload S.1 S.2.1 dL_law_1088 (lv_at hl 21 rfl) ?_
                refine cz_i hJ (rzV (As := [.int (nI k)]) (rest := [.int 0]) S hJ (c_hoursLeft l _ (hourX α) hk2 hn hX2) (cw_L_X3_hoursLeft S.2.2.2.2 ⟨by omega, by omega⟩) (rcX hJ.iv) rfl hl.1 (Nat.le_of_ble_eq_true rfl) dL_law_1090 ⟨by omega, by omega⟩) (fun r8 σ8 H locs hq8 hJ => ?_)
                obtain ⟨hr8, hs8⟩ := hq8
                rw [hs8] at hJ
                rw [hr8, show (gP (hourX α) k).2.2.2.1 - (gP (hourX α) k).2.2.2.2.1 = nI lf - (nI ag + 1) from by rw [hP2]]
                refine lv_if_ne (tgt := 1100) S.1 S.2.1 dL_law_1093 (by decide) (fun cz_1093 => ?_) (fun c9 => absurd c9 (young_ne c2 hal e5))
                refine lv_iconst (v := 0) S.1 S.2.1 dL_law_1100 (by decide) ?_
                refine lv_icmp_eq (tgt := 1106) S.1 S.2.1 dL_law_1101 (by decide) (fun cz_1101 => ?_) (fun c9 => absurd (by decide) c9)
                refine lv_iinc (v := (nI (k + 1))) (lv' := [(28, .int (nI (k + 1))), (27, .int ((sumN (thF α) k) + 1)), (30, .int ((draw to9 w9) - w9)), (29, .int (to9 - w9)), (0, .ref (gE G 6)), (1, .ref (gB G 0)), (2, .ref q0), (3, .int (nI tt)), (7, .int (nI n)), (13, .int (nI o9)), (14, .int F1), (15, .int F2), (16, .int F3), (18, .int (nI hN)), (19, .int lf9), (20, .int (nI jh)), (21, .ref qa), (22, .ref qb), (23, .ref qc), (24, .ref qd), (25, .ref qe), (26, .int (sumN (xR α) 20))]) S.1 S.2.1 dL_law_1106 hl (k := 21) rfl (nI_1 k) (by decide) rfl (fun ls hl => ?_)
                refine lv_goto (tgt := 861) S.1 S.2.1 dL_law_1109 (by decide) ?_
                exact ih (k + 1) (by omega) _ _ hJ ls (by rw [show sumN (thF α) (k + 1) = ((sumN (thF α) k) + 1) from by rw [sumN_s, hth0]]; exact lv_sub hl [4, 5, 6, 7, 8, 9, 10, 11, 12, 13, 14, 15, 16, 17, 18, 19, 20, 21, 1, 0] rfl)
            · obtain ⟨hA, -⟩ := (hq_f hs5 c1 c2 : hourP to9 (2, sh, mk9, nI lf, nI ag, w9) = _ ∧ _)
              rw [hA] at hP2
              rw [hP2] at hth
              have hth0 : thF α k = 0 := by rw [hth]; exact if_neg (fun q => absurd q.2 (show ¬ (5 : Nat) = 3 by decide))
              rcases hnear with ⟨n1, n2⟩ | ⟨n1, n2, n3⟩ | ⟨n1, n2, n3⟩
              · refine lv_iload S.1 S.2.1 dL_law_861 (lv_at hl 19 rfl) ?_
                refine lv_iload S.1 S.2.1 dL_law_863 (lv_at hl 4 rfl) ?_
                refine lv_icmp_ge (tgt := 1112) S.1 S.2.1 dL_law_865 (by decide) (fun c9 => absurd c9 (nI_ge hk2 (by omega))) (fun cz_865 => ?_)
                refine lv_aload S.1 S.2.1 dL_law_868 (lv_at hl 15 rfl) ?_
                refine lv_iload S.1 S.2.1 dL_law_870 (lv_at hl 19 rfl) ?_
                refine i_y S hJ 3 rfl (j := k) hk2 (by omega) dL_law_872 ?_
                rw [show (f4 k) = (nI sh) from v4]
                refine lv_if_ge (tgt := 915) S.1 S.2.1 dL_law_873 (by decide) (fun cz_873 => ?_) (fun c9 => absurd (Int32.not_lt.mp (nI_pos (by omega))) c9)
                refine lv_aload_n S.1 S.2.1 dL_law_915 rfl (lv_at hl 1 rfl) ?_
                refine lv_aload S.1 S.2.1 dL_law_916 (lv_at hl 15 rfl) ?_
                refine lv_iload S.1 S.2.1 dL_law_918 (lv_at hl 19 rfl) ?_
                refine i_y S hJ 3 rfl (j := k) hk2 (by omega) dL_law_920 ?_
                rw [show (f4 k) = (nI sh) from v4]
                refine cz_i hJ (rzV (As := [.int (nI sh)]) (rest := []) S hJ (c_heatOn l _ (hourX α) hs5) (cw_L_X3_heatOn S.2.2.2.2 ⟨by omega, by omega⟩) (rcX hJ.iv) rfl hl.1 (Nat.le_of_ble_eq_true rfl) dL_law_921 ⟨by omega, by omega⟩) (fun r1 σ1 H locs hq1 hJ => ?_)
                obtain ⟨hr1, hs1⟩ := hq1
                rw [hs1] at hJ
                rw [hr1, hSt]
                refine lv_aload S.1 S.2.1 dL_law_924 (lv_at hl 13 rfl) ?_
                refine lv_iload S.1 S.2.1 dL_law_926 (lv_at hl 19 rfl) ?_
                refine i_y S hJ 1 rfl (j := k) hk2 (by omega) dL_law_928 ?_
                rw [show (f2 k) = w9 from v2]
                refine lv_isub S.1 S.2.1 dL_law_929 ?_
                refine lv_istore (lv' := [(29, .int (to9 - w9)), (0, .ref (gE G 6)), (1, .ref (gB G 0)), (2, .ref q0), (3, .int (nI tt)), (7, .int (nI n)), (13, .int (nI o9)), (14, .int F1), (15, .int F2), (16, .int F3), (18, .int (nI hN)), (19, .int lf9), (20, .int (nI jh)), (21, .ref qa), (22, .ref qb), (23, .ref qc), (24, .ref qd), (25, .ref qe), (26, .int (sumN (xR α) 20)), (27, .int (sumN (thF α) k)), (28, .int (nI k))]) S.1 S.2.1 dL_law_930 hl (by decide) rfl (fun ls hl => ?_)
                refine lv_aload_n S.1 S.2.1 dL_law_932 rfl (lv_at hl 2 rfl) ?_
                refine lv_iload S.1 S.2.1 dL_law_933 (lv_at hl 20 rfl) ?_
                refine cz_i hJ (rzV (As := [.int (nI k)]) (rest := []) S hJ (c_heatOf l _ (hourX α) hk2 hn hX2) (cw_L_X3_heatOf S.2.2.2.2 ⟨by omega, by omega⟩) (rcX hJ.iv) rfl hl.1 (Nat.le_of_ble_eq_true rfl) dL_law_935 ⟨by omega, by omega⟩) (fun r2 σ2 H locs hq2 hJ => ?_)
                obtain ⟨hr2, hs2⟩ := hq2
                rw [hs2] at hJ
                rw [hr2, show (gP (hourX α) k).2.2.2.2.2 = (draw to9 w9) from by rw [hP2]]
                refine lv_aload S.1 S.2.1 dL_law_938 (lv_at hl 14 rfl) ?_
                refine lv_iload S.1 S.2.1 dL_law_940 (lv_at hl 20 rfl) ?_
                refine i_y S hJ 1 rfl (j := k) hk2 (by omega) dL_law_942 ?_
                rw [show (f2 k) = w9 from v2]
                refine lv_isub S.1 S.2.1 dL_law_943 ?_
                refine lv_istore (lv' := [(30, .int ((draw to9 w9) - w9)), (29, .int (to9 - w9)), (0, .ref (gE G 6)), (1, .ref (gB G 0)), (2, .ref q0), (3, .int (nI tt)), (7, .int (nI n)), (13, .int (nI o9)), (14, .int F1), (15, .int F2), (16, .int F3), (18, .int (nI hN)), (19, .int lf9), (20, .int (nI jh)), (21, .ref qa), (22, .ref qb), (23, .ref qc), (24, .ref qd), (25, .ref qe), (26, .int (sumN (xR α) 20)), (27, .int (sumN (thF α) k)), (28, .int (nI k))]) S.1 S.2.1 dL_law_944 hl (by decide) rfl (fun ls hl => ?_)
                refine lv_iload S.1 S.2.1 dL_law_946 (lv_at hl 20 rfl) ?_
                refine lv_aload S.1 S.2.1 dL_law_948 (lv_at hl 18 rfl) ?_
                refine lv_iload S.1 S.2.1 dL_law_950 (lv_at hl 21 rfl) ?_
                refine i_yz S hJ 4 rfl (j := k) hk2 (by omega) dL_law_952 ?_
                rw [show (f5 k) = 1 from v5]
                refine lv_if_eq (tgt := 969) S.1 S.2.1 dL_law_953 (by decide) (fun c9 => absurd c9 (by decide)) (fun cz_953 => ?_)
                refine lv_aload_n S.1 S.2.1 dL_law_956 rfl (lv_at hl 3 rfl) ?_
                refine lv_iload S.1 S.2.1 dL_law_957 (lv_at hl 21 rfl) ?_
                refine cz_i hJ (rzV (As := [.int (nI k)]) (rest := [.int (sumN (thF α) k)]) S hJ (c_isThawed l _ (hourX α) hok2 hk2 hn hX2) (cw_L_X3_isThawed S.2.2.2.2 ⟨by omega, by omega⟩) (rcX hJ.iv) rfl hl.1 (Nat.le_of_ble_eq_true rfl) dL_law_959 ⟨by omega, by omega⟩) (fun r3 σ3 H locs hq3 hJ => ?_)
                obtain ⟨hr3, hs3⟩ := hq3
                rw [hs3] at hJ
                rw [hr3, show (if (gP (hourX α) k).1 = 3 then (1 : Int32) else 0) = 0 from by rw [hP2]; rfl]
                refine lv_if_eq (tgt := 969) S.1 S.2.1 dL_law_962 (by decide) (fun cz_962 => ?_) (fun c9 => absurd (by decide) c9)
                refine lv_iconst (v := 0) S.1 S.2.1 dL_law_969 (by decide) ?_
                refine lv_iadd S.1 S.2.1 dL_law_970 ?_
                refine lv_istore (lv' := [(27, .int ((sumN (thF α) k) + 0)), (30, .int ((draw to9 w9) - w9)), (29, .int (to9 - w9)), (0, .ref (gE G 6)), (1, .ref (gB G 0)), (2, .ref q0), (3, .int (nI tt)), (7, .int (nI n)), (13, .int (nI o9)), (14, .int F1), (15, .int F2), (16, .int F3), (18, .int (nI hN)), (19, .int lf9), (20, .int (nI jh)), (21, .ref qa), (22, .ref qb), (23, .ref qc), (24, .ref qd), (25, .ref qe), (26, .int (sumN (xR α) 20)), (28, .int (nI k))]) S.1 S.2.1 dL_law_971 hl (by decide) rfl (fun ls hl => ?_)
                refine lv_iload S.1 S.2.1 dL_law_973 (lv_at hl 2 rfl) ?_
                refine lv_if_ne (tgt := 982) S.1 S.2.1 dL_law_975 (by decide) (fun c9 => absurd n1 c9) (fun cz_975 => ?_)
                refine lv_iconst (v := 1) S.1 S.2.1 dL_law_978 (by decide) ?_
                refine lv_goto (tgt := 983) S.1 S.2.1 dL_law_979 (by decide) ?_
                refine lv_iload S.1 S.2.1 dL_law_983 (lv_at hl 1 rfl) ?_
                refine lv_if_ne (tgt := 992) S.1 S.2.1 dL_law_985 (by decide) (fun c9 => absurd n2 c9) (fun cz_985 => ?_)
                refine lv_iconst (v := 1) S.1 S.2.1 dL_law_988 (by decide) ?_
                refine lv_goto (tgt := 993) S.1 S.2.1 dL_law_989 (by decide) ?_
                refine lv_icmp_ne (tgt := 1104) S.1 S.2.1 dL_law_993 (by decide) (fun c9 => absurd (by decide) c9) (fun cz_993 => ?_)
                refine lv_iload S.1 S.2.1 dL_law_996 (lv_at hl 2 rfl) ?_
                refine lv_if_le (tgt := 1014) S.1 S.2.1 dL_law_998 (by decide) (fun cz_998 => ?_) (fun c9 => absurd (by rw [n1]; exact Int32.le_refl 0) c9)
                refine lv_iload S.1 S.2.1 dL_law_1014 (lv_at hl 2 rfl) ?_
                refine lv_if_ge (tgt := 1032) S.1 S.2.1 dL_law_1016 (by decide) (fun cz_1016 => ?_) (fun c9 => absurd (by rw [n1]; exact Int32.le_refl 0) c9)
                refine lv_aload_n S.1 S.2.1 dL_law_1032 rfl (lv_at hl 4 rfl) ?_
                refine lv_iload S.1 S.2.1 dL_law_1033 (lv_at hl 21 rfl) ?_
                refine cz_i hJ (rzV (As := [.int (nI k)]) (rest := []) S hJ (c_ageOf l _ (hourX α) hk2 hn hX2) (cw_L_X3_ageOf S.2.2.2.2 ⟨by omega, by omega⟩) (rcX hJ.iv) rfl hl.1 (Nat.le_of_ble_eq_true rfl) dL_law_1035 ⟨by omega, by omega⟩) (fun r4 σ4 H locs hq4 hJ => ?_)
                obtain ⟨hr4, hs4⟩ := hq4
                rw [hs4] at hJ
                rw [hr4, show (gP (hourX α) k).2.2.2.2.1 = (nI ag + 1) from by rw [hP2]]
                refine lv_aload S.1 S.2.1 dL_law_1038 (lv_at hl 17 rfl) ?_
                refine lv_iload S.1 S.2.1 dL_law_1040 (lv_at hl 21 rfl) ?_
                refine i_y S hJ 2 rfl (j := k) hk2 (by omega) dL_law_1042 ?_
                rw [show (f3 k) = (nI ag) from v3]
                refine lv_aload_n S.1 S.2.1 dL_law_1043 rfl (lv_at hl 4 rfl) ?_
                refine lv_iload S.1 S.2.1 dL_law_1044 (lv_at hl 21 rfl) ?_
                refine cz_i hJ (rzV (As := [.int (nI k)]) (rest := [.int (nI ag), .int (nI ag + 1)]) S hJ (c_isFrozen l _ (hourX α) hok2 hk2 hn hX2) (cw_L_X3_isFrozen S.2.2.2.2 ⟨by omega, by omega⟩) (rcX hJ.iv) rfl hl.1 (Nat.le_of_ble_eq_true rfl) dL_law_1046 ⟨by omega, by omega⟩) (fun r5 σ5 H locs hq5 hJ => ?_)
                obtain ⟨hr5, hs5⟩ := hq5
                rw [hs5] at hJ
                rw [hr5, show (if (gP (hourX α) k).1 = 2 then (1 : Int32) else 0) = 0 from by rw [hP2]; rfl]
                refine lv_if_eq (tgt := 1056) S.1 S.2.1 dL_law_1049 (by decide) (fun cz_1049 => ?_) (fun c9 => absurd (by decide) c9)
                refine lv_iconst (v := 1) S.1 S.2.1 dL_law_1056 (by decide) ?_
                refine lv_iadd S.1 S.2.1 dL_law_1057 ?_
                refine lv_icmp_ne (tgt := 1104) S.1 S.2.1 dL_law_1058 (by decide) (fun c9 => absurd rfl c9) (fun cz_1058 => ?_)
                refine lv_aload_n S.1 S.2.1 dL_law_1061 rfl (lv_at hl 4 rfl) ?_
                refine lv_iload S.1 S.2.1 dL_law_1062 (lv_at hl 21 rfl) ?_
                refine cz_i hJ (rzV (As := [.int (nI k)]) (rest := []) S hJ (c_isFrozen l _ (hourX α) hok2 hk2 hn hX2) (cw_L_X3_isFrozen S.2.2.2.2 ⟨by omega, by omega⟩) (rcX hJ.iv) rfl hl.1 (Nat.le_of_ble_eq_true rfl) dL_law_1064 ⟨by omega, by omega⟩) (fun r6 σ6 H locs hq6 hJ => ?_)
                obtain ⟨hr6, hs6⟩ := hq6
                rw [hs6] at hJ
                rw [hr6, show (if (gP (hourX α) k).1 = 2 then (1 : Int32) else 0) = 0 from by rw [hP2]; rfl]
                refine lv_if_eq (tgt := 1081) S.1 S.2.1 dL_law_1067 (by decide) (fun cz_1067 => ?_) (fun c9 => absurd (by decide) c9)
                refine lv_aload_n S.1 S.2.1 dL_law_1081 rfl (lv_at hl 4 rfl) ?_
                refine lv_iload S.1 S.2.1 dL_law_1082 (lv_at hl 21 rfl) ?_
                refine cz_i hJ (rzV (As := [.int (nI k)]) (rest := []) S hJ (c_isExpired l _ (hourX α) hok2 hk2 hn hX2) (cw_L_X3_isExpired S.2.2.2.2 ⟨by omega, by omega⟩) (rcX hJ.iv) rfl hl.1 (Nat.le_of_ble_eq_true rfl) dL_law_1084 ⟨by omega, by omega⟩) (fun r7 σ7 H locs hq7 hJ => ?_)
                obtain ⟨hr7, hs7⟩ := hq7
                rw [hs7] at hJ
                rw [hr7, show (if (gP (hourX α) k).1 = 5 then (1 : Int32) else 0) = 1 from by rw [hP2]; rfl]
                refine lv_aload_n S.1 S.2.1 dL_law_1087 rfl (lv_at hl 4 rfl) ?_
                refine lv_iload S.1 S.2.1 dL_law_1088 (lv_at hl 21 rfl) ?_
                refine cz_i hJ (rzV (As := [.int (nI k)]) (rest := [.int 1]) S hJ (c_hoursLeft l _ (hourX α) hk2 hn hX2) (cw_L_X3_hoursLeft S.2.2.2.2 ⟨by omega, by omega⟩) (rcX hJ.iv) rfl hl.1 (Nat.le_of_ble_eq_true rfl) dL_law_1090 ⟨by omega, by omega⟩) (fun r8 σ8 H locs hq8 hJ => ?_)
                obtain ⟨hr8, hs8⟩ := hq8
                rw [hs8] at hJ
                rw [hr8, show (gP (hourX α) k).2.2.2.1 - (gP (hourX α) k).2.2.2.2.1 = nI lf - (nI ag + 1) from by rw [hP2]]
                refine lv_if_ne (tgt := 1100) S.1 S.2.1 dL_law_1093 (by decide) (fun c9 => absurd (old_0 c2 hal e5) c9) (fun cz_1093 => ?_)
                refine lv_iconst (v := 1) S.1 S.2.1 dL_law_1096 (by decide) ?_
                refine lv_goto (tgt := 1101) S.1 S.2.1 dL_law_1097 (by decide) ?_
                refine lv_icmp_eq (tgt := 1106) S.1 S.2.1 dL_law_1101 (by decide) (fun cz_1101 => ?_) (fun c9 => absurd (by decide) c9)
                refine lv_iinc (v := (nI (k + 1))) (lv' := [(28, .int (nI (k + 1))), (27, .int ((sumN (thF α) k) + 0)), (30, .int ((draw to9 w9) - w9)), (29, .int (to9 - w9)), (0, .ref (gE G 6)), (1, .ref (gB G 0)), (2, .ref q0), (3, .int (nI tt)), (7, .int (nI n)), (13, .int (nI o9)), (14, .int F1), (15, .int F2), (16, .int F3), (18, .int (nI hN)), (19, .int lf9), (20, .int (nI jh)), (21, .ref qa), (22, .ref qb), (23, .ref qc), (24, .ref qd), (25, .ref qe), (26, .int (sumN (xR α) 20))]) S.1 S.2.1 dL_law_1106 hl (k := 21) rfl (nI_1 k) (by decide) rfl (fun ls hl => ?_)
                refine lv_goto (tgt := 861) S.1 S.2.1 dL_law_1109 (by decide) ?_
                exact ih (k + 1) (by omega) _ _ hJ ls (by rw [show sumN (thF α) (k + 1) = ((sumN (thF α) k) + 0) from by rw [sumN_s, hth0]]; exact lv_sub hl [4, 5, 6, 7, 8, 9, 10, 11, 12, 13, 14, 15, 16, 17, 18, 19, 20, 21, 1, 0] rfl)
              · refine lv_iload S.1 S.2.1 dL_law_861 (lv_at hl 19 rfl) ?_
                refine lv_iload S.1 S.2.1 dL_law_863 (lv_at hl 4 rfl) ?_
                refine lv_icmp_ge (tgt := 1112) S.1 S.2.1 dL_law_865 (by decide) (fun c9 => absurd c9 (nI_ge hk2 (by omega))) (fun cz_865 => ?_)
                refine lv_aload S.1 S.2.1 dL_law_868 (lv_at hl 15 rfl) ?_
                refine lv_iload S.1 S.2.1 dL_law_870 (lv_at hl 19 rfl) ?_
                refine i_y S hJ 3 rfl (j := k) hk2 (by omega) dL_law_872 ?_
                rw [show (f4 k) = (nI sh) from v4]
                refine lv_if_ge (tgt := 915) S.1 S.2.1 dL_law_873 (by decide) (fun cz_873 => ?_) (fun c9 => absurd (Int32.not_lt.mp (nI_pos (by omega))) c9)
                refine lv_aload_n S.1 S.2.1 dL_law_915 rfl (lv_at hl 1 rfl) ?_
                refine lv_aload S.1 S.2.1 dL_law_916 (lv_at hl 15 rfl) ?_
                refine lv_iload S.1 S.2.1 dL_law_918 (lv_at hl 19 rfl) ?_
                refine i_y S hJ 3 rfl (j := k) hk2 (by omega) dL_law_920 ?_
                rw [show (f4 k) = (nI sh) from v4]
                refine cz_i hJ (rzV (As := [.int (nI sh)]) (rest := []) S hJ (c_heatOn l _ (hourX α) hs5) (cw_L_X3_heatOn S.2.2.2.2 ⟨by omega, by omega⟩) (rcX hJ.iv) rfl hl.1 (Nat.le_of_ble_eq_true rfl) dL_law_921 ⟨by omega, by omega⟩) (fun r1 σ1 H locs hq1 hJ => ?_)
                obtain ⟨hr1, hs1⟩ := hq1
                rw [hs1] at hJ
                rw [hr1, hSt]
                refine lv_aload S.1 S.2.1 dL_law_924 (lv_at hl 13 rfl) ?_
                refine lv_iload S.1 S.2.1 dL_law_926 (lv_at hl 19 rfl) ?_
                refine i_y S hJ 1 rfl (j := k) hk2 (by omega) dL_law_928 ?_
                rw [show (f2 k) = w9 from v2]
                refine lv_isub S.1 S.2.1 dL_law_929 ?_
                refine lv_istore (lv' := [(29, .int (to9 - w9)), (0, .ref (gE G 6)), (1, .ref (gB G 0)), (2, .ref q0), (3, .int (nI tt)), (7, .int (nI n)), (13, .int (nI o9)), (14, .int F1), (15, .int F2), (16, .int F3), (18, .int (nI hN)), (19, .int lf9), (20, .int (nI jh)), (21, .ref qa), (22, .ref qb), (23, .ref qc), (24, .ref qd), (25, .ref qe), (26, .int (sumN (xR α) 20)), (27, .int (sumN (thF α) k)), (28, .int (nI k))]) S.1 S.2.1 dL_law_930 hl (by decide) rfl (fun ls hl => ?_)
                refine lv_aload_n S.1 S.2.1 dL_law_932 rfl (lv_at hl 2 rfl) ?_
                refine lv_iload S.1 S.2.1 dL_law_933 (lv_at hl 20 rfl) ?_
                refine cz_i hJ (rzV (As := [.int (nI k)]) (rest := []) S hJ (c_heatOf l _ (hourX α) hk2 hn hX2) (cw_L_X3_heatOf S.2.2.2.2 ⟨by omega, by omega⟩) (rcX hJ.iv) rfl hl.1 (Nat.le_of_ble_eq_true rfl) dL_law_935 ⟨by omega, by omega⟩) (fun r2 σ2 H locs hq2 hJ => ?_)
                obtain ⟨hr2, hs2⟩ := hq2
                rw [hs2] at hJ
                rw [hr2, show (gP (hourX α) k).2.2.2.2.2 = (draw to9 w9) from by rw [hP2]]
                refine lv_aload S.1 S.2.1 dL_law_938 (lv_at hl 14 rfl) ?_
                refine lv_iload S.1 S.2.1 dL_law_940 (lv_at hl 20 rfl) ?_
                refine i_y S hJ 1 rfl (j := k) hk2 (by omega) dL_law_942 ?_
                rw [show (f2 k) = w9 from v2]
                refine lv_isub S.1 S.2.1 dL_law_943 ?_
                refine lv_istore (lv' := [(30, .int ((draw to9 w9) - w9)), (29, .int (to9 - w9)), (0, .ref (gE G 6)), (1, .ref (gB G 0)), (2, .ref q0), (3, .int (nI tt)), (7, .int (nI n)), (13, .int (nI o9)), (14, .int F1), (15, .int F2), (16, .int F3), (18, .int (nI hN)), (19, .int lf9), (20, .int (nI jh)), (21, .ref qa), (22, .ref qb), (23, .ref qc), (24, .ref qd), (25, .ref qe), (26, .int (sumN (xR α) 20)), (27, .int (sumN (thF α) k)), (28, .int (nI k))]) S.1 S.2.1 dL_law_944 hl (by decide) rfl (fun ls hl => ?_)
                refine lv_iload S.1 S.2.1 dL_law_946 (lv_at hl 20 rfl) ?_
                refine lv_aload S.1 S.2.1 dL_law_948 (lv_at hl 18 rfl) ?_
                refine lv_iload S.1 S.2.1 dL_law_950 (lv_at hl 21 rfl) ?_
                refine i_yz S hJ 4 rfl (j := k) hk2 (by omega) dL_law_952 ?_
                rw [show (f5 k) = 1 from v5]
                refine lv_if_eq (tgt := 969) S.1 S.2.1 dL_law_953 (by decide) (fun c9 => absurd c9 (by decide)) (fun cz_953 => ?_)
                refine lv_aload_n S.1 S.2.1 dL_law_956 rfl (lv_at hl 3 rfl) ?_
                refine lv_iload S.1 S.2.1 dL_law_957 (lv_at hl 21 rfl) ?_
                refine cz_i hJ (rzV (As := [.int (nI k)]) (rest := [.int (sumN (thF α) k)]) S hJ (c_isThawed l _ (hourX α) hok2 hk2 hn hX2) (cw_L_X3_isThawed S.2.2.2.2 ⟨by omega, by omega⟩) (rcX hJ.iv) rfl hl.1 (Nat.le_of_ble_eq_true rfl) dL_law_959 ⟨by omega, by omega⟩) (fun r3 σ3 H locs hq3 hJ => ?_)
                obtain ⟨hr3, hs3⟩ := hq3
                rw [hs3] at hJ
                rw [hr3, show (if (gP (hourX α) k).1 = 3 then (1 : Int32) else 0) = 0 from by rw [hP2]; rfl]
                refine lv_if_eq (tgt := 969) S.1 S.2.1 dL_law_962 (by decide) (fun cz_962 => ?_) (fun c9 => absurd (by decide) c9)
                refine lv_iconst (v := 0) S.1 S.2.1 dL_law_969 (by decide) ?_
                refine lv_iadd S.1 S.2.1 dL_law_970 ?_
                refine lv_istore (lv' := [(27, .int ((sumN (thF α) k) + 0)), (30, .int ((draw to9 w9) - w9)), (29, .int (to9 - w9)), (0, .ref (gE G 6)), (1, .ref (gB G 0)), (2, .ref q0), (3, .int (nI tt)), (7, .int (nI n)), (13, .int (nI o9)), (14, .int F1), (15, .int F2), (16, .int F3), (18, .int (nI hN)), (19, .int lf9), (20, .int (nI jh)), (21, .ref qa), (22, .ref qb), (23, .ref qc), (24, .ref qd), (25, .ref qe), (26, .int (sumN (xR α) 20)), (28, .int (nI k))]) S.1 S.2.1 dL_law_971 hl (by decide) rfl (fun ls hl => ?_)
                refine lv_iload S.1 S.2.1 dL_law_973 (lv_at hl 2 rfl) ?_
                refine lv_if_ne (tgt := 982) S.1 S.2.1 dL_law_975 (by decide) (fun cz_975 => ?_) (fun c9 => absurd c9 (pos_ne n1))
                refine lv_iconst (v := 0) S.1 S.2.1 dL_law_982 (by decide) ?_
                refine lv_iload S.1 S.2.1 dL_law_983 (lv_at hl 1 rfl) ?_
                refine lv_if_ne (tgt := 992) S.1 S.2.1 dL_law_985 (by decide) (fun cz_985 => ?_) (fun c9 => absurd c9 (one_ne n2))
                refine lv_iconst (v := 0) S.1 S.2.1 dL_law_992 (by decide) ?_
                refine lv_icmp_ne (tgt := 1104) S.1 S.2.1 dL_law_993 (by decide) (fun c9 => absurd (by decide) c9) (fun cz_993 => ?_)
                refine lv_iload S.1 S.2.1 dL_law_996 (lv_at hl 2 rfl) ?_
                refine lv_if_le (tgt := 1014) S.1 S.2.1 dL_law_998 (by decide) (fun c9 => absurd c9 (Int32.not_le.mpr n1)) (fun cz_998 => ?_)
                refine lv_iload S.1 S.2.1 dL_law_1001 (lv_at hl 1 rfl) ?_
                refine lv_iconst (v := 1) S.1 S.2.1 dL_law_1003 (by decide) ?_
                refine lv_icmp_lt (tgt := 1104) S.1 S.2.1 dL_law_1004 (by decide) (fun c9 => absurd c9 (Int32.not_lt.mpr n2)) (fun cz_1004 => ?_)
                refine lv_iload S.1 S.2.1 dL_law_1007 (lv_at hl 1 rfl) ?_
                refine lv_iload S.1 S.2.1 dL_law_1009 (lv_at hl 2 rfl) ?_
                refine lv_icmp_gt (tgt := 1104) S.1 S.2.1 dL_law_1011 (by decide) (fun c9 => absurd c9 (Int32.not_lt.mpr n3)) (fun cz_1011 => ?_)
                refine lv_iload S.1 S.2.1 dL_law_1014 (lv_at hl 2 rfl) ?_
                refine lv_if_ge (tgt := 1032) S.1 S.2.1 dL_law_1016 (by decide) (fun cz_1016 => ?_) (fun c9 => absurd (Int32.le_of_lt n1) c9)
                refine lv_aload_n S.1 S.2.1 dL_law_1032 rfl (lv_at hl 4 rfl) ?_
                refine lv_iload S.1 S.2.1 dL_law_1033 (lv_at hl 21 rfl) ?_
                refine cz_i hJ (rzV (As := [.int (nI k)]) (rest := []) S hJ (c_ageOf l _ (hourX α) hk2 hn hX2) (cw_L_X3_ageOf S.2.2.2.2 ⟨by omega, by omega⟩) (rcX hJ.iv) rfl hl.1 (Nat.le_of_ble_eq_true rfl) dL_law_1035 ⟨by omega, by omega⟩) (fun r4 σ4 H locs hq4 hJ => ?_)
                obtain ⟨hr4, hs4⟩ := hq4
                rw [hs4] at hJ
                rw [hr4, show (gP (hourX α) k).2.2.2.2.1 = (nI ag + 1) from by rw [hP2]]
                refine lv_aload S.1 S.2.1 dL_law_1038 (lv_at hl 17 rfl) ?_
                refine lv_iload S.1 S.2.1 dL_law_1040 (lv_at hl 21 rfl) ?_
                refine i_y S hJ 2 rfl (j := k) hk2 (by omega) dL_law_1042 ?_
                rw [show (f3 k) = (nI ag) from v3]
                refine lv_aload_n S.1 S.2.1 dL_law_1043 rfl (lv_at hl 4 rfl) ?_
                refine lv_iload S.1 S.2.1 dL_law_1044 (lv_at hl 21 rfl) ?_
                refine cz_i hJ (rzV (As := [.int (nI k)]) (rest := [.int (nI ag), .int (nI ag + 1)]) S hJ (c_isFrozen l _ (hourX α) hok2 hk2 hn hX2) (cw_L_X3_isFrozen S.2.2.2.2 ⟨by omega, by omega⟩) (rcX hJ.iv) rfl hl.1 (Nat.le_of_ble_eq_true rfl) dL_law_1046 ⟨by omega, by omega⟩) (fun r5 σ5 H locs hq5 hJ => ?_)
                obtain ⟨hr5, hs5⟩ := hq5
                rw [hs5] at hJ
                rw [hr5, show (if (gP (hourX α) k).1 = 2 then (1 : Int32) else 0) = 0 from by rw [hP2]; rfl]
                refine lv_if_eq (tgt := 1056) S.1 S.2.1 dL_law_1049 (by decide) (fun cz_1049 => ?_) (fun c9 => absurd (by decide) c9)
                refine lv_iconst (v := 1) S.1 S.2.1 dL_law_1056 (by decide) ?_
                refine lv_iadd S.1 S.2.1 dL_law_1057 ?_
                refine lv_icmp_ne (tgt := 1104) S.1 S.2.1 dL_law_1058 (by decide) (fun c9 => absurd rfl c9) (fun cz_1058 => ?_)
                refine lv_aload_n S.1 S.2.1 dL_law_1061 rfl (lv_at hl 4 rfl) ?_
                refine lv_iload S.1 S.2.1 dL_law_1062 (lv_at hl 21 rfl) ?_
                refine cz_i hJ (rzV (As := [.int (nI k)]) (rest := []) S hJ (c_isFrozen l _ (hourX α) hok2 hk2 hn hX2) (cw_L_X3_isFrozen S.2.2.2.2 ⟨by omega, by omega⟩) (rcX hJ.iv) rfl hl.1 (Nat.le_of_ble_eq_true rfl) dL_law_1064 ⟨by omega, by omega⟩) (fun r6 σ6 H locs hq6 hJ => ?_)
                obtain ⟨hr6, hs6⟩ := hq6
                rw [hs6] at hJ
                rw [hr6, show (if (gP (hourX α) k).1 = 2 then (1 : Int32) else 0) = 0 from by rw [hP2]; rfl]
                refine lv_if_eq (tgt := 1081) S.1 S.2.1 dL_law_1067 (by decide) (fun cz_1067 => ?_) (fun c9 => absurd (by decide) c9)
                refine lv_aload_n S.1 S.2.1 dL_law_1081 rfl (lv_at hl 4 rfl) ?_
                refine lv_iload S.1 S.2.1 dL_law_1082 (lv_at hl 21 rfl) ?_
                refine cz_i hJ (rzV (As := [.int (nI k)]) (rest := []) S hJ (c_isExpired l _ (hourX α) hok2 hk2 hn hX2) (cw_L_X3_isExpired S.2.2.2.2 ⟨by omega, by omega⟩) (rcX hJ.iv) rfl hl.1 (Nat.le_of_ble_eq_true rfl) dL_law_1084 ⟨by omega, by omega⟩) (fun r7 σ7 H locs hq7 hJ => ?_)
                obtain ⟨hr7, hs7⟩ := hq7
                rw [hs7] at hJ
                rw [hr7, show (if (gP (hourX α) k).1 = 5 then (1 : Int32) else 0) = 1 from by rw [hP2]; rfl]
                refine lv_aload_n S.1 S.2.1 dL_law_1087 rfl (lv_at hl 4 rfl) ?_
                refine lv_iload S.1 S.2.1 dL_law_1088 (lv_at hl 21 rfl) ?_
                refine cz_i hJ (rzV (As := [.int (nI k)]) (rest := [.int 1]) S hJ (c_hoursLeft l _ (hourX α) hk2 hn hX2) (cw_L_X3_hoursLeft S.2.2.2.2 ⟨by omega, by omega⟩) (rcX hJ.iv) rfl hl.1 (Nat.le_of_ble_eq_true rfl) dL_law_1090 ⟨by omega, by omega⟩) (fun r8 σ8 H locs hq8 hJ => ?_)
                obtain ⟨hr8, hs8⟩ := hq8
                rw [hs8] at hJ
                rw [hr8, show (gP (hourX α) k).2.2.2.1 - (gP (hourX α) k).2.2.2.2.1 = nI lf - (nI ag + 1) from by rw [hP2]]
                refine lv_if_ne (tgt := 1100) S.1 S.2.1 dL_law_1093 (by decide) (fun c9 => absurd (old_0 c2 hal e5) c9) (fun cz_1093 => ?_)
                refine lv_iconst (v := 1) S.1 S.2.1 dL_law_1096 (by decide) ?_
                refine lv_goto (tgt := 1101) S.1 S.2.1 dL_law_1097 (by decide) ?_
                refine lv_icmp_eq (tgt := 1106) S.1 S.2.1 dL_law_1101 (by decide) (fun cz_1101 => ?_) (fun c9 => absurd (by decide) c9)
                refine lv_iinc (v := (nI (k + 1))) (lv' := [(28, .int (nI (k + 1))), (27, .int ((sumN (thF α) k) + 0)), (30, .int ((draw to9 w9) - w9)), (29, .int (to9 - w9)), (0, .ref (gE G 6)), (1, .ref (gB G 0)), (2, .ref q0), (3, .int (nI tt)), (7, .int (nI n)), (13, .int (nI o9)), (14, .int F1), (15, .int F2), (16, .int F3), (18, .int (nI hN)), (19, .int lf9), (20, .int (nI jh)), (21, .ref qa), (22, .ref qb), (23, .ref qc), (24, .ref qd), (25, .ref qe), (26, .int (sumN (xR α) 20))]) S.1 S.2.1 dL_law_1106 hl (k := 21) rfl (nI_1 k) (by decide) rfl (fun ls hl => ?_)
                refine lv_goto (tgt := 861) S.1 S.2.1 dL_law_1109 (by decide) ?_
                exact ih (k + 1) (by omega) _ _ hJ ls (by rw [show sumN (thF α) (k + 1) = ((sumN (thF α) k) + 0) from by rw [sumN_s, hth0]]; exact lv_sub hl [4, 5, 6, 7, 8, 9, 10, 11, 12, 13, 14, 15, 16, 17, 18, 19, 20, 21, 1, 0] rfl)
              · refine lv_iload S.1 S.2.1 dL_law_861 (lv_at hl 19 rfl) ?_
                refine lv_iload S.1 S.2.1 dL_law_863 (lv_at hl 4 rfl) ?_
                refine lv_icmp_ge (tgt := 1112) S.1 S.2.1 dL_law_865 (by decide) (fun c9 => absurd c9 (nI_ge hk2 (by omega))) (fun cz_865 => ?_)
                refine lv_aload S.1 S.2.1 dL_law_868 (lv_at hl 15 rfl) ?_
                refine lv_iload S.1 S.2.1 dL_law_870 (lv_at hl 19 rfl) ?_
                refine i_y S hJ 3 rfl (j := k) hk2 (by omega) dL_law_872 ?_
                rw [show (f4 k) = (nI sh) from v4]
                refine lv_if_ge (tgt := 915) S.1 S.2.1 dL_law_873 (by decide) (fun cz_873 => ?_) (fun c9 => absurd (Int32.not_lt.mp (nI_pos (by omega))) c9)
                refine lv_aload_n S.1 S.2.1 dL_law_915 rfl (lv_at hl 1 rfl) ?_
                refine lv_aload S.1 S.2.1 dL_law_916 (lv_at hl 15 rfl) ?_
                refine lv_iload S.1 S.2.1 dL_law_918 (lv_at hl 19 rfl) ?_
                refine i_y S hJ 3 rfl (j := k) hk2 (by omega) dL_law_920 ?_
                rw [show (f4 k) = (nI sh) from v4]
                refine cz_i hJ (rzV (As := [.int (nI sh)]) (rest := []) S hJ (c_heatOn l _ (hourX α) hs5) (cw_L_X3_heatOn S.2.2.2.2 ⟨by omega, by omega⟩) (rcX hJ.iv) rfl hl.1 (Nat.le_of_ble_eq_true rfl) dL_law_921 ⟨by omega, by omega⟩) (fun r1 σ1 H locs hq1 hJ => ?_)
                obtain ⟨hr1, hs1⟩ := hq1
                rw [hs1] at hJ
                rw [hr1, hSt]
                refine lv_aload S.1 S.2.1 dL_law_924 (lv_at hl 13 rfl) ?_
                refine lv_iload S.1 S.2.1 dL_law_926 (lv_at hl 19 rfl) ?_
                refine i_y S hJ 1 rfl (j := k) hk2 (by omega) dL_law_928 ?_
                rw [show (f2 k) = w9 from v2]
                refine lv_isub S.1 S.2.1 dL_law_929 ?_
                refine lv_istore (lv' := [(29, .int (to9 - w9)), (0, .ref (gE G 6)), (1, .ref (gB G 0)), (2, .ref q0), (3, .int (nI tt)), (7, .int (nI n)), (13, .int (nI o9)), (14, .int F1), (15, .int F2), (16, .int F3), (18, .int (nI hN)), (19, .int lf9), (20, .int (nI jh)), (21, .ref qa), (22, .ref qb), (23, .ref qc), (24, .ref qd), (25, .ref qe), (26, .int (sumN (xR α) 20)), (27, .int (sumN (thF α) k)), (28, .int (nI k))]) S.1 S.2.1 dL_law_930 hl (by decide) rfl (fun ls hl => ?_)
                refine lv_aload_n S.1 S.2.1 dL_law_932 rfl (lv_at hl 2 rfl) ?_
                refine lv_iload S.1 S.2.1 dL_law_933 (lv_at hl 20 rfl) ?_
                refine cz_i hJ (rzV (As := [.int (nI k)]) (rest := []) S hJ (c_heatOf l _ (hourX α) hk2 hn hX2) (cw_L_X3_heatOf S.2.2.2.2 ⟨by omega, by omega⟩) (rcX hJ.iv) rfl hl.1 (Nat.le_of_ble_eq_true rfl) dL_law_935 ⟨by omega, by omega⟩) (fun r2 σ2 H locs hq2 hJ => ?_)
                obtain ⟨hr2, hs2⟩ := hq2
                rw [hs2] at hJ
                rw [hr2, show (gP (hourX α) k).2.2.2.2.2 = (draw to9 w9) from by rw [hP2]]
                refine lv_aload S.1 S.2.1 dL_law_938 (lv_at hl 14 rfl) ?_
                refine lv_iload S.1 S.2.1 dL_law_940 (lv_at hl 20 rfl) ?_
                refine i_y S hJ 1 rfl (j := k) hk2 (by omega) dL_law_942 ?_
                rw [show (f2 k) = w9 from v2]
                refine lv_isub S.1 S.2.1 dL_law_943 ?_
                refine lv_istore (lv' := [(30, .int ((draw to9 w9) - w9)), (29, .int (to9 - w9)), (0, .ref (gE G 6)), (1, .ref (gB G 0)), (2, .ref q0), (3, .int (nI tt)), (7, .int (nI n)), (13, .int (nI o9)), (14, .int F1), (15, .int F2), (16, .int F3), (18, .int (nI hN)), (19, .int lf9), (20, .int (nI jh)), (21, .ref qa), (22, .ref qb), (23, .ref qc), (24, .ref qd), (25, .ref qe), (26, .int (sumN (xR α) 20)), (27, .int (sumN (thF α) k)), (28, .int (nI k))]) S.1 S.2.1 dL_law_944 hl (by decide) rfl (fun ls hl => ?_)
                refine lv_iload S.1 S.2.1 dL_law_946 (lv_at hl 20 rfl) ?_
                refine lv_aload S.1 S.2.1 dL_law_948 (lv_at hl 18 rfl) ?_
                refine lv_iload S.1 S.2.1 dL_law_950 (lv_at hl 21 rfl) ?_
                refine i_yz S hJ 4 rfl (j := k) hk2 (by omega) dL_law_952 ?_
                rw [show (f5 k) = 1 from v5]
                refine lv_if_eq (tgt := 969) S.1 S.2.1 dL_law_953 (by decide) (fun c9 => absurd c9 (by decide)) (fun cz_953 => ?_)
                refine lv_aload_n S.1 S.2.1 dL_law_956 rfl (lv_at hl 3 rfl) ?_
                refine lv_iload S.1 S.2.1 dL_law_957 (lv_at hl 21 rfl) ?_
                refine cz_i hJ (rzV (As := [.int (nI k)]) (rest := [.int (sumN (thF α) k)]) S hJ (c_isThawed l _ (hourX α) hok2 hk2 hn hX2) (cw_L_X3_isThawed S.2.2.2.2 ⟨by omega, by omega⟩) (rcX hJ.iv) rfl hl.1 (Nat.le_of_ble_eq_true rfl) dL_law_959 ⟨by omega, by omega⟩) (fun r3 σ3 H locs hq3 hJ => ?_)
                obtain ⟨hr3, hs3⟩ := hq3
                rw [hs3] at hJ
                rw [hr3, show (if (gP (hourX α) k).1 = 3 then (1 : Int32) else 0) = 0 from by rw [hP2]; rfl]
                refine lv_if_eq (tgt := 969) S.1 S.2.1 dL_law_962 (by decide) (fun cz_962 => ?_) (fun c9 => absurd (by decide) c9)
                refine lv_iconst (v := 0) S.1 S.2.1 dL_law_969 (by decide) ?_
                refine lv_iadd S.1 S.2.1 dL_law_970 ?_
                refine lv_istore (lv' := [(27, .int ((sumN (thF α) k) + 0)), (30, .int ((draw to9 w9) - w9)), (29, .int (to9 - w9)), (0, .ref (gE G 6)), (1, .ref (gB G 0)), (2, .ref q0), (3, .int (nI tt)), (7, .int (nI n)), (13, .int (nI o9)), (14, .int F1), (15, .int F2), (16, .int F3), (18, .int (nI hN)), (19, .int lf9), (20, .int (nI jh)), (21, .ref qa), (22, .ref qb), (23, .ref qc), (24, .ref qd), (25, .ref qe), (26, .int (sumN (xR α) 20)), (28, .int (nI k))]) S.1 S.2.1 dL_law_971 hl (by decide) rfl (fun ls hl => ?_)
                refine lv_iload S.1 S.2.1 dL_law_973 (lv_at hl 2 rfl) ?_
                refine lv_if_ne (tgt := 982) S.1 S.2.1 dL_law_975 (by decide) (fun cz_975 => ?_) (fun c9 => absurd c9 (neg_ne n1))
                refine lv_iconst (v := 0) S.1 S.2.1 dL_law_982 (by decide) ?_
                refine lv_iload S.1 S.2.1 dL_law_983 (lv_at hl 1 rfl) ?_
                refine lv_if_ne (tgt := 992) S.1 S.2.1 dL_law_985 (by decide) (fun cz_985 => ?_) (fun c9 => absurd c9 (mone_ne n2))
                refine lv_iconst (v := 0) S.1 S.2.1 dL_law_992 (by decide) ?_
                refine lv_icmp_ne (tgt := 1104) S.1 S.2.1 dL_law_993 (by decide) (fun c9 => absurd (by decide) c9) (fun cz_993 => ?_)
                refine lv_iload S.1 S.2.1 dL_law_996 (lv_at hl 2 rfl) ?_
                refine lv_if_le (tgt := 1014) S.1 S.2.1 dL_law_998 (by decide) (fun cz_998 => ?_) (fun c9 => absurd (Int32.le_of_lt n1) c9)
                refine lv_iload S.1 S.2.1 dL_law_1014 (lv_at hl 2 rfl) ?_
                refine lv_if_ge (tgt := 1032) S.1 S.2.1 dL_law_1016 (by decide) (fun c9 => absurd c9 (Int32.not_le.mpr n1)) (fun cz_1016 => ?_)
                refine lv_iload S.1 S.2.1 dL_law_1019 (lv_at hl 1 rfl) ?_
                refine lv_iconst (v := (-1)) S.1 S.2.1 dL_law_1021 (by decide) ?_
                refine lv_icmp_gt (tgt := 1104) S.1 S.2.1 dL_law_1022 (by decide) (fun c9 => absurd c9 (Int32.not_lt.mpr n2)) (fun cz_1022 => ?_)
                refine lv_iload S.1 S.2.1 dL_law_1025 (lv_at hl 1 rfl) ?_
                refine lv_iload S.1 S.2.1 dL_law_1027 (lv_at hl 2 rfl) ?_
                refine lv_icmp_lt (tgt := 1104) S.1 S.2.1 dL_law_1029 (by decide) (fun c9 => absurd c9 (Int32.not_lt.mpr n3)) (fun cz_1029 => ?_)
                refine lv_aload_n S.1 S.2.1 dL_law_1032 rfl (lv_at hl 4 rfl) ?_
                refine lv_iload S.1 S.2.1 dL_law_1033 (lv_at hl 21 rfl) ?_
                refine cz_i hJ (rzV (As := [.int (nI k)]) (rest := []) S hJ (c_ageOf l _ (hourX α) hk2 hn hX2) (cw_L_X3_ageOf S.2.2.2.2 ⟨by omega, by omega⟩) (rcX hJ.iv) rfl hl.1 (Nat.le_of_ble_eq_true rfl) dL_law_1035 ⟨by omega, by omega⟩) (fun r4 σ4 H locs hq4 hJ => ?_)
                obtain ⟨hr4, hs4⟩ := hq4
                rw [hs4] at hJ
                rw [hr4, show (gP (hourX α) k).2.2.2.2.1 = (nI ag + 1) from by rw [hP2]]
                refine lv_aload S.1 S.2.1 dL_law_1038 (lv_at hl 17 rfl) ?_
                refine lv_iload S.1 S.2.1 dL_law_1040 (lv_at hl 21 rfl) ?_
                refine i_y S hJ 2 rfl (j := k) hk2 (by omega) dL_law_1042 ?_
                rw [show (f3 k) = (nI ag) from v3]
                refine lv_aload_n S.1 S.2.1 dL_law_1043 rfl (lv_at hl 4 rfl) ?_
                refine lv_iload S.1 S.2.1 dL_law_1044 (lv_at hl 21 rfl) ?_
                refine cz_i hJ (rzV (As := [.int (nI k)]) (rest := [.int (nI ag), .int (nI ag + 1)]) S hJ (c_isFrozen l _ (hourX α) hok2 hk2 hn hX2) (cw_L_X3_isFrozen S.2.2.2.2 ⟨by omega, by omega⟩) (rcX hJ.iv) rfl hl.1 (Nat.le_of_ble_eq_true rfl) dL_law_1046 ⟨by omega, by omega⟩) (fun r5 σ5 H locs hq5 hJ => ?_)
                obtain ⟨hr5, hs5⟩ := hq5
                rw [hs5] at hJ
                rw [hr5, show (if (gP (hourX α) k).1 = 2 then (1 : Int32) else 0) = 0 from by rw [hP2]; rfl]
                refine lv_if_eq (tgt := 1056) S.1 S.2.1 dL_law_1049 (by decide) (fun cz_1049 => ?_) (fun c9 => absurd (by decide) c9)
                refine lv_iconst (v := 1) S.1 S.2.1 dL_law_1056 (by decide) ?_
                refine lv_iadd S.1 S.2.1 dL_law_1057 ?_
                refine lv_icmp_ne (tgt := 1104) S.1 S.2.1 dL_law_1058 (by decide) (fun c9 => absurd rfl c9) (fun cz_1058 => ?_)
                refine lv_aload_n S.1 S.2.1 dL_law_1061 rfl (lv_at hl 4 rfl) ?_
                refine lv_iload S.1 S.2.1 dL_law_1062 (lv_at hl 21 rfl) ?_
                refine cz_i hJ (rzV (As := [.int (nI k)]) (rest := []) S hJ (c_isFrozen l _ (hourX α) hok2 hk2 hn hX2) (cw_L_X3_isFrozen S.2.2.2.2 ⟨by omega, by omega⟩) (rcX hJ.iv) rfl hl.1 (Nat.le_of_ble_eq_true rfl) dL_law_1064 ⟨by omega, by omega⟩) (fun r6 σ6 H locs hq6 hJ => ?_)
                obtain ⟨hr6, hs6⟩ := hq6
                rw [hs6] at hJ
                rw [hr6, show (if (gP (hourX α) k).1 = 2 then (1 : Int32) else 0) = 0 from by rw [hP2]; rfl]
                refine lv_if_eq (tgt := 1081) S.1 S.2.1 dL_law_1067 (by decide) (fun cz_1067 => ?_) (fun c9 => absurd (by decide) c9)
                refine lv_aload_n S.1 S.2.1 dL_law_1081 rfl (lv_at hl 4 rfl) ?_
                refine lv_iload S.1 S.2.1 dL_law_1082 (lv_at hl 21 rfl) ?_
                refine cz_i hJ (rzV (As := [.int (nI k)]) (rest := []) S hJ (c_isExpired l _ (hourX α) hok2 hk2 hn hX2) (cw_L_X3_isExpired S.2.2.2.2 ⟨by omega, by omega⟩) (rcX hJ.iv) rfl hl.1 (Nat.le_of_ble_eq_true rfl) dL_law_1084 ⟨by omega, by omega⟩) (fun r7 σ7 H locs hq7 hJ => ?_)
                obtain ⟨hr7, hs7⟩ := hq7
                rw [hs7] at hJ
                rw [hr7, show (if (gP (hourX α) k).1 = 5 then (1 : Int32) else 0) = 1 from by rw [hP2]; rfl]
                refine lv_aload_n S.1 S.2.1 dL_law_1087 rfl (lv_at hl 4 rfl) ?_
                refine lv_iload S.1 S.2.1 dL_law_1088 (lv_at hl 21 rfl) ?_
                refine cz_i hJ (rzV (As := [.int (nI k)]) (rest := [.int 1]) S hJ (c_hoursLeft l _ (hourX α) hk2 hn hX2) (cw_L_X3_hoursLeft S.2.2.2.2 ⟨by omega, by omega⟩) (rcX hJ.iv) rfl hl.1 (Nat.le_of_ble_eq_true rfl) dL_law_1090 ⟨by omega, by omega⟩) (fun r8 σ8 H locs hq8 hJ => ?_)
                obtain ⟨hr8, hs8⟩ := hq8
                rw [hs8] at hJ
                rw [hr8, show (gP (hourX α) k).2.2.2.1 - (gP (hourX α) k).2.2.2.2.1 = nI lf - (nI ag + 1) from by rw [hP2]]
                refine lv_if_ne (tgt := 1100) S.1 S.2.1 dL_law_1093 (by decide) (fun c9 => absurd (old_0 c2 hal e5) c9) (fun cz_1093 => ?_)
                refine lv_iconst (v := 1) S.1 S.2.1 dL_law_1096 (by decide) ?_
                refine lv_goto (tgt := 1101) S.1 S.2.1 dL_law_1097 (by decide) ?_
                refine lv_icmp_eq (tgt := 1106) S.1 S.2.1 dL_law_1101 (by decide) (fun cz_1101 => ?_) (fun c9 => absurd (by decide) c9)
                refine lv_iinc (v := (nI (k + 1))) (lv' := [(28, .int (nI (k + 1))), (27, .int ((sumN (thF α) k) + 0)), (30, .int ((draw to9 w9) - w9)), (29, .int (to9 - w9)), (0, .ref (gE G 6)), (1, .ref (gB G 0)), (2, .ref q0), (3, .int (nI tt)), (7, .int (nI n)), (13, .int (nI o9)), (14, .int F1), (15, .int F2), (16, .int F3), (18, .int (nI hN)), (19, .int lf9), (20, .int (nI jh)), (21, .ref qa), (22, .ref qb), (23, .ref qc), (24, .ref qd), (25, .ref qe), (26, .int (sumN (xR α) 20))]) S.1 S.2.1 dL_law_1106 hl (k := 21) rfl (nI_1 k) (by decide) rfl (fun ls hl => ?_)
                refine lv_goto (tgt := 861) S.1 S.2.1 dL_law_1109 (by decide) ?_
                exact ih (k + 1) (by omega) _ _ hJ ls (by rw [show sumN (thF α) (k + 1) = ((sumN (thF α) k) + 0) from by rw [sumN_s, hth0]]; exact lv_sub hl [4, 5, 6, 7, 8, 9, 10, 11, 12, 13, 14, 15, 16, 17, 18, 19, 20, 21, 1, 0] rfl)
        · by_cases c2 : nI ag + 1 < nI lf
          · obtain ⟨hA, -⟩ := (hq_g hs5 c2 : hourP to9 (3, sh, mk9, nI lf, nI ag, w9) = _ ∧ _)
            rw [hA] at hP2
            rw [hP2] at hth
            have hth0 : thF α k = 0 := by rw [hth]; exact if_neg (fun q => absurd q.1 (show ¬ (3 : Nat) = 2 by decide))
            rcases hnear with ⟨n1, n2⟩ | ⟨n1, n2, n3⟩ | ⟨n1, n2, n3⟩
            · refine lv_iload S.1 S.2.1 dL_law_861 (lv_at hl 19 rfl) ?_
              refine lv_iload S.1 S.2.1 dL_law_863 (lv_at hl 4 rfl) ?_
              refine lv_icmp_ge (tgt := 1112) S.1 S.2.1 dL_law_865 (by decide) (fun c9 => absurd c9 (nI_ge hk2 (by omega))) (fun cz_865 => ?_)
              refine lv_aload S.1 S.2.1 dL_law_868 (lv_at hl 15 rfl) ?_
              refine lv_iload S.1 S.2.1 dL_law_870 (lv_at hl 19 rfl) ?_
              refine i_y S hJ 3 rfl (j := k) hk2 (by omega) dL_law_872 ?_
              rw [show (f4 k) = (nI sh) from v4]
              refine lv_if_ge (tgt := 915) S.1 S.2.1 dL_law_873 (by decide) (fun cz_873 => ?_) (fun c9 => absurd (Int32.not_lt.mp (nI_pos (by omega))) c9)
              refine lv_aload_n S.1 S.2.1 dL_law_915 rfl (lv_at hl 1 rfl) ?_
              refine lv_aload S.1 S.2.1 dL_law_916 (lv_at hl 15 rfl) ?_
              refine lv_iload S.1 S.2.1 dL_law_918 (lv_at hl 19 rfl) ?_
              refine i_y S hJ 3 rfl (j := k) hk2 (by omega) dL_law_920 ?_
              rw [show (f4 k) = (nI sh) from v4]
              refine cz_i hJ (rzV (As := [.int (nI sh)]) (rest := []) S hJ (c_heatOn l _ (hourX α) hs5) (cw_L_X3_heatOn S.2.2.2.2 ⟨by omega, by omega⟩) (rcX hJ.iv) rfl hl.1 (Nat.le_of_ble_eq_true rfl) dL_law_921 ⟨by omega, by omega⟩) (fun r1 σ1 H locs hq1 hJ => ?_)
              obtain ⟨hr1, hs1⟩ := hq1
              rw [hs1] at hJ
              rw [hr1, hSt]
              refine lv_aload S.1 S.2.1 dL_law_924 (lv_at hl 13 rfl) ?_
              refine lv_iload S.1 S.2.1 dL_law_926 (lv_at hl 19 rfl) ?_
              refine i_y S hJ 1 rfl (j := k) hk2 (by omega) dL_law_928 ?_
              rw [show (f2 k) = w9 from v2]
              refine lv_isub S.1 S.2.1 dL_law_929 ?_
              refine lv_istore (lv' := [(29, .int (to9 - w9)), (0, .ref (gE G 6)), (1, .ref (gB G 0)), (2, .ref q0), (3, .int (nI tt)), (7, .int (nI n)), (13, .int (nI o9)), (14, .int F1), (15, .int F2), (16, .int F3), (18, .int (nI hN)), (19, .int lf9), (20, .int (nI jh)), (21, .ref qa), (22, .ref qb), (23, .ref qc), (24, .ref qd), (25, .ref qe), (26, .int (sumN (xR α) 20)), (27, .int (sumN (thF α) k)), (28, .int (nI k))]) S.1 S.2.1 dL_law_930 hl (by decide) rfl (fun ls hl => ?_)
              refine lv_aload_n S.1 S.2.1 dL_law_932 rfl (lv_at hl 2 rfl) ?_
              refine lv_iload S.1 S.2.1 dL_law_933 (lv_at hl 20 rfl) ?_
              refine cz_i hJ (rzV (As := [.int (nI k)]) (rest := []) S hJ (c_heatOf l _ (hourX α) hk2 hn hX2) (cw_L_X3_heatOf S.2.2.2.2 ⟨by omega, by omega⟩) (rcX hJ.iv) rfl hl.1 (Nat.le_of_ble_eq_true rfl) dL_law_935 ⟨by omega, by omega⟩) (fun r2 σ2 H locs hq2 hJ => ?_)
              obtain ⟨hr2, hs2⟩ := hq2
              rw [hs2] at hJ
              rw [hr2, show (gP (hourX α) k).2.2.2.2.2 = (draw to9 w9) from by rw [hP2]]
              refine lv_aload S.1 S.2.1 dL_law_938 (lv_at hl 14 rfl) ?_
              refine lv_iload S.1 S.2.1 dL_law_940 (lv_at hl 20 rfl) ?_
              refine i_y S hJ 1 rfl (j := k) hk2 (by omega) dL_law_942 ?_
              rw [show (f2 k) = w9 from v2]
              refine lv_isub S.1 S.2.1 dL_law_943 ?_
              refine lv_istore (lv' := [(30, .int ((draw to9 w9) - w9)), (29, .int (to9 - w9)), (0, .ref (gE G 6)), (1, .ref (gB G 0)), (2, .ref q0), (3, .int (nI tt)), (7, .int (nI n)), (13, .int (nI o9)), (14, .int F1), (15, .int F2), (16, .int F3), (18, .int (nI hN)), (19, .int lf9), (20, .int (nI jh)), (21, .ref qa), (22, .ref qb), (23, .ref qc), (24, .ref qd), (25, .ref qe), (26, .int (sumN (xR α) 20)), (27, .int (sumN (thF α) k)), (28, .int (nI k))]) S.1 S.2.1 dL_law_944 hl (by decide) rfl (fun ls hl => ?_)
              refine lv_iload S.1 S.2.1 dL_law_946 (lv_at hl 20 rfl) ?_
              refine lv_aload S.1 S.2.1 dL_law_948 (lv_at hl 18 rfl) ?_
              refine lv_iload S.1 S.2.1 dL_law_950 (lv_at hl 21 rfl) ?_
              refine i_yz S hJ 4 rfl (j := k) hk2 (by omega) dL_law_952 ?_
              rw [show (f5 k) = 0 from v5]
              refine lv_if_eq (tgt := 969) S.1 S.2.1 dL_law_953 (by decide) (fun cz_953 => ?_) (fun c9 => absurd (by decide) c9)
              refine lv_iconst (v := 0) S.1 S.2.1 dL_law_969 (by decide) ?_
              refine lv_iadd S.1 S.2.1 dL_law_970 ?_
              refine lv_istore (lv' := [(27, .int ((sumN (thF α) k) + 0)), (30, .int ((draw to9 w9) - w9)), (29, .int (to9 - w9)), (0, .ref (gE G 6)), (1, .ref (gB G 0)), (2, .ref q0), (3, .int (nI tt)), (7, .int (nI n)), (13, .int (nI o9)), (14, .int F1), (15, .int F2), (16, .int F3), (18, .int (nI hN)), (19, .int lf9), (20, .int (nI jh)), (21, .ref qa), (22, .ref qb), (23, .ref qc), (24, .ref qd), (25, .ref qe), (26, .int (sumN (xR α) 20)), (28, .int (nI k))]) S.1 S.2.1 dL_law_971 hl (by decide) rfl (fun ls hl => ?_)
              refine lv_iload S.1 S.2.1 dL_law_973 (lv_at hl 2 rfl) ?_
              refine lv_if_ne (tgt := 982) S.1 S.2.1 dL_law_975 (by decide) (fun c9 => absurd n1 c9) (fun cz_975 => ?_)
              refine lv_iconst (v := 1) S.1 S.2.1 dL_law_978 (by decide) ?_
              refine lv_goto (tgt := 983) S.1 S.2.1 dL_law_979 (by decide) ?_
              refine lv_iload S.1 S.2.1 dL_law_983 (lv_at hl 1 rfl) ?_
              refine lv_if_ne (tgt := 992) S.1 S.2.1 dL_law_985 (by decide) (fun c9 => absurd n2 c9) (fun cz_985 => ?_)
              refine lv_iconst (v := 1) S.1 S.2.1 dL_law_988 (by decide) ?_
              refine lv_goto (tgt := 993) S.1 S.2.1 dL_law_989 (by decide) ?_
              refine lv_icmp_ne (tgt := 1104) S.1 S.2.1 dL_law_993 (by decide) (fun c9 => absurd (by decide) c9) (fun cz_993 => ?_)
              refine lv_iload S.1 S.2.1 dL_law_996 (lv_at hl 2 rfl) ?_
              refine lv_if_le (tgt := 1014) S.1 S.2.1 dL_law_998 (by decide) (fun cz_998 => ?_) (fun c9 => absurd (by rw [n1]; exact Int32.le_refl 0) c9)
              refine lv_iload S.1 S.2.1 dL_law_1014 (lv_at hl 2 rfl) ?_
              refine lv_if_ge (tgt := 1032) S.1 S.2.1 dL_law_1016 (by decide) (fun cz_1016 => ?_) (fun c9 => absurd (by rw [n1]; exact Int32.le_refl 0) c9)
              refine lv_aload_n S.1 S.2.1 dL_law_1032 rfl (lv_at hl 4 rfl) ?_
              refine lv_iload S.1 S.2.1 dL_law_1033 (lv_at hl 21 rfl) ?_
              refine cz_i hJ (rzV (As := [.int (nI k)]) (rest := []) S hJ (c_ageOf l _ (hourX α) hk2 hn hX2) (cw_L_X3_ageOf S.2.2.2.2 ⟨by omega, by omega⟩) (rcX hJ.iv) rfl hl.1 (Nat.le_of_ble_eq_true rfl) dL_law_1035 ⟨by omega, by omega⟩) (fun r3 σ3 H locs hq3 hJ => ?_)
              obtain ⟨hr3, hs3⟩ := hq3
              rw [hs3] at hJ
              rw [hr3, show (gP (hourX α) k).2.2.2.2.1 = (nI ag + 1) from by rw [hP2]]
              refine lv_aload S.1 S.2.1 dL_law_1038 (lv_at hl 17 rfl) ?_
              refine lv_iload S.1 S.2.1 dL_law_1040 (lv_at hl 21 rfl) ?_
              refine i_y S hJ 2 rfl (j := k) hk2 (by omega) dL_law_1042 ?_
              rw [show (f3 k) = (nI ag) from v3]
              refine lv_aload_n S.1 S.2.1 dL_law_1043 rfl (lv_at hl 4 rfl) ?_
              refine lv_iload S.1 S.2.1 dL_law_1044 (lv_at hl 21 rfl) ?_
              refine cz_i hJ (rzV (As := [.int (nI k)]) (rest := [.int (nI ag), .int (nI ag + 1)]) S hJ (c_isFrozen l _ (hourX α) hok2 hk2 hn hX2) (cw_L_X3_isFrozen S.2.2.2.2 ⟨by omega, by omega⟩) (rcX hJ.iv) rfl hl.1 (Nat.le_of_ble_eq_true rfl) dL_law_1046 ⟨by omega, by omega⟩) (fun r4 σ4 H locs hq4 hJ => ?_)
              obtain ⟨hr4, hs4⟩ := hq4
              rw [hs4] at hJ
              rw [hr4, show (if (gP (hourX α) k).1 = 2 then (1 : Int32) else 0) = 0 from by rw [hP2]; rfl]
              refine lv_if_eq (tgt := 1056) S.1 S.2.1 dL_law_1049 (by decide) (fun cz_1049 => ?_) (fun c9 => absurd (by decide) c9)
              refine lv_iconst (v := 1) S.1 S.2.1 dL_law_1056 (by decide) ?_
              refine lv_iadd S.1 S.2.1 dL_law_1057 ?_
              refine lv_icmp_ne (tgt := 1104) S.1 S.2.1 dL_law_1058 (by decide) (fun c9 => absurd rfl c9) (fun cz_1058 => ?_)
              refine lv_aload_n S.1 S.2.1 dL_law_1061 rfl (lv_at hl 4 rfl) ?_
              refine lv_iload S.1 S.2.1 dL_law_1062 (lv_at hl 21 rfl) ?_
              refine cz_i hJ (rzV (As := [.int (nI k)]) (rest := []) S hJ (c_isFrozen l _ (hourX α) hok2 hk2 hn hX2) (cw_L_X3_isFrozen S.2.2.2.2 ⟨by omega, by omega⟩) (rcX hJ.iv) rfl hl.1 (Nat.le_of_ble_eq_true rfl) dL_law_1064 ⟨by omega, by omega⟩) (fun r5 σ5 H locs hq5 hJ => ?_)
              obtain ⟨hr5, hs5⟩ := hq5
              rw [hs5] at hJ
              rw [hr5, show (if (gP (hourX α) k).1 = 2 then (1 : Int32) else 0) = 0 from by rw [hP2]; rfl]
              refine lv_if_eq (tgt := 1081) S.1 S.2.1 dL_law_1067 (by decide) (fun cz_1067 => ?_) (fun c9 => absurd (by decide) c9)
              refine lv_aload_n S.1 S.2.1 dL_law_1081 rfl (lv_at hl 4 rfl) ?_
              refine lv_iload S.1 S.2.1 dL_law_1082 (lv_at hl 21 rfl) ?_
              refine cz_i hJ (rzV (As := [.int (nI k)]) (rest := []) S hJ (c_isExpired l _ (hourX α) hok2 hk2 hn hX2) (cw_L_X3_isExpired S.2.2.2.2 ⟨by omega, by omega⟩) (rcX hJ.iv) rfl hl.1 (Nat.le_of_ble_eq_true rfl) dL_law_1084 ⟨by omega, by omega⟩) (fun r6 σ6 H locs hq6 hJ => ?_)
              obtain ⟨hr6, hs6⟩ := hq6
              rw [hs6] at hJ
              rw [hr6, show (if (gP (hourX α) k).1 = 5 then (1 : Int32) else 0) = 0 from by rw [hP2]; rfl]
              refine lv_aload_n S.1 S.2.1 dL_law_1087 rfl (lv_at hl 4 rfl) ?_
              refine lv_iload S.1 S.2.1 dL_law_1088 (lv_at hl 21 rfl) ?_
              refine cz_i hJ (rzV (As := [.int (nI k)]) (rest := [.int 0]) S hJ (c_hoursLeft l _ (hourX α) hk2 hn hX2) (cw_L_X3_hoursLeft S.2.2.2.2 ⟨by omega, by omega⟩) (rcX hJ.iv) rfl hl.1 (Nat.le_of_ble_eq_true rfl) dL_law_1090 ⟨by omega, by omega⟩) (fun r7 σ7 H locs hq7 hJ => ?_)
              obtain ⟨hr7, hs7⟩ := hq7
              rw [hs7] at hJ
              rw [hr7, show (gP (hourX α) k).2.2.2.1 - (gP (hourX α) k).2.2.2.2.1 = nI lf - (nI ag + 1) from by rw [hP2]]
              refine lv_if_ne (tgt := 1100) S.1 S.2.1 dL_law_1093 (by decide) (fun cz_1093 => ?_) (fun c9 => absurd c9 (young_ne c2 hal e5))
              refine lv_iconst (v := 0) S.1 S.2.1 dL_law_1100 (by decide) ?_
              refine lv_icmp_eq (tgt := 1106) S.1 S.2.1 dL_law_1101 (by decide) (fun cz_1101 => ?_) (fun c9 => absurd (by decide) c9)
              refine lv_iinc (v := (nI (k + 1))) (lv' := [(28, .int (nI (k + 1))), (27, .int ((sumN (thF α) k) + 0)), (30, .int ((draw to9 w9) - w9)), (29, .int (to9 - w9)), (0, .ref (gE G 6)), (1, .ref (gB G 0)), (2, .ref q0), (3, .int (nI tt)), (7, .int (nI n)), (13, .int (nI o9)), (14, .int F1), (15, .int F2), (16, .int F3), (18, .int (nI hN)), (19, .int lf9), (20, .int (nI jh)), (21, .ref qa), (22, .ref qb), (23, .ref qc), (24, .ref qd), (25, .ref qe), (26, .int (sumN (xR α) 20))]) S.1 S.2.1 dL_law_1106 hl (k := 21) rfl (nI_1 k) (by decide) rfl (fun ls hl => ?_)
              refine lv_goto (tgt := 861) S.1 S.2.1 dL_law_1109 (by decide) ?_
              exact ih (k + 1) (by omega) _ _ hJ ls (by rw [show sumN (thF α) (k + 1) = ((sumN (thF α) k) + 0) from by rw [sumN_s, hth0]]; exact lv_sub hl [4, 5, 6, 7, 8, 9, 10, 11, 12, 13, 14, 15, 16, 17, 18, 19, 20, 21, 1, 0] rfl)
            · refine lv_iload S.1 S.2.1 dL_law_861 (lv_at hl 19 rfl) ?_
              refine lv_iload S.1 S.2.1 dL_law_863 (lv_at hl 4 rfl) ?_
              refine lv_icmp_ge (tgt := 1112) S.1 S.2.1 dL_law_865 (by decide) (fun c9 => absurd c9 (nI_ge hk2 (by omega))) (fun cz_865 => ?_)
              refine lv_aload S.1 S.2.1 dL_law_868 (lv_at hl 15 rfl) ?_
              refine lv_iload S.1 S.2.1 dL_law_870 (lv_at hl 19 rfl) ?_
              refine i_y S hJ 3 rfl (j := k) hk2 (by omega) dL_law_872 ?_
              rw [show (f4 k) = (nI sh) from v4]
              refine lv_if_ge (tgt := 915) S.1 S.2.1 dL_law_873 (by decide) (fun cz_873 => ?_) (fun c9 => absurd (Int32.not_lt.mp (nI_pos (by omega))) c9)
              refine lv_aload_n S.1 S.2.1 dL_law_915 rfl (lv_at hl 1 rfl) ?_
              refine lv_aload S.1 S.2.1 dL_law_916 (lv_at hl 15 rfl) ?_
              refine lv_iload S.1 S.2.1 dL_law_918 (lv_at hl 19 rfl) ?_
              refine i_y S hJ 3 rfl (j := k) hk2 (by omega) dL_law_920 ?_
              rw [show (f4 k) = (nI sh) from v4]
              refine cz_i hJ (rzV (As := [.int (nI sh)]) (rest := []) S hJ (c_heatOn l _ (hourX α) hs5) (cw_L_X3_heatOn S.2.2.2.2 ⟨by omega, by omega⟩) (rcX hJ.iv) rfl hl.1 (Nat.le_of_ble_eq_true rfl) dL_law_921 ⟨by omega, by omega⟩) (fun r1 σ1 H locs hq1 hJ => ?_)
              obtain ⟨hr1, hs1⟩ := hq1
              rw [hs1] at hJ
              rw [hr1, hSt]
              refine lv_aload S.1 S.2.1 dL_law_924 (lv_at hl 13 rfl) ?_
              refine lv_iload S.1 S.2.1 dL_law_926 (lv_at hl 19 rfl) ?_
              refine i_y S hJ 1 rfl (j := k) hk2 (by omega) dL_law_928 ?_
              rw [show (f2 k) = w9 from v2]
              refine lv_isub S.1 S.2.1 dL_law_929 ?_
              refine lv_istore (lv' := [(29, .int (to9 - w9)), (0, .ref (gE G 6)), (1, .ref (gB G 0)), (2, .ref q0), (3, .int (nI tt)), (7, .int (nI n)), (13, .int (nI o9)), (14, .int F1), (15, .int F2), (16, .int F3), (18, .int (nI hN)), (19, .int lf9), (20, .int (nI jh)), (21, .ref qa), (22, .ref qb), (23, .ref qc), (24, .ref qd), (25, .ref qe), (26, .int (sumN (xR α) 20)), (27, .int (sumN (thF α) k)), (28, .int (nI k))]) S.1 S.2.1 dL_law_930 hl (by decide) rfl (fun ls hl => ?_)
              refine lv_aload_n S.1 S.2.1 dL_law_932 rfl (lv_at hl 2 rfl) ?_
              refine lv_iload S.1 S.2.1 dL_law_933 (lv_at hl 20 rfl) ?_
              refine cz_i hJ (rzV (As := [.int (nI k)]) (rest := []) S hJ (c_heatOf l _ (hourX α) hk2 hn hX2) (cw_L_X3_heatOf S.2.2.2.2 ⟨by omega, by omega⟩) (rcX hJ.iv) rfl hl.1 (Nat.le_of_ble_eq_true rfl) dL_law_935 ⟨by omega, by omega⟩) (fun r2 σ2 H locs hq2 hJ => ?_)
              obtain ⟨hr2, hs2⟩ := hq2
              rw [hs2] at hJ
              rw [hr2, show (gP (hourX α) k).2.2.2.2.2 = (draw to9 w9) from by rw [hP2]]
              refine lv_aload S.1 S.2.1 dL_law_938 (lv_at hl 14 rfl) ?_
              refine lv_iload S.1 S.2.1 dL_law_940 (lv_at hl 20 rfl) ?_
              refine i_y S hJ 1 rfl (j := k) hk2 (by omega) dL_law_942 ?_
              rw [show (f2 k) = w9 from v2]
              refine lv_isub S.1 S.2.1 dL_law_943 ?_
              refine lv_istore (lv' := [(30, .int ((draw to9 w9) - w9)), (29, .int (to9 - w9)), (0, .ref (gE G 6)), (1, .ref (gB G 0)), (2, .ref q0), (3, .int (nI tt)), (7, .int (nI n)), (13, .int (nI o9)), (14, .int F1), (15, .int F2), (16, .int F3), (18, .int (nI hN)), (19, .int lf9), (20, .int (nI jh)), (21, .ref qa), (22, .ref qb), (23, .ref qc), (24, .ref qd), (25, .ref qe), (26, .int (sumN (xR α) 20)), (27, .int (sumN (thF α) k)), (28, .int (nI k))]) S.1 S.2.1 dL_law_944 hl (by decide) rfl (fun ls hl => ?_)
              refine lv_iload S.1 S.2.1 dL_law_946 (lv_at hl 20 rfl) ?_
              refine lv_aload S.1 S.2.1 dL_law_948 (lv_at hl 18 rfl) ?_
              refine lv_iload S.1 S.2.1 dL_law_950 (lv_at hl 21 rfl) ?_
              refine i_yz S hJ 4 rfl (j := k) hk2 (by omega) dL_law_952 ?_
              rw [show (f5 k) = 0 from v5]
              refine lv_if_eq (tgt := 969) S.1 S.2.1 dL_law_953 (by decide) (fun cz_953 => ?_) (fun c9 => absurd (by decide) c9)
              refine lv_iconst (v := 0) S.1 S.2.1 dL_law_969 (by decide) ?_
              refine lv_iadd S.1 S.2.1 dL_law_970 ?_
              refine lv_istore (lv' := [(27, .int ((sumN (thF α) k) + 0)), (30, .int ((draw to9 w9) - w9)), (29, .int (to9 - w9)), (0, .ref (gE G 6)), (1, .ref (gB G 0)), (2, .ref q0), (3, .int (nI tt)), (7, .int (nI n)), (13, .int (nI o9)), (14, .int F1), (15, .int F2), (16, .int F3), (18, .int (nI hN)), (19, .int lf9), (20, .int (nI jh)), (21, .ref qa), (22, .ref qb), (23, .ref qc), (24, .ref qd), (25, .ref qe), (26, .int (sumN (xR α) 20)), (28, .int (nI k))]) S.1 S.2.1 dL_law_971 hl (by decide) rfl (fun ls hl => ?_)
              refine lv_iload S.1 S.2.1 dL_law_973 (lv_at hl 2 rfl) ?_
              refine lv_if_ne (tgt := 982) S.1 S.2.1 dL_law_975 (by decide) (fun cz_975 => ?_) (fun c9 => absurd c9 (pos_ne n1))
              refine lv_iconst (v := 0) S.1 S.2.1 dL_law_982 (by decide) ?_
              refine lv_iload S.1 S.2.1 dL_law_983 (lv_at hl 1 rfl) ?_
              refine lv_if_ne (tgt := 992) S.1 S.2.1 dL_law_985 (by decide) (fun cz_985 => ?_) (fun c9 => absurd c9 (one_ne n2))
              refine lv_iconst (v := 0) S.1 S.2.1 dL_law_992 (by decide) ?_
              refine lv_icmp_ne (tgt := 1104) S.1 S.2.1 dL_law_993 (by decide) (fun c9 => absurd (by decide) c9) (fun cz_993 => ?_)
              refine lv_iload S.1 S.2.1 dL_law_996 (lv_at hl 2 rfl) ?_
              refine lv_if_le (tgt := 1014) S.1 S.2.1 dL_law_998 (by decide) (fun c9 => absurd c9 (Int32.not_le.mpr n1)) (fun cz_998 => ?_)
              refine lv_iload S.1 S.2.1 dL_law_1001 (lv_at hl 1 rfl) ?_
              refine lv_iconst (v := 1) S.1 S.2.1 dL_law_1003 (by decide) ?_
              refine lv_icmp_lt (tgt := 1104) S.1 S.2.1 dL_law_1004 (by decide) (fun c9 => absurd c9 (Int32.not_lt.mpr n2)) (fun cz_1004 => ?_)
              refine lv_iload S.1 S.2.1 dL_law_1007 (lv_at hl 1 rfl) ?_
              refine lv_iload S.1 S.2.1 dL_law_1009 (lv_at hl 2 rfl) ?_
              refine lv_icmp_gt (tgt := 1104) S.1 S.2.1 dL_law_1011 (by decide) (fun c9 => absurd c9 (Int32.not_lt.mpr n3)) (fun cz_1011 => ?_)
              refine lv_iload S.1 S.2.1 dL_law_1014 (lv_at hl 2 rfl) ?_
              refine lv_if_ge (tgt := 1032) S.1 S.2.1 dL_law_1016 (by decide) (fun cz_1016 => ?_) (fun c9 => absurd (Int32.le_of_lt n1) c9)
              refine lv_aload_n S.1 S.2.1 dL_law_1032 rfl (lv_at hl 4 rfl) ?_
              refine lv_iload S.1 S.2.1 dL_law_1033 (lv_at hl 21 rfl) ?_
              refine cz_i hJ (rzV (As := [.int (nI k)]) (rest := []) S hJ (c_ageOf l _ (hourX α) hk2 hn hX2) (cw_L_X3_ageOf S.2.2.2.2 ⟨by omega, by omega⟩) (rcX hJ.iv) rfl hl.1 (Nat.le_of_ble_eq_true rfl) dL_law_1035 ⟨by omega, by omega⟩) (fun r3 σ3 H locs hq3 hJ => ?_)
              obtain ⟨hr3, hs3⟩ := hq3
              rw [hs3] at hJ
              rw [hr3, show (gP (hourX α) k).2.2.2.2.1 = (nI ag + 1) from by rw [hP2]]
              refine lv_aload S.1 S.2.1 dL_law_1038 (lv_at hl 17 rfl) ?_
              refine lv_iload S.1 S.2.1 dL_law_1040 (lv_at hl 21 rfl) ?_
              refine i_y S hJ 2 rfl (j := k) hk2 (by omega) dL_law_1042 ?_
              rw [show (f3 k) = (nI ag) from v3]
              refine lv_aload_n S.1 S.2.1 dL_law_1043 rfl (lv_at hl 4 rfl) ?_
              refine lv_iload S.1 S.2.1 dL_law_1044 (lv_at hl 21 rfl) ?_
              refine cz_i hJ (rzV (As := [.int (nI k)]) (rest := [.int (nI ag), .int (nI ag + 1)]) S hJ (c_isFrozen l _ (hourX α) hok2 hk2 hn hX2) (cw_L_X3_isFrozen S.2.2.2.2 ⟨by omega, by omega⟩) (rcX hJ.iv) rfl hl.1 (Nat.le_of_ble_eq_true rfl) dL_law_1046 ⟨by omega, by omega⟩) (fun r4 σ4 H locs hq4 hJ => ?_)
              obtain ⟨hr4, hs4⟩ := hq4
              rw [hs4] at hJ
              rw [hr4, show (if (gP (hourX α) k).1 = 2 then (1 : Int32) else 0) = 0 from by rw [hP2]; rfl]
              refine lv_if_eq (tgt := 1056) S.1 S.2.1 dL_law_1049 (by decide) (fun cz_1049 => ?_) (fun c9 => absurd (by decide) c9)
              refine lv_iconst (v := 1) S.1 S.2.1 dL_law_1056 (by decide) ?_
              refine lv_iadd S.1 S.2.1 dL_law_1057 ?_
              refine lv_icmp_ne (tgt := 1104) S.1 S.2.1 dL_law_1058 (by decide) (fun c9 => absurd rfl c9) (fun cz_1058 => ?_)
              refine lv_aload_n S.1 S.2.1 dL_law_1061 rfl (lv_at hl 4 rfl) ?_
              refine lv_iload S.1 S.2.1 dL_law_1062 (lv_at hl 21 rfl) ?_
              refine cz_i hJ (rzV (As := [.int (nI k)]) (rest := []) S hJ (c_isFrozen l _ (hourX α) hok2 hk2 hn hX2) (cw_L_X3_isFrozen S.2.2.2.2 ⟨by omega, by omega⟩) (rcX hJ.iv) rfl hl.1 (Nat.le_of_ble_eq_true rfl) dL_law_1064 ⟨by omega, by omega⟩) (fun r5 σ5 H locs hq5 hJ => ?_)
              obtain ⟨hr5, hs5⟩ := hq5
              rw [hs5] at hJ
              rw [hr5, show (if (gP (hourX α) k).1 = 2 then (1 : Int32) else 0) = 0 from by rw [hP2]; rfl]
              refine lv_if_eq (tgt := 1081) S.1 S.2.1 dL_law_1067 (by decide) (fun cz_1067 => ?_) (fun c9 => absurd (by decide) c9)
              refine lv_aload_n S.1 S.2.1 dL_law_1081 rfl (lv_at hl 4 rfl) ?_
              refine lv_iload S.1 S.2.1 dL_law_1082 (lv_at hl 21 rfl) ?_
              refine cz_i hJ (rzV (As := [.int (nI k)]) (rest := []) S hJ (c_isExpired l _ (hourX α) hok2 hk2 hn hX2) (cw_L_X3_isExpired S.2.2.2.2 ⟨by omega, by omega⟩) (rcX hJ.iv) rfl hl.1 (Nat.le_of_ble_eq_true rfl) dL_law_1084 ⟨by omega, by omega⟩) (fun r6 σ6 H locs hq6 hJ => ?_)
              obtain ⟨hr6, hs6⟩ := hq6
              rw [hs6] at hJ
              rw [hr6, show (if (gP (hourX α) k).1 = 5 then (1 : Int32) else 0) = 0 from by rw [hP2]; rfl]
              refine lv_aload_n S.1 S.2.1 dL_law_1087 rfl (lv_at hl 4 rfl) ?_
              refine lv_iload S.1 S.2.1 dL_law_1088 (lv_at hl 21 rfl) ?_
              refine cz_i hJ (rzV (As := [.int (nI k)]) (rest := [.int 0]) S hJ (c_hoursLeft l _ (hourX α) hk2 hn hX2) (cw_L_X3_hoursLeft S.2.2.2.2 ⟨by omega, by omega⟩) (rcX hJ.iv) rfl hl.1 (Nat.le_of_ble_eq_true rfl) dL_law_1090 ⟨by omega, by omega⟩) (fun r7 σ7 H locs hq7 hJ => ?_)
              obtain ⟨hr7, hs7⟩ := hq7
              rw [hs7] at hJ
              rw [hr7, show (gP (hourX α) k).2.2.2.1 - (gP (hourX α) k).2.2.2.2.1 = nI lf - (nI ag + 1) from by rw [hP2]]
              refine lv_if_ne (tgt := 1100) S.1 S.2.1 dL_law_1093 (by decide) (fun cz_1093 => ?_) (fun c9 => absurd c9 (young_ne c2 hal e5))
              refine lv_iconst (v := 0) S.1 S.2.1 dL_law_1100 (by decide) ?_
              refine lv_icmp_eq (tgt := 1106) S.1 S.2.1 dL_law_1101 (by decide) (fun cz_1101 => ?_) (fun c9 => absurd (by decide) c9)
              refine lv_iinc (v := (nI (k + 1))) (lv' := [(28, .int (nI (k + 1))), (27, .int ((sumN (thF α) k) + 0)), (30, .int ((draw to9 w9) - w9)), (29, .int (to9 - w9)), (0, .ref (gE G 6)), (1, .ref (gB G 0)), (2, .ref q0), (3, .int (nI tt)), (7, .int (nI n)), (13, .int (nI o9)), (14, .int F1), (15, .int F2), (16, .int F3), (18, .int (nI hN)), (19, .int lf9), (20, .int (nI jh)), (21, .ref qa), (22, .ref qb), (23, .ref qc), (24, .ref qd), (25, .ref qe), (26, .int (sumN (xR α) 20))]) S.1 S.2.1 dL_law_1106 hl (k := 21) rfl (nI_1 k) (by decide) rfl (fun ls hl => ?_)
              refine lv_goto (tgt := 861) S.1 S.2.1 dL_law_1109 (by decide) ?_
              exact ih (k + 1) (by omega) _ _ hJ ls (by rw [show sumN (thF α) (k + 1) = ((sumN (thF α) k) + 0) from by rw [sumN_s, hth0]]; exact lv_sub hl [4, 5, 6, 7, 8, 9, 10, 11, 12, 13, 14, 15, 16, 17, 18, 19, 20, 21, 1, 0] rfl)
            · refine lv_iload S.1 S.2.1 dL_law_861 (lv_at hl 19 rfl) ?_
              refine lv_iload S.1 S.2.1 dL_law_863 (lv_at hl 4 rfl) ?_
              refine lv_icmp_ge (tgt := 1112) S.1 S.2.1 dL_law_865 (by decide) (fun c9 => absurd c9 (nI_ge hk2 (by omega))) (fun cz_865 => ?_)
              refine lv_aload S.1 S.2.1 dL_law_868 (lv_at hl 15 rfl) ?_
              refine lv_iload S.1 S.2.1 dL_law_870 (lv_at hl 19 rfl) ?_
              refine i_y S hJ 3 rfl (j := k) hk2 (by omega) dL_law_872 ?_
              rw [show (f4 k) = (nI sh) from v4]
              refine lv_if_ge (tgt := 915) S.1 S.2.1 dL_law_873 (by decide) (fun cz_873 => ?_) (fun c9 => absurd (Int32.not_lt.mp (nI_pos (by omega))) c9)
              refine lv_aload_n S.1 S.2.1 dL_law_915 rfl (lv_at hl 1 rfl) ?_
              refine lv_aload S.1 S.2.1 dL_law_916 (lv_at hl 15 rfl) ?_
              refine lv_iload S.1 S.2.1 dL_law_918 (lv_at hl 19 rfl) ?_
              refine i_y S hJ 3 rfl (j := k) hk2 (by omega) dL_law_920 ?_
              rw [show (f4 k) = (nI sh) from v4]
              refine cz_i hJ (rzV (As := [.int (nI sh)]) (rest := []) S hJ (c_heatOn l _ (hourX α) hs5) (cw_L_X3_heatOn S.2.2.2.2 ⟨by omega, by omega⟩) (rcX hJ.iv) rfl hl.1 (Nat.le_of_ble_eq_true rfl) dL_law_921 ⟨by omega, by omega⟩) (fun r1 σ1 H locs hq1 hJ => ?_)
              obtain ⟨hr1, hs1⟩ := hq1
              rw [hs1] at hJ
              rw [hr1, hSt]
              refine lv_aload S.1 S.2.1 dL_law_924 (lv_at hl 13 rfl) ?_
              refine lv_iload S.1 S.2.1 dL_law_926 (lv_at hl 19 rfl) ?_
              refine i_y S hJ 1 rfl (j := k) hk2 (by omega) dL_law_928 ?_
              rw [show (f2 k) = w9 from v2]
              refine lv_isub S.1 S.2.1 dL_law_929 ?_
              refine lv_istore (lv' := [(29, .int (to9 - w9)), (0, .ref (gE G 6)), (1, .ref (gB G 0)), (2, .ref q0), (3, .int (nI tt)), (7, .int (nI n)), (13, .int (nI o9)), (14, .int F1), (15, .int F2), (16, .int F3), (18, .int (nI hN)), (19, .int lf9), (20, .int (nI jh)), (21, .ref qa), (22, .ref qb), (23, .ref qc), (24, .ref qd), (25, .ref qe), (26, .int (sumN (xR α) 20)), (27, .int (sumN (thF α) k)), (28, .int (nI k))]) S.1 S.2.1 dL_law_930 hl (by decide) rfl (fun ls hl => ?_)
              refine lv_aload_n S.1 S.2.1 dL_law_932 rfl (lv_at hl 2 rfl) ?_
              refine lv_iload S.1 S.2.1 dL_law_933 (lv_at hl 20 rfl) ?_
              refine cz_i hJ (rzV (As := [.int (nI k)]) (rest := []) S hJ (c_heatOf l _ (hourX α) hk2 hn hX2) (cw_L_X3_heatOf S.2.2.2.2 ⟨by omega, by omega⟩) (rcX hJ.iv) rfl hl.1 (Nat.le_of_ble_eq_true rfl) dL_law_935 ⟨by omega, by omega⟩) (fun r2 σ2 H locs hq2 hJ => ?_)
              obtain ⟨hr2, hs2⟩ := hq2
              rw [hs2] at hJ
              rw [hr2, show (gP (hourX α) k).2.2.2.2.2 = (draw to9 w9) from by rw [hP2]]
              refine lv_aload S.1 S.2.1 dL_law_938 (lv_at hl 14 rfl) ?_
              refine lv_iload S.1 S.2.1 dL_law_940 (lv_at hl 20 rfl) ?_
              refine i_y S hJ 1 rfl (j := k) hk2 (by omega) dL_law_942 ?_
              rw [show (f2 k) = w9 from v2]
              refine lv_isub S.1 S.2.1 dL_law_943 ?_
              refine lv_istore (lv' := [(30, .int ((draw to9 w9) - w9)), (29, .int (to9 - w9)), (0, .ref (gE G 6)), (1, .ref (gB G 0)), (2, .ref q0), (3, .int (nI tt)), (7, .int (nI n)), (13, .int (nI o9)), (14, .int F1), (15, .int F2), (16, .int F3), (18, .int (nI hN)), (19, .int lf9), (20, .int (nI jh)), (21, .ref qa), (22, .ref qb), (23, .ref qc), (24, .ref qd), (25, .ref qe), (26, .int (sumN (xR α) 20)), (27, .int (sumN (thF α) k)), (28, .int (nI k))]) S.1 S.2.1 dL_law_944 hl (by decide) rfl (fun ls hl => ?_)
              refine lv_iload S.1 S.2.1 dL_law_946 (lv_at hl 20 rfl) ?_
              refine lv_aload S.1 S.2.1 dL_law_948 (lv_at hl 18 rfl) ?_
              refine lv_iload S.1 S.2.1 dL_law_950 (lv_at hl 21 rfl) ?_
              refine i_yz S hJ 4 rfl (j := k) hk2 (by omega) dL_law_952 ?_
              rw [show (f5 k) = 0 from v5]
              refine lv_if_eq (tgt := 969) S.1 S.2.1 dL_law_953 (by decide) (fun cz_953 => ?_) (fun c9 => absurd (by decide) c9)
              refine lv_iconst (v := 0) S.1 S.2.1 dL_law_969 (by decide) ?_
              refine lv_iadd S.1 S.2.1 dL_law_970 ?_
              refine lv_istore (lv' := [(27, .int ((sumN (thF α) k) + 0)), (30, .int ((draw to9 w9) - w9)), (29, .int (to9 - w9)), (0, .ref (gE G 6)), (1, .ref (gB G 0)), (2, .ref q0), (3, .int (nI tt)), (7, .int (nI n)), (13, .int (nI o9)), (14, .int F1), (15, .int F2), (16, .int F3), (18, .int (nI hN)), (19, .int lf9), (20, .int (nI jh)), (21, .ref qa), (22, .ref qb), (23, .ref qc), (24, .ref qd), (25, .ref qe), (26, .int (sumN (xR α) 20)), (28, .int (nI k))]) S.1 S.2.1 dL_law_971 hl (by decide) rfl (fun ls hl => ?_)
              refine lv_iload S.1 S.2.1 dL_law_973 (lv_at hl 2 rfl) ?_
              refine lv_if_ne (tgt := 982) S.1 S.2.1 dL_law_975 (by decide) (fun cz_975 => ?_) (fun c9 => absurd c9 (neg_ne n1))
              refine lv_iconst (v := 0) S.1 S.2.1 dL_law_982 (by decide) ?_
              refine lv_iload S.1 S.2.1 dL_law_983 (lv_at hl 1 rfl) ?_
              refine lv_if_ne (tgt := 992) S.1 S.2.1 dL_law_985 (by decide) (fun cz_985 => ?_) (fun c9 => absurd c9 (mone_ne n2))
              refine lv_iconst (v := 0) S.1 S.2.1 dL_law_992 (by decide) ?_
              refine lv_icmp_ne (tgt := 1104) S.1 S.2.1 dL_law_993 (by decide) (fun c9 => absurd (by decide) c9) (fun cz_993 => ?_)
              refine lv_iload S.1 S.2.1 dL_law_996 (lv_at hl 2 rfl) ?_
              refine lv_if_le (tgt := 1014) S.1 S.2.1 dL_law_998 (by decide) (fun cz_998 => ?_) (fun c9 => absurd (Int32.le_of_lt n1) c9)
              refine lv_iload S.1 S.2.1 dL_law_1014 (lv_at hl 2 rfl) ?_
              refine lv_if_ge (tgt := 1032) S.1 S.2.1 dL_law_1016 (by decide) (fun c9 => absurd c9 (Int32.not_le.mpr n1)) (fun cz_1016 => ?_)
              refine lv_iload S.1 S.2.1 dL_law_1019 (lv_at hl 1 rfl) ?_
              refine lv_iconst (v := (-1)) S.1 S.2.1 dL_law_1021 (by decide) ?_
              refine lv_icmp_gt (tgt := 1104) S.1 S.2.1 dL_law_1022 (by decide) (fun c9 => absurd c9 (Int32.not_lt.mpr n2)) (fun cz_1022 => ?_)
              refine lv_iload S.1 S.2.1 dL_law_1025 (lv_at hl 1 rfl) ?_
              refine lv_iload S.1 S.2.1 dL_law_1027 (lv_at hl 2 rfl) ?_
              refine lv_icmp_lt (tgt := 1104) S.1 S.2.1 dL_law_1029 (by decide) (fun c9 => absurd c9 (Int32.not_lt.mpr n3)) (fun cz_1029 => ?_)
              refine lv_aload_n S.1 S.2.1 dL_law_1032 rfl (lv_at hl 4 rfl) ?_
              refine lv_iload S.1 S.2.1 dL_law_1033 (lv_at hl 21 rfl) ?_
              refine cz_i hJ (rzV (As := [.int (nI k)]) (rest := []) S hJ (c_ageOf l _ (hourX α) hk2 hn hX2) (cw_L_X3_ageOf S.2.2.2.2 ⟨by omega, by omega⟩) (rcX hJ.iv) rfl hl.1 (Nat.le_of_ble_eq_true rfl) dL_law_1035 ⟨by omega, by omega⟩) (fun r3 σ3 H locs hq3 hJ => ?_)
              obtain ⟨hr3, hs3⟩ := hq3
              rw [hs3] at hJ
              rw [hr3, show (gP (hourX α) k).2.2.2.2.1 = (nI ag + 1) from by rw [hP2]]
              refine lv_aload S.1 S.2.1 dL_law_1038 (lv_at hl 17 rfl) ?_
              refine lv_iload S.1 S.2.1 dL_law_1040 (lv_at hl 21 rfl) ?_
              refine i_y S hJ 2 rfl (j := k) hk2 (by omega) dL_law_1042 ?_
              rw [show (f3 k) = (nI ag) from v3]
              refine lv_aload_n S.1 S.2.1 dL_law_1043 rfl (lv_at hl 4 rfl) ?_
              refine lv_iload S.1 S.2.1 dL_law_1044 (lv_at hl 21 rfl) ?_
              refine cz_i hJ (rzV (As := [.int (nI k)]) (rest := [.int (nI ag), .int (nI ag + 1)]) S hJ (c_isFrozen l _ (hourX α) hok2 hk2 hn hX2) (cw_L_X3_isFrozen S.2.2.2.2 ⟨by omega, by omega⟩) (rcX hJ.iv) rfl hl.1 (Nat.le_of_ble_eq_true rfl) dL_law_1046 ⟨by omega, by omega⟩) (fun r4 σ4 H locs hq4 hJ => ?_)
              obtain ⟨hr4, hs4⟩ := hq4
              rw [hs4] at hJ
              rw [hr4, show (if (gP (hourX α) k).1 = 2 then (1 : Int32) else 0) = 0 from by rw [hP2]; rfl]
              refine lv_if_eq (tgt := 1056) S.1 S.2.1 dL_law_1049 (by decide) (fun cz_1049 => ?_) (fun c9 => absurd (by decide) c9)
              refine lv_iconst (v := 1) S.1 S.2.1 dL_law_1056 (by decide) ?_
              refine lv_iadd S.1 S.2.1 dL_law_1057 ?_
              refine lv_icmp_ne (tgt := 1104) S.1 S.2.1 dL_law_1058 (by decide) (fun c9 => absurd rfl c9) (fun cz_1058 => ?_)
              refine lv_aload_n S.1 S.2.1 dL_law_1061 rfl (lv_at hl 4 rfl) ?_
              refine lv_iload S.1 S.2.1 dL_law_1062 (lv_at hl 21 rfl) ?_
              refine cz_i hJ (rzV (As := [.int (nI k)]) (rest := []) S hJ (c_isFrozen l _ (hourX α) hok2 hk2 hn hX2) (cw_L_X3_isFrozen S.2.2.2.2 ⟨by omega, by omega⟩) (rcX hJ.iv) rfl hl.1 (Nat.le_of_ble_eq_true rfl) dL_law_1064 ⟨by omega, by omega⟩) (fun r5 σ5 H locs hq5 hJ => ?_)
              obtain ⟨hr5, hs5⟩ := hq5
              rw [hs5] at hJ
              rw [hr5, show (if (gP (hourX α) k).1 = 2 then (1 : Int32) else 0) = 0 from by rw [hP2]; rfl]
              refine lv_if_eq (tgt := 1081) S.1 S.2.1 dL_law_1067 (by decide) (fun cz_1067 => ?_) (fun c9 => absurd (by decide) c9)
              refine lv_aload_n S.1 S.2.1 dL_law_1081 rfl (lv_at hl 4 rfl) ?_
              refine lv_iload S.1 S.2.1 dL_law_1082 (lv_at hl 21 rfl) ?_
              refine cz_i hJ (rzV (As := [.int (nI k)]) (rest := []) S hJ (c_isExpired l _ (hourX α) hok2 hk2 hn hX2) (cw_L_X3_isExpired S.2.2.2.2 ⟨by omega, by omega⟩) (rcX hJ.iv) rfl hl.1 (Nat.le_of_ble_eq_true rfl) dL_law_1084 ⟨by omega, by omega⟩) (fun r6 σ6 H locs hq6 hJ => ?_)
              obtain ⟨hr6, hs6⟩ := hq6
              rw [hs6] at hJ
              rw [hr6, show (if (gP (hourX α) k).1 = 5 then (1 : Int32) else 0) = 0 from by rw [hP2]; rfl]
              refine lv_aload_n S.1 S.2.1 dL_law_1087 rfl (lv_at hl 4 rfl) ?_
              refine lv_iload S.1 S.2.1 dL_law_1088 (lv_at hl 21 rfl) ?_
              refine cz_i hJ (rzV (As := [.int (nI k)]) (rest := [.int 0]) S hJ (c_hoursLeft l _ (hourX α) hk2 hn hX2) (cw_L_X3_hoursLeft S.2.2.2.2 ⟨by omega, by omega⟩) (rcX hJ.iv) rfl hl.1 (Nat.le_of_ble_eq_true rfl) dL_law_1090 ⟨by omega, by omega⟩) (fun r7 σ7 H locs hq7 hJ => ?_)
              obtain ⟨hr7, hs7⟩ := hq7
              rw [hs7] at hJ
              rw [hr7, show (gP (hourX α) k).2.2.2.1 - (gP (hourX α) k).2.2.2.2.1 = nI lf - (nI ag + 1) from by rw [hP2]]
              refine lv_if_ne (tgt := 1100) S.1 S.2.1 dL_law_1093 (by decide) (fun cz_1093 => ?_) (fun c9 => absurd c9 (young_ne c2 hal e5))
              refine lv_iconst (v := 0) S.1 S.2.1 dL_law_1100 (by decide) ?_
              refine lv_icmp_eq (tgt := 1106) S.1 S.2.1 dL_law_1101 (by decide) (fun cz_1101 => ?_) (fun c9 => absurd (by decide) c9)
              refine lv_iinc (v := (nI (k + 1))) (lv' := [(28, .int (nI (k + 1))), (27, .int ((sumN (thF α) k) + 0)), (30, .int ((draw to9 w9) - w9)), (29, .int (to9 - w9)), (0, .ref (gE G 6)), (1, .ref (gB G 0)), (2, .ref q0), (3, .int (nI tt)), (7, .int (nI n)), (13, .int (nI o9)), (14, .int F1), (15, .int F2), (16, .int F3), (18, .int (nI hN)), (19, .int lf9), (20, .int (nI jh)), (21, .ref qa), (22, .ref qb), (23, .ref qc), (24, .ref qd), (25, .ref qe), (26, .int (sumN (xR α) 20))]) S.1 S.2.1 dL_law_1106 hl (k := 21) rfl (nI_1 k) (by decide) rfl (fun ls hl => ?_)
              refine lv_goto (tgt := 861) S.1 S.2.1 dL_law_1109 (by decide) ?_
              exact ih (k + 1) (by omega) _ _ hJ ls (by rw [show sumN (thF α) (k + 1) = ((sumN (thF α) k) + 0) from by rw [sumN_s, hth0]]; exact lv_sub hl [4, 5, 6, 7, 8, 9, 10, 11, 12, 13, 14, 15, 16, 17, 18, 19, 20, 21, 1, 0] rfl)
          · obtain ⟨hA, -⟩ := (hq_h hs5 c2 : hourP to9 (3, sh, mk9, nI lf, nI ag, w9) = _ ∧ _)
            rw [hA] at hP2
            rw [hP2] at hth
            have hth0 : thF α k = 0 := by rw [hth]; exact if_neg (fun q => absurd q.1 (show ¬ (3 : Nat) = 2 by decide))
            rcases hnear with ⟨n1, n2⟩ | ⟨n1, n2, n3⟩ | ⟨n1, n2, n3⟩
            · refine lv_iload S.1 S.2.1 dL_law_861 (lv_at hl 19 rfl) ?_
              refine lv_iload S.1 S.2.1 dL_law_863 (lv_at hl 4 rfl) ?_
              refine lv_icmp_ge (tgt := 1112) S.1 S.2.1 dL_law_865 (by decide) (fun c9 => absurd c9 (nI_ge hk2 (by omega))) (fun cz_865 => ?_)
              refine lv_aload S.1 S.2.1 dL_law_868 (lv_at hl 15 rfl) ?_
              refine lv_iload S.1 S.2.1 dL_law_870 (lv_at hl 19 rfl) ?_
              refine i_y S hJ 3 rfl (j := k) hk2 (by omega) dL_law_872 ?_
              rw [show (f4 k) = (nI sh) from v4]
              refine lv_if_ge (tgt := 915) S.1 S.2.1 dL_law_873 (by decide) (fun cz_873 => ?_) (fun c9 => absurd (Int32.not_lt.mp (nI_pos (by omega))) c9)
              refine lv_aload_n S.1 S.2.1 dL_law_915 rfl (lv_at hl 1 rfl) ?_
              refine lv_aload S.1 S.2.1 dL_law_916 (lv_at hl 15 rfl) ?_
              refine lv_iload S.1 S.2.1 dL_law_918 (lv_at hl 19 rfl) ?_
              refine i_y S hJ 3 rfl (j := k) hk2 (by omega) dL_law_920 ?_
              rw [show (f4 k) = (nI sh) from v4]
              refine cz_i hJ (rzV (As := [.int (nI sh)]) (rest := []) S hJ (c_heatOn l _ (hourX α) hs5) (cw_L_X3_heatOn S.2.2.2.2 ⟨by omega, by omega⟩) (rcX hJ.iv) rfl hl.1 (Nat.le_of_ble_eq_true rfl) dL_law_921 ⟨by omega, by omega⟩) (fun r1 σ1 H locs hq1 hJ => ?_)
              obtain ⟨hr1, hs1⟩ := hq1
              rw [hs1] at hJ
              rw [hr1, hSt]
              refine lv_aload S.1 S.2.1 dL_law_924 (lv_at hl 13 rfl) ?_
              refine lv_iload S.1 S.2.1 dL_law_926 (lv_at hl 19 rfl) ?_
              refine i_y S hJ 1 rfl (j := k) hk2 (by omega) dL_law_928 ?_
              rw [show (f2 k) = w9 from v2]
              refine lv_isub S.1 S.2.1 dL_law_929 ?_
              refine lv_istore (lv' := [(29, .int (to9 - w9)), (0, .ref (gE G 6)), (1, .ref (gB G 0)), (2, .ref q0), (3, .int (nI tt)), (7, .int (nI n)), (13, .int (nI o9)), (14, .int F1), (15, .int F2), (16, .int F3), (18, .int (nI hN)), (19, .int lf9), (20, .int (nI jh)), (21, .ref qa), (22, .ref qb), (23, .ref qc), (24, .ref qd), (25, .ref qe), (26, .int (sumN (xR α) 20)), (27, .int (sumN (thF α) k)), (28, .int (nI k))]) S.1 S.2.1 dL_law_930 hl (by decide) rfl (fun ls hl => ?_)
              refine lv_aload_n S.1 S.2.1 dL_law_932 rfl (lv_at hl 2 rfl) ?_
              refine lv_iload S.1 S.2.1 dL_law_933 (lv_at hl 20 rfl) ?_
              refine cz_i hJ (rzV (As := [.int (nI k)]) (rest := []) S hJ (c_heatOf l _ (hourX α) hk2 hn hX2) (cw_L_X3_heatOf S.2.2.2.2 ⟨by omega, by omega⟩) (rcX hJ.iv) rfl hl.1 (Nat.le_of_ble_eq_true rfl) dL_law_935 ⟨by omega, by omega⟩) (fun r2 σ2 H locs hq2 hJ => ?_)
              obtain ⟨hr2, hs2⟩ := hq2
              rw [hs2] at hJ
              rw [hr2, show (gP (hourX α) k).2.2.2.2.2 = (draw to9 w9) from by rw [hP2]]
              refine lv_aload S.1 S.2.1 dL_law_938 (lv_at hl 14 rfl) ?_
              refine lv_iload S.1 S.2.1 dL_law_940 (lv_at hl 20 rfl) ?_
              refine i_y S hJ 1 rfl (j := k) hk2 (by omega) dL_law_942 ?_
              rw [show (f2 k) = w9 from v2]
              refine lv_isub S.1 S.2.1 dL_law_943 ?_
              refine lv_istore (lv' := [(30, .int ((draw to9 w9) - w9)), (29, .int (to9 - w9)), (0, .ref (gE G 6)), (1, .ref (gB G 0)), (2, .ref q0), (3, .int (nI tt)), (7, .int (nI n)), (13, .int (nI o9)), (14, .int F1), (15, .int F2), (16, .int F3), (18, .int (nI hN)), (19, .int lf9), (20, .int (nI jh)), (21, .ref qa), (22, .ref qb), (23, .ref qc), (24, .ref qd), (25, .ref qe), (26, .int (sumN (xR α) 20)), (27, .int (sumN (thF α) k)), (28, .int (nI k))]) S.1 S.2.1 dL_law_944 hl (by decide) rfl (fun ls hl => ?_)
              refine lv_iload S.1 S.2.1 dL_law_946 (lv_at hl 20 rfl) ?_
              refine lv_aload S.1 S.2.1 dL_law_948 (lv_at hl 18 rfl) ?_
              refine lv_iload S.1 S.2.1 dL_law_950 (lv_at hl 21 rfl) ?_
              refine i_yz S hJ 4 rfl (j := k) hk2 (by omega) dL_law_952 ?_
              rw [show (f5 k) = 0 from v5]
              refine lv_if_eq (tgt := 969) S.1 S.2.1 dL_law_953 (by decide) (fun cz_953 => ?_) (fun c9 => absurd (by decide) c9)
              refine lv_iconst (v := 0) S.1 S.2.1 dL_law_969 (by decide) ?_
              refine lv_iadd S.1 S.2.1 dL_law_970 ?_
              refine lv_istore (lv' := [(27, .int ((sumN (thF α) k) + 0)), (30, .int ((draw to9 w9) - w9)), (29, .int (to9 - w9)), (0, .ref (gE G 6)), (1, .ref (gB G 0)), (2, .ref q0), (3, .int (nI tt)), (7, .int (nI n)), (13, .int (nI o9)), (14, .int F1), (15, .int F2), (16, .int F3), (18, .int (nI hN)), (19, .int lf9), (20, .int (nI jh)), (21, .ref qa), (22, .ref qb), (23, .ref qc), (24, .ref qd), (25, .ref qe), (26, .int (sumN (xR α) 20)), (28, .int (nI k))]) S.1 S.2.1 dL_law_971 hl (by decide) rfl (fun ls hl => ?_)
              refine lv_iload S.1 S.2.1 dL_law_973 (lv_at hl 2 rfl) ?_
              refine lv_if_ne (tgt := 982) S.1 S.2.1 dL_law_975 (by decide) (fun c9 => absurd n1 c9) (fun cz_975 => ?_)
              refine lv_iconst (v := 1) S.1 S.2.1 dL_law_978 (by decide) ?_
              refine lv_goto (tgt := 983) S.1 S.2.1 dL_law_979 (by decide) ?_
              refine lv_iload S.1 S.2.1 dL_law_983 (lv_at hl 1 rfl) ?_
              refine lv_if_ne (tgt := 992) S.1 S.2.1 dL_law_985 (by decide) (fun c9 => absurd n2 c9) (fun cz_985 => ?_)
              refine lv_iconst (v := 1) S.1 S.2.1 dL_law_988 (by decide) ?_
              refine lv_goto (tgt := 993) S.1 S.2.1 dL_law_989 (by decide) ?_
              refine lv_icmp_ne (tgt := 1104) S.1 S.2.1 dL_law_993 (by decide) (fun c9 => absurd (by decide) c9) (fun cz_993 => ?_)
              refine lv_iload S.1 S.2.1 dL_law_996 (lv_at hl 2 rfl) ?_
              refine lv_if_le (tgt := 1014) S.1 S.2.1 dL_law_998 (by decide) (fun cz_998 => ?_) (fun c9 => absurd (by rw [n1]; exact Int32.le_refl 0) c9)
              refine lv_iload S.1 S.2.1 dL_law_1014 (lv_at hl 2 rfl) ?_
              refine lv_if_ge (tgt := 1032) S.1 S.2.1 dL_law_1016 (by decide) (fun cz_1016 => ?_) (fun c9 => absurd (by rw [n1]; exact Int32.le_refl 0) c9)
              refine lv_aload_n S.1 S.2.1 dL_law_1032 rfl (lv_at hl 4 rfl) ?_
              refine lv_iload S.1 S.2.1 dL_law_1033 (lv_at hl 21 rfl) ?_
              refine cz_i hJ (rzV (As := [.int (nI k)]) (rest := []) S hJ (c_ageOf l _ (hourX α) hk2 hn hX2) (cw_L_X3_ageOf S.2.2.2.2 ⟨by omega, by omega⟩) (rcX hJ.iv) rfl hl.1 (Nat.le_of_ble_eq_true rfl) dL_law_1035 ⟨by omega, by omega⟩) (fun r3 σ3 H locs hq3 hJ => ?_)
              obtain ⟨hr3, hs3⟩ := hq3
              rw [hs3] at hJ
              rw [hr3, show (gP (hourX α) k).2.2.2.2.1 = (nI ag + 1) from by rw [hP2]]
              refine lv_aload S.1 S.2.1 dL_law_1038 (lv_at hl 17 rfl) ?_
              refine lv_iload S.1 S.2.1 dL_law_1040 (lv_at hl 21 rfl) ?_
              refine i_y S hJ 2 rfl (j := k) hk2 (by omega) dL_law_1042 ?_
              rw [show (f3 k) = (nI ag) from v3]
              refine lv_aload_n S.1 S.2.1 dL_law_1043 rfl (lv_at hl 4 rfl) ?_
              refine lv_iload S.1 S.2.1 dL_law_1044 (lv_at hl 21 rfl) ?_
              refine cz_i hJ (rzV (As := [.int (nI k)]) (rest := [.int (nI ag), .int (nI ag + 1)]) S hJ (c_isFrozen l _ (hourX α) hok2 hk2 hn hX2) (cw_L_X3_isFrozen S.2.2.2.2 ⟨by omega, by omega⟩) (rcX hJ.iv) rfl hl.1 (Nat.le_of_ble_eq_true rfl) dL_law_1046 ⟨by omega, by omega⟩) (fun r4 σ4 H locs hq4 hJ => ?_)
              obtain ⟨hr4, hs4⟩ := hq4
              rw [hs4] at hJ
              rw [hr4, show (if (gP (hourX α) k).1 = 2 then (1 : Int32) else 0) = 0 from by rw [hP2]; rfl]
              refine lv_if_eq (tgt := 1056) S.1 S.2.1 dL_law_1049 (by decide) (fun cz_1049 => ?_) (fun c9 => absurd (by decide) c9)
              refine lv_iconst (v := 1) S.1 S.2.1 dL_law_1056 (by decide) ?_
              refine lv_iadd S.1 S.2.1 dL_law_1057 ?_
              refine lv_icmp_ne (tgt := 1104) S.1 S.2.1 dL_law_1058 (by decide) (fun c9 => absurd rfl c9) (fun cz_1058 => ?_)
              refine lv_aload_n S.1 S.2.1 dL_law_1061 rfl (lv_at hl 4 rfl) ?_
              refine lv_iload S.1 S.2.1 dL_law_1062 (lv_at hl 21 rfl) ?_
              refine cz_i hJ (rzV (As := [.int (nI k)]) (rest := []) S hJ (c_isFrozen l _ (hourX α) hok2 hk2 hn hX2) (cw_L_X3_isFrozen S.2.2.2.2 ⟨by omega, by omega⟩) (rcX hJ.iv) rfl hl.1 (Nat.le_of_ble_eq_true rfl) dL_law_1064 ⟨by omega, by omega⟩) (fun r5 σ5 H locs hq5 hJ => ?_)
              obtain ⟨hr5, hs5⟩ := hq5
              rw [hs5] at hJ
              rw [hr5, show (if (gP (hourX α) k).1 = 2 then (1 : Int32) else 0) = 0 from by rw [hP2]; rfl]
              refine lv_if_eq (tgt := 1081) S.1 S.2.1 dL_law_1067 (by decide) (fun cz_1067 => ?_) (fun c9 => absurd (by decide) c9)
              refine lv_aload_n S.1 S.2.1 dL_law_1081 rfl (lv_at hl 4 rfl) ?_
              refine lv_iload S.1 S.2.1 dL_law_1082 (lv_at hl 21 rfl) ?_
              refine cz_i hJ (rzV (As := [.int (nI k)]) (rest := []) S hJ (c_isExpired l _ (hourX α) hok2 hk2 hn hX2) (cw_L_X3_isExpired S.2.2.2.2 ⟨by omega, by omega⟩) (rcX hJ.iv) rfl hl.1 (Nat.le_of_ble_eq_true rfl) dL_law_1084 ⟨by omega, by omega⟩) (fun r6 σ6 H locs hq6 hJ => ?_)
              obtain ⟨hr6, hs6⟩ := hq6
              rw [hs6] at hJ
              rw [hr6, show (if (gP (hourX α) k).1 = 5 then (1 : Int32) else 0) = 1 from by rw [hP2]; rfl]
              refine lv_aload_n S.1 S.2.1 dL_law_1087 rfl (lv_at hl 4 rfl) ?_
              refine lv_iload S.1 S.2.1 dL_law_1088 (lv_at hl 21 rfl) ?_
              refine cz_i hJ (rzV (As := [.int (nI k)]) (rest := [.int 1]) S hJ (c_hoursLeft l _ (hourX α) hk2 hn hX2) (cw_L_X3_hoursLeft S.2.2.2.2 ⟨by omega, by omega⟩) (rcX hJ.iv) rfl hl.1 (Nat.le_of_ble_eq_true rfl) dL_law_1090 ⟨by omega, by omega⟩) (fun r7 σ7 H locs hq7 hJ => ?_)
              obtain ⟨hr7, hs7⟩ := hq7
              rw [hs7] at hJ
              rw [hr7, show (gP (hourX α) k).2.2.2.1 - (gP (hourX α) k).2.2.2.2.1 = nI lf - (nI ag + 1) from by rw [hP2]]
              refine lv_if_ne (tgt := 1100) S.1 S.2.1 dL_law_1093 (by decide) (fun c9 => absurd (old_0 c2 hal e5) c9) (fun cz_1093 => ?_)
              refine lv_iconst (v := 1) S.1 S.2.1 dL_law_1096 (by decide) ?_
              refine lv_goto (tgt := 1101) S.1 S.2.1 dL_law_1097 (by decide) ?_
              refine lv_icmp_eq (tgt := 1106) S.1 S.2.1 dL_law_1101 (by decide) (fun cz_1101 => ?_) (fun c9 => absurd (by decide) c9)
              refine lv_iinc (v := (nI (k + 1))) (lv' := [(28, .int (nI (k + 1))), (27, .int ((sumN (thF α) k) + 0)), (30, .int ((draw to9 w9) - w9)), (29, .int (to9 - w9)), (0, .ref (gE G 6)), (1, .ref (gB G 0)), (2, .ref q0), (3, .int (nI tt)), (7, .int (nI n)), (13, .int (nI o9)), (14, .int F1), (15, .int F2), (16, .int F3), (18, .int (nI hN)), (19, .int lf9), (20, .int (nI jh)), (21, .ref qa), (22, .ref qb), (23, .ref qc), (24, .ref qd), (25, .ref qe), (26, .int (sumN (xR α) 20))]) S.1 S.2.1 dL_law_1106 hl (k := 21) rfl (nI_1 k) (by decide) rfl (fun ls hl => ?_)
              refine lv_goto (tgt := 861) S.1 S.2.1 dL_law_1109 (by decide) ?_
              exact ih (k + 1) (by omega) _ _ hJ ls (by rw [show sumN (thF α) (k + 1) = ((sumN (thF α) k) + 0) from by rw [sumN_s, hth0]]; exact lv_sub hl [4, 5, 6, 7, 8, 9, 10, 11, 12, 13, 14, 15, 16, 17, 18, 19, 20, 21, 1, 0] rfl)
            · refine lv_iload S.1 S.2.1 dL_law_861 (lv_at hl 19 rfl) ?_
              refine lv_iload S.1 S.2.1 dL_law_863 (lv_at hl 4 rfl) ?_
              refine lv_icmp_ge (tgt := 1112) S.1 S.2.1 dL_law_865 (by decide) (fun c9 => absurd c9 (nI_ge hk2 (by omega))) (fun cz_865 => ?_)
              refine lv_aload S.1 S.2.1 dL_law_868 (lv_at hl 15 rfl) ?_
              refine lv_iload S.1 S.2.1 dL_law_870 (lv_at hl 19 rfl) ?_
              refine i_y S hJ 3 rfl (j := k) hk2 (by omega) dL_law_872 ?_
              rw [show (f4 k) = (nI sh) from v4]
              refine lv_if_ge (tgt := 915) S.1 S.2.1 dL_law_873 (by decide) (fun cz_873 => ?_) (fun c9 => absurd (Int32.not_lt.mp (nI_pos (by omega))) c9)
              refine lv_aload_n S.1 S.2.1 dL_law_915 rfl (lv_at hl 1 rfl) ?_
              refine lv_aload S.1 S.2.1 dL_law_916 (lv_at hl 15 rfl) ?_
              refine lv_iload S.1 S.2.1 dL_law_918 (lv_at hl 19 rfl) ?_
              refine i_y S hJ 3 rfl (j := k) hk2 (by omega) dL_law_920 ?_
              rw [show (f4 k) = (nI sh) from v4]
              refine cz_i hJ (rzV (As := [.int (nI sh)]) (rest := []) S hJ (c_heatOn l _ (hourX α) hs5) (cw_L_X3_heatOn S.2.2.2.2 ⟨by omega, by omega⟩) (rcX hJ.iv) rfl hl.1 (Nat.le_of_ble_eq_true rfl) dL_law_921 ⟨by omega, by omega⟩) (fun r1 σ1 H locs hq1 hJ => ?_)
              obtain ⟨hr1, hs1⟩ := hq1
              rw [hs1] at hJ
              rw [hr1, hSt]
              refine lv_aload S.1 S.2.1 dL_law_924 (lv_at hl 13 rfl) ?_
              refine lv_iload S.1 S.2.1 dL_law_926 (lv_at hl 19 rfl) ?_
              refine i_y S hJ 1 rfl (j := k) hk2 (by omega) dL_law_928 ?_
              rw [show (f2 k) = w9 from v2]
              refine lv_isub S.1 S.2.1 dL_law_929 ?_
              refine lv_istore (lv' := [(29, .int (to9 - w9)), (0, .ref (gE G 6)), (1, .ref (gB G 0)), (2, .ref q0), (3, .int (nI tt)), (7, .int (nI n)), (13, .int (nI o9)), (14, .int F1), (15, .int F2), (16, .int F3), (18, .int (nI hN)), (19, .int lf9), (20, .int (nI jh)), (21, .ref qa), (22, .ref qb), (23, .ref qc), (24, .ref qd), (25, .ref qe), (26, .int (sumN (xR α) 20)), (27, .int (sumN (thF α) k)), (28, .int (nI k))]) S.1 S.2.1 dL_law_930 hl (by decide) rfl (fun ls hl => ?_)
              refine lv_aload_n S.1 S.2.1 dL_law_932 rfl (lv_at hl 2 rfl) ?_
              refine lv_iload S.1 S.2.1 dL_law_933 (lv_at hl 20 rfl) ?_
              refine cz_i hJ (rzV (As := [.int (nI k)]) (rest := []) S hJ (c_heatOf l _ (hourX α) hk2 hn hX2) (cw_L_X3_heatOf S.2.2.2.2 ⟨by omega, by omega⟩) (rcX hJ.iv) rfl hl.1 (Nat.le_of_ble_eq_true rfl) dL_law_935 ⟨by omega, by omega⟩) (fun r2 σ2 H locs hq2 hJ => ?_)
              obtain ⟨hr2, hs2⟩ := hq2
              rw [hs2] at hJ
              rw [hr2, show (gP (hourX α) k).2.2.2.2.2 = (draw to9 w9) from by rw [hP2]]
              refine lv_aload S.1 S.2.1 dL_law_938 (lv_at hl 14 rfl) ?_
              refine lv_iload S.1 S.2.1 dL_law_940 (lv_at hl 20 rfl) ?_
              refine i_y S hJ 1 rfl (j := k) hk2 (by omega) dL_law_942 ?_
              rw [show (f2 k) = w9 from v2]
              refine lv_isub S.1 S.2.1 dL_law_943 ?_
              refine lv_istore (lv' := [(30, .int ((draw to9 w9) - w9)), (29, .int (to9 - w9)), (0, .ref (gE G 6)), (1, .ref (gB G 0)), (2, .ref q0), (3, .int (nI tt)), (7, .int (nI n)), (13, .int (nI o9)), (14, .int F1), (15, .int F2), (16, .int F3), (18, .int (nI hN)), (19, .int lf9), (20, .int (nI jh)), (21, .ref qa), (22, .ref qb), (23, .ref qc), (24, .ref qd), (25, .ref qe), (26, .int (sumN (xR α) 20)), (27, .int (sumN (thF α) k)), (28, .int (nI k))]) S.1 S.2.1 dL_law_944 hl (by decide) rfl (fun ls hl => ?_)
              refine lv_iload S.1 S.2.1 dL_law_946 (lv_at hl 20 rfl) ?_
              refine lv_aload S.1 S.2.1 dL_law_948 (lv_at hl 18 rfl) ?_
              refine lv_iload S.1 S.2.1 dL_law_950 (lv_at hl 21 rfl) ?_
              refine i_yz S hJ 4 rfl (j := k) hk2 (by omega) dL_law_952 ?_
              rw [show (f5 k) = 0 from v5]
              refine lv_if_eq (tgt := 969) S.1 S.2.1 dL_law_953 (by decide) (fun cz_953 => ?_) (fun c9 => absurd (by decide) c9)
              refine lv_iconst (v := 0) S.1 S.2.1 dL_law_969 (by decide) ?_
              refine lv_iadd S.1 S.2.1 dL_law_970 ?_
              refine lv_istore (lv' := [(27, .int ((sumN (thF α) k) + 0)), (30, .int ((draw to9 w9) - w9)), (29, .int (to9 - w9)), (0, .ref (gE G 6)), (1, .ref (gB G 0)), (2, .ref q0), (3, .int (nI tt)), (7, .int (nI n)), (13, .int (nI o9)), (14, .int F1), (15, .int F2), (16, .int F3), (18, .int (nI hN)), (19, .int lf9), (20, .int (nI jh)), (21, .ref qa), (22, .ref qb), (23, .ref qc), (24, .ref qd), (25, .ref qe), (26, .int (sumN (xR α) 20)), (28, .int (nI k))]) S.1 S.2.1 dL_law_971 hl (by decide) rfl (fun ls hl => ?_)
              refine lv_iload S.1 S.2.1 dL_law_973 (lv_at hl 2 rfl) ?_
              refine lv_if_ne (tgt := 982) S.1 S.2.1 dL_law_975 (by decide) (fun cz_975 => ?_) (fun c9 => absurd c9 (pos_ne n1))
              refine lv_iconst (v := 0) S.1 S.2.1 dL_law_982 (by decide) ?_
              refine lv_iload S.1 S.2.1 dL_law_983 (lv_at hl 1 rfl) ?_
              refine lv_if_ne (tgt := 992) S.1 S.2.1 dL_law_985 (by decide) (fun cz_985 => ?_) (fun c9 => absurd c9 (one_ne n2))
              refine lv_iconst (v := 0) S.1 S.2.1 dL_law_992 (by decide) ?_
              refine lv_icmp_ne (tgt := 1104) S.1 S.2.1 dL_law_993 (by decide) (fun c9 => absurd (by decide) c9) (fun cz_993 => ?_)
              refine lv_iload S.1 S.2.1 dL_law_996 (lv_at hl 2 rfl) ?_
              refine lv_if_le (tgt := 1014) S.1 S.2.1 dL_law_998 (by decide) (fun c9 => absurd c9 (Int32.not_le.mpr n1)) (fun cz_998 => ?_)
              refine lv_iload S.1 S.2.1 dL_law_1001 (lv_at hl 1 rfl) ?_
              refine lv_iconst (v := 1) S.1 S.2.1 dL_law_1003 (by decide) ?_
              refine lv_icmp_lt (tgt := 1104) S.1 S.2.1 dL_law_1004 (by decide) (fun c9 => absurd c9 (Int32.not_lt.mpr n2)) (fun cz_1004 => ?_)
              refine lv_iload S.1 S.2.1 dL_law_1007 (lv_at hl 1 rfl) ?_
              refine lv_iload S.1 S.2.1 dL_law_1009 (lv_at hl 2 rfl) ?_
              refine lv_icmp_gt (tgt := 1104) S.1 S.2.1 dL_law_1011 (by decide) (fun c9 => absurd c9 (Int32.not_lt.mpr n3)) (fun cz_1011 => ?_)
              refine lv_iload S.1 S.2.1 dL_law_1014 (lv_at hl 2 rfl) ?_
              refine lv_if_ge (tgt := 1032) S.1 S.2.1 dL_law_1016 (by decide) (fun cz_1016 => ?_) (fun c9 => absurd (Int32.le_of_lt n1) c9)
              refine lv_aload_n S.1 S.2.1 dL_law_1032 rfl (lv_at hl 4 rfl) ?_
              refine lv_iload S.1 S.2.1 dL_law_1033 (lv_at hl 21 rfl) ?_
              refine cz_i hJ (rzV (As := [.int (nI k)]) (rest := []) S hJ (c_ageOf l _ (hourX α) hk2 hn hX2) (cw_L_X3_ageOf S.2.2.2.2 ⟨by omega, by omega⟩) (rcX hJ.iv) rfl hl.1 (Nat.le_of_ble_eq_true rfl) dL_law_1035 ⟨by omega, by omega⟩) (fun r3 σ3 H locs hq3 hJ => ?_)
              obtain ⟨hr3, hs3⟩ := hq3
              rw [hs3] at hJ
              rw [hr3, show (gP (hourX α) k).2.2.2.2.1 = (nI ag + 1) from by rw [hP2]]
              refine lv_aload S.1 S.2.1 dL_law_1038 (lv_at hl 17 rfl) ?_
              refine lv_iload S.1 S.2.1 dL_law_1040 (lv_at hl 21 rfl) ?_
              refine i_y S hJ 2 rfl (j := k) hk2 (by omega) dL_law_1042 ?_
              rw [show (f3 k) = (nI ag) from v3]
              refine lv_aload_n S.1 S.2.1 dL_law_1043 rfl (lv_at hl 4 rfl) ?_
              refine lv_iload S.1 S.2.1 dL_law_1044 (lv_at hl 21 rfl) ?_
              refine cz_i hJ (rzV (As := [.int (nI k)]) (rest := [.int (nI ag), .int (nI ag + 1)]) S hJ (c_isFrozen l _ (hourX α) hok2 hk2 hn hX2) (cw_L_X3_isFrozen S.2.2.2.2 ⟨by omega, by omega⟩) (rcX hJ.iv) rfl hl.1 (Nat.le_of_ble_eq_true rfl) dL_law_1046 ⟨by omega, by omega⟩) (fun r4 σ4 H locs hq4 hJ => ?_)
              obtain ⟨hr4, hs4⟩ := hq4
              rw [hs4] at hJ
              rw [hr4, show (if (gP (hourX α) k).1 = 2 then (1 : Int32) else 0) = 0 from by rw [hP2]; rfl]
              refine lv_if_eq (tgt := 1056) S.1 S.2.1 dL_law_1049 (by decide) (fun cz_1049 => ?_) (fun c9 => absurd (by decide) c9)
              refine lv_iconst (v := 1) S.1 S.2.1 dL_law_1056 (by decide) ?_
              refine lv_iadd S.1 S.2.1 dL_law_1057 ?_
              refine lv_icmp_ne (tgt := 1104) S.1 S.2.1 dL_law_1058 (by decide) (fun c9 => absurd rfl c9) (fun cz_1058 => ?_)
              refine lv_aload_n S.1 S.2.1 dL_law_1061 rfl (lv_at hl 4 rfl) ?_
              refine lv_iload S.1 S.2.1 dL_law_1062 (lv_at hl 21 rfl) ?_
              refine cz_i hJ (rzV (As := [.int (nI k)]) (rest := []) S hJ (c_isFrozen l _ (hourX α) hok2 hk2 hn hX2) (cw_L_X3_isFrozen S.2.2.2.2 ⟨by omega, by omega⟩) (rcX hJ.iv) rfl hl.1 (Nat.le_of_ble_eq_true rfl) dL_law_1064 ⟨by omega, by omega⟩) (fun r5 σ5 H locs hq5 hJ => ?_)
              obtain ⟨hr5, hs5⟩ := hq5
              rw [hs5] at hJ
              rw [hr5, show (if (gP (hourX α) k).1 = 2 then (1 : Int32) else 0) = 0 from by rw [hP2]; rfl]
              refine lv_if_eq (tgt := 1081) S.1 S.2.1 dL_law_1067 (by decide) (fun cz_1067 => ?_) (fun c9 => absurd (by decide) c9)
              refine lv_aload_n S.1 S.2.1 dL_law_1081 rfl (lv_at hl 4 rfl) ?_
              refine lv_iload S.1 S.2.1 dL_law_1082 (lv_at hl 21 rfl) ?_
              refine cz_i hJ (rzV (As := [.int (nI k)]) (rest := []) S hJ (c_isExpired l _ (hourX α) hok2 hk2 hn hX2) (cw_L_X3_isExpired S.2.2.2.2 ⟨by omega, by omega⟩) (rcX hJ.iv) rfl hl.1 (Nat.le_of_ble_eq_true rfl) dL_law_1084 ⟨by omega, by omega⟩) (fun r6 σ6 H locs hq6 hJ => ?_)
              obtain ⟨hr6, hs6⟩ := hq6
              rw [hs6] at hJ
              rw [hr6, show (if (gP (hourX α) k).1 = 5 then (1 : Int32) else 0) = 1 from by rw [hP2]; rfl]
              refine lv_aload_n S.1 S.2.1 dL_law_1087 rfl (lv_at hl 4 rfl) ?_
              refine lv_iload S.1 S.2.1 dL_law_1088 (lv_at hl 21 rfl) ?_
              refine cz_i hJ (rzV (As := [.int (nI k)]) (rest := [.int 1]) S hJ (c_hoursLeft l _ (hourX α) hk2 hn hX2) (cw_L_X3_hoursLeft S.2.2.2.2 ⟨by omega, by omega⟩) (rcX hJ.iv) rfl hl.1 (Nat.le_of_ble_eq_true rfl) dL_law_1090 ⟨by omega, by omega⟩) (fun r7 σ7 H locs hq7 hJ => ?_)
              obtain ⟨hr7, hs7⟩ := hq7
              rw [hs7] at hJ
              rw [hr7, show (gP (hourX α) k).2.2.2.1 - (gP (hourX α) k).2.2.2.2.1 = nI lf - (nI ag + 1) from by rw [hP2]]
              refine lv_if_ne (tgt := 1100) S.1 S.2.1 dL_law_1093 (by decide) (fun c9 => absurd (old_0 c2 hal e5) c9) (fun cz_1093 => ?_)
              refine lv_iconst (v := 1) S.1 S.2.1 dL_law_1096 (by decide) ?_
              refine lv_goto (tgt := 1101) S.1 S.2.1 dL_law_1097 (by decide) ?_
              refine lv_icmp_eq (tgt := 1106) S.1 S.2.1 dL_law_1101 (by decide) (fun cz_1101 => ?_) (fun c9 => absurd (by decide) c9)
              refine lv_iinc (v := (nI (k + 1))) (lv' := [(28, .int (nI (k + 1))), (27, .int ((sumN (thF α) k) + 0)), (30, .int ((draw to9 w9) - w9)), (29, .int (to9 - w9)), (0, .ref (gE G 6)), (1, .ref (gB G 0)), (2, .ref q0), (3, .int (nI tt)), (7, .int (nI n)), (13, .int (nI o9)), (14, .int F1), (15, .int F2), (16, .int F3), (18, .int (nI hN)), (19, .int lf9), (20, .int (nI jh)), (21, .ref qa), (22, .ref qb), (23, .ref qc), (24, .ref qd), (25, .ref qe), (26, .int (sumN (xR α) 20))]) S.1 S.2.1 dL_law_1106 hl (k := 21) rfl (nI_1 k) (by decide) rfl (fun ls hl => ?_)
              refine lv_goto (tgt := 861) S.1 S.2.1 dL_law_1109 (by decide) ?_
              exact ih (k + 1) (by omega) _ _ hJ ls (by rw [show sumN (thF α) (k + 1) = ((sumN (thF α) k) + 0) from by rw [sumN_s, hth0]]; exact lv_sub hl [4, 5, 6, 7, 8, 9, 10, 11, 12, 13, 14, 15, 16, 17, 18, 19, 20, 21, 1, 0] rfl)
            · refine lv_iload S.1 S.2.1 dL_law_861 (lv_at hl 19 rfl) ?_
              refine lv_iload S.1 S.2.1 dL_law_863 (lv_at hl 4 rfl) ?_
              refine lv_icmp_ge (tgt := 1112) S.1 S.2.1 dL_law_865 (by decide) (fun c9 => absurd c9 (nI_ge hk2 (by omega))) (fun cz_865 => ?_)
              refine lv_aload S.1 S.2.1 dL_law_868 (lv_at hl 15 rfl) ?_
              refine lv_iload S.1 S.2.1 dL_law_870 (lv_at hl 19 rfl) ?_
              refine i_y S hJ 3 rfl (j := k) hk2 (by omega) dL_law_872 ?_
              rw [show (f4 k) = (nI sh) from v4]
              refine lv_if_ge (tgt := 915) S.1 S.2.1 dL_law_873 (by decide) (fun cz_873 => ?_) (fun c9 => absurd (Int32.not_lt.mp (nI_pos (by omega))) c9)
              refine lv_aload_n S.1 S.2.1 dL_law_915 rfl (lv_at hl 1 rfl) ?_
              refine lv_aload S.1 S.2.1 dL_law_916 (lv_at hl 15 rfl) ?_
              refine lv_iload S.1 S.2.1 dL_law_918 (lv_at hl 19 rfl) ?_
              refine i_y S hJ 3 rfl (j := k) hk2 (by omega) dL_law_920 ?_
              rw [show (f4 k) = (nI sh) from v4]
              refine cz_i hJ (rzV (As := [.int (nI sh)]) (rest := []) S hJ (c_heatOn l _ (hourX α) hs5) (cw_L_X3_heatOn S.2.2.2.2 ⟨by omega, by omega⟩) (rcX hJ.iv) rfl hl.1 (Nat.le_of_ble_eq_true rfl) dL_law_921 ⟨by omega, by omega⟩) (fun r1 σ1 H locs hq1 hJ => ?_)
              obtain ⟨hr1, hs1⟩ := hq1
              rw [hs1] at hJ
              rw [hr1, hSt]
              refine lv_aload S.1 S.2.1 dL_law_924 (lv_at hl 13 rfl) ?_
              refine lv_iload S.1 S.2.1 dL_law_926 (lv_at hl 19 rfl) ?_
              refine i_y S hJ 1 rfl (j := k) hk2 (by omega) dL_law_928 ?_
              rw [show (f2 k) = w9 from v2]
              refine lv_isub S.1 S.2.1 dL_law_929 ?_
              refine lv_istore (lv' := [(29, .int (to9 - w9)), (0, .ref (gE G 6)), (1, .ref (gB G 0)), (2, .ref q0), (3, .int (nI tt)), (7, .int (nI n)), (13, .int (nI o9)), (14, .int F1), (15, .int F2), (16, .int F3), (18, .int (nI hN)), (19, .int lf9), (20, .int (nI jh)), (21, .ref qa), (22, .ref qb), (23, .ref qc), (24, .ref qd), (25, .ref qe), (26, .int (sumN (xR α) 20)), (27, .int (sumN (thF α) k)), (28, .int (nI k))]) S.1 S.2.1 dL_law_930 hl (by decide) rfl (fun ls hl => ?_)
              refine lv_aload_n S.1 S.2.1 dL_law_932 rfl (lv_at hl 2 rfl) ?_
              refine lv_iload S.1 S.2.1 dL_law_933 (lv_at hl 20 rfl) ?_
              refine cz_i hJ (rzV (As := [.int (nI k)]) (rest := []) S hJ (c_heatOf l _ (hourX α) hk2 hn hX2) (cw_L_X3_heatOf S.2.2.2.2 ⟨by omega, by omega⟩) (rcX hJ.iv) rfl hl.1 (Nat.le_of_ble_eq_true rfl) dL_law_935 ⟨by omega, by omega⟩) (fun r2 σ2 H locs hq2 hJ => ?_)
              obtain ⟨hr2, hs2⟩ := hq2
              rw [hs2] at hJ
              rw [hr2, show (gP (hourX α) k).2.2.2.2.2 = (draw to9 w9) from by rw [hP2]]
              refine lv_aload S.1 S.2.1 dL_law_938 (lv_at hl 14 rfl) ?_
              refine lv_iload S.1 S.2.1 dL_law_940 (lv_at hl 20 rfl) ?_
              refine i_y S hJ 1 rfl (j := k) hk2 (by omega) dL_law_942 ?_
              rw [show (f2 k) = w9 from v2]
              refine lv_isub S.1 S.2.1 dL_law_943 ?_
              refine lv_istore (lv' := [(30, .int ((draw to9 w9) - w9)), (29, .int (to9 - w9)), (0, .ref (gE G 6)), (1, .ref (gB G 0)), (2, .ref q0), (3, .int (nI tt)), (7, .int (nI n)), (13, .int (nI o9)), (14, .int F1), (15, .int F2), (16, .int F3), (18, .int (nI hN)), (19, .int lf9), (20, .int (nI jh)), (21, .ref qa), (22, .ref qb), (23, .ref qc), (24, .ref qd), (25, .ref qe), (26, .int (sumN (xR α) 20)), (27, .int (sumN (thF α) k)), (28, .int (nI k))]) S.1 S.2.1 dL_law_944 hl (by decide) rfl (fun ls hl => ?_)
              refine lv_iload S.1 S.2.1 dL_law_946 (lv_at hl 20 rfl) ?_
              refine lv_aload S.1 S.2.1 dL_law_948 (lv_at hl 18 rfl) ?_
              refine lv_iload S.1 S.2.1 dL_law_950 (lv_at hl 21 rfl) ?_
              refine i_yz S hJ 4 rfl (j := k) hk2 (by omega) dL_law_952 ?_
              rw [show (f5 k) = 0 from v5]
              refine lv_if_eq (tgt := 969) S.1 S.2.1 dL_law_953 (by decide) (fun cz_953 => ?_) (fun c9 => absurd (by decide) c9)
              refine lv_iconst (v := 0) S.1 S.2.1 dL_law_969 (by decide) ?_
              refine lv_iadd S.1 S.2.1 dL_law_970 ?_
              refine lv_istore (lv' := [(27, .int ((sumN (thF α) k) + 0)), (30, .int ((draw to9 w9) - w9)), (29, .int (to9 - w9)), (0, .ref (gE G 6)), (1, .ref (gB G 0)), (2, .ref q0), (3, .int (nI tt)), (7, .int (nI n)), (13, .int (nI o9)), (14, .int F1), (15, .int F2), (16, .int F3), (18, .int (nI hN)), (19, .int lf9), (20, .int (nI jh)), (21, .ref qa), (22, .ref qb), (23, .ref qc), (24, .ref qd), (25, .ref qe), (26, .int (sumN (xR α) 20)), (28, .int (nI k))]) S.1 S.2.1 dL_law_971 hl (by decide) rfl (fun ls hl => ?_)
              refine lv_iload S.1 S.2.1 dL_law_973 (lv_at hl 2 rfl) ?_
              refine lv_if_ne (tgt := 982) S.1 S.2.1 dL_law_975 (by decide) (fun cz_975 => ?_) (fun c9 => absurd c9 (neg_ne n1))
              refine lv_iconst (v := 0) S.1 S.2.1 dL_law_982 (by decide) ?_
              refine lv_iload S.1 S.2.1 dL_law_983 (lv_at hl 1 rfl) ?_
              refine lv_if_ne (tgt := 992) S.1 S.2.1 dL_law_985 (by decide) (fun cz_985 => ?_) (fun c9 => absurd c9 (mone_ne n2))
              refine lv_iconst (v := 0) S.1 S.2.1 dL_law_992 (by decide) ?_
              refine lv_icmp_ne (tgt := 1104) S.1 S.2.1 dL_law_993 (by decide) (fun c9 => absurd (by decide) c9) (fun cz_993 => ?_)
              refine lv_iload S.1 S.2.1 dL_law_996 (lv_at hl 2 rfl) ?_
              refine lv_if_le (tgt := 1014) S.1 S.2.1 dL_law_998 (by decide) (fun cz_998 => ?_) (fun c9 => absurd (Int32.le_of_lt n1) c9)
              refine lv_iload S.1 S.2.1 dL_law_1014 (lv_at hl 2 rfl) ?_
              refine lv_if_ge (tgt := 1032) S.1 S.2.1 dL_law_1016 (by decide) (fun c9 => absurd c9 (Int32.not_le.mpr n1)) (fun cz_1016 => ?_)
              refine lv_iload S.1 S.2.1 dL_law_1019 (lv_at hl 1 rfl) ?_
              refine lv_iconst (v := (-1)) S.1 S.2.1 dL_law_1021 (by decide) ?_
              refine lv_icmp_gt (tgt := 1104) S.1 S.2.1 dL_law_1022 (by decide) (fun c9 => absurd c9 (Int32.not_lt.mpr n2)) (fun cz_1022 => ?_)
              refine lv_iload S.1 S.2.1 dL_law_1025 (lv_at hl 1 rfl) ?_
              refine lv_iload S.1 S.2.1 dL_law_1027 (lv_at hl 2 rfl) ?_
              refine lv_icmp_lt (tgt := 1104) S.1 S.2.1 dL_law_1029 (by decide) (fun c9 => absurd c9 (Int32.not_lt.mpr n3)) (fun cz_1029 => ?_)
              refine lv_aload_n S.1 S.2.1 dL_law_1032 rfl (lv_at hl 4 rfl) ?_
              refine lv_iload S.1 S.2.1 dL_law_1033 (lv_at hl 21 rfl) ?_
              refine cz_i hJ (rzV (As := [.int (nI k)]) (rest := []) S hJ (c_ageOf l _ (hourX α) hk2 hn hX2) (cw_L_X3_ageOf S.2.2.2.2 ⟨by omega, by omega⟩) (rcX hJ.iv) rfl hl.1 (Nat.le_of_ble_eq_true rfl) dL_law_1035 ⟨by omega, by omega⟩) (fun r3 σ3 H locs hq3 hJ => ?_)
              obtain ⟨hr3, hs3⟩ := hq3
              rw [hs3] at hJ
              rw [hr3, show (gP (hourX α) k).2.2.2.2.1 = (nI ag + 1) from by rw [hP2]]
              refine lv_aload S.1 S.2.1 dL_law_1038 (lv_at hl 17 rfl) ?_
              refine lv_iload S.1 S.2.1 dL_law_1040 (lv_at hl 21 rfl) ?_
              refine i_y S hJ 2 rfl (j := k) hk2 (by omega) dL_law_1042 ?_
              rw [show (f3 k) = (nI ag) from v3]
              refine lv_aload_n S.1 S.2.1 dL_law_1043 rfl (lv_at hl 4 rfl) ?_
              refine lv_iload S.1 S.2.1 dL_law_1044 (lv_at hl 21 rfl) ?_
              refine cz_i hJ (rzV (As := [.int (nI k)]) (rest := [.int (nI ag), .int (nI ag + 1)]) S hJ (c_isFrozen l _ (hourX α) hok2 hk2 hn hX2) (cw_L_X3_isFrozen S.2.2.2.2 ⟨by omega, by omega⟩) (rcX hJ.iv) rfl hl.1 (Nat.le_of_ble_eq_true rfl) dL_law_1046 ⟨by omega, by omega⟩) (fun r4 σ4 H locs hq4 hJ => ?_)
              obtain ⟨hr4, hs4⟩ := hq4
              rw [hs4] at hJ
              rw [hr4, show (if (gP (hourX α) k).1 = 2 then (1 : Int32) else 0) = 0 from by rw [hP2]; rfl]
              refine lv_if_eq (tgt := 1056) S.1 S.2.1 dL_law_1049 (by decide) (fun cz_1049 => ?_) (fun c9 => absurd (by decide) c9)
              refine lv_iconst (v := 1) S.1 S.2.1 dL_law_1056 (by decide) ?_
              refine lv_iadd S.1 S.2.1 dL_law_1057 ?_
              refine lv_icmp_ne (tgt := 1104) S.1 S.2.1 dL_law_1058 (by decide) (fun c9 => absurd rfl c9) (fun cz_1058 => ?_)
              refine lv_aload_n S.1 S.2.1 dL_law_1061 rfl (lv_at hl 4 rfl) ?_
              refine lv_iload S.1 S.2.1 dL_law_1062 (lv_at hl 21 rfl) ?_
              refine cz_i hJ (rzV (As := [.int (nI k)]) (rest := []) S hJ (c_isFrozen l _ (hourX α) hok2 hk2 hn hX2) (cw_L_X3_isFrozen S.2.2.2.2 ⟨by omega, by omega⟩) (rcX hJ.iv) rfl hl.1 (Nat.le_of_ble_eq_true rfl) dL_law_1064 ⟨by omega, by omega⟩) (fun r5 σ5 H locs hq5 hJ => ?_)
              obtain ⟨hr5, hs5⟩ := hq5
              rw [hs5] at hJ
              rw [hr5, show (if (gP (hourX α) k).1 = 2 then (1 : Int32) else 0) = 0 from by rw [hP2]; rfl]
              refine lv_if_eq (tgt := 1081) S.1 S.2.1 dL_law_1067 (by decide) (fun cz_1067 => ?_) (fun c9 => absurd (by decide) c9)
              refine lv_aload_n S.1 S.2.1 dL_law_1081 rfl (lv_at hl 4 rfl) ?_
              refine lv_iload S.1 S.2.1 dL_law_1082 (lv_at hl 21 rfl) ?_
              refine cz_i hJ (rzV (As := [.int (nI k)]) (rest := []) S hJ (c_isExpired l _ (hourX α) hok2 hk2 hn hX2) (cw_L_X3_isExpired S.2.2.2.2 ⟨by omega, by omega⟩) (rcX hJ.iv) rfl hl.1 (Nat.le_of_ble_eq_true rfl) dL_law_1084 ⟨by omega, by omega⟩) (fun r6 σ6 H locs hq6 hJ => ?_)
              obtain ⟨hr6, hs6⟩ := hq6
              rw [hs6] at hJ
              rw [hr6, show (if (gP (hourX α) k).1 = 5 then (1 : Int32) else 0) = 1 from by rw [hP2]; rfl]
              refine lv_aload_n S.1 S.2.1 dL_law_1087 rfl (lv_at hl 4 rfl) ?_
              refine lv_iload S.1 S.2.1 dL_law_1088 (lv_at hl 21 rfl) ?_
              refine cz_i hJ (rzV (As := [.int (nI k)]) (rest := [.int 1]) S hJ (c_hoursLeft l _ (hourX α) hk2 hn hX2) (cw_L_X3_hoursLeft S.2.2.2.2 ⟨by omega, by omega⟩) (rcX hJ.iv) rfl hl.1 (Nat.le_of_ble_eq_true rfl) dL_law_1090 ⟨by omega, by omega⟩) (fun r7 σ7 H locs hq7 hJ => ?_)
              obtain ⟨hr7, hs7⟩ := hq7
              rw [hs7] at hJ
              rw [hr7, show (gP (hourX α) k).2.2.2.1 - (gP (hourX α) k).2.2.2.2.1 = nI lf - (nI ag + 1) from by rw [hP2]]
              refine lv_if_ne (tgt := 1100) S.1 S.2.1 dL_law_1093 (by decide) (fun c9 => absurd (old_0 c2 hal e5) c9) (fun cz_1093 => ?_)
              refine lv_iconst (v := 1) S.1 S.2.1 dL_law_1096 (by decide) ?_
              refine lv_goto (tgt := 1101) S.1 S.2.1 dL_law_1097 (by decide) ?_
              refine lv_icmp_eq (tgt := 1106) S.1 S.2.1 dL_law_1101 (by decide) (fun cz_1101 => ?_) (fun c9 => absurd (by decide) c9)
              refine lv_iinc (v := (nI (k + 1))) (lv' := [(28, .int (nI (k + 1))), (27, .int ((sumN (thF α) k) + 0)), (30, .int ((draw to9 w9) - w9)), (29, .int (to9 - w9)), (0, .ref (gE G 6)), (1, .ref (gB G 0)), (2, .ref q0), (3, .int (nI tt)), (7, .int (nI n)), (13, .int (nI o9)), (14, .int F1), (15, .int F2), (16, .int F3), (18, .int (nI hN)), (19, .int lf9), (20, .int (nI jh)), (21, .ref qa), (22, .ref qb), (23, .ref qc), (24, .ref qd), (25, .ref qe), (26, .int (sumN (xR α) 20))]) S.1 S.2.1 dL_law_1106 hl (k := 21) rfl (nI_1 k) (by decide) rfl (fun ls hl => ?_)
              refine lv_goto (tgt := 861) S.1 S.2.1 dL_law_1109 (by decide) ?_
              exact ih (k + 1) (by omega) _ _ hJ ls (by rw [show sumN (thF α) (k + 1) = ((sumN (thF α) k) + 0) from by rw [sumN_s, hth0]]; exact lv_sub hl [4, 5, 6, 7, 8, 9, 10, 11, 12, 13, 14, 15, 16, 17, 18, 19, 20, 21, 1, 0] rfl)
      · rw [show hourP (xS α 5 sh).2 (g, sh, mk9, lfz, agz, w9) = (g, sh, mk9, lfz, agz, w9) from if_neg (by show ¬ sh < 6; omega)] at hP2
        rw [if_neg (show ¬ sh < 5 by omega)] at v4
        have hth0 : thF α k = 0 := by rw [hth]; exact if_neg (fun q => by have q2 := q.1; omega)
        refine lv_iload S.1 S.2.1 dL_law_861 (lv_at hl 19 rfl) ?_
        refine lv_iload S.1 S.2.1 dL_law_863 (lv_at hl 4 rfl) ?_
        refine lv_icmp_ge (tgt := 1112) S.1 S.2.1 dL_law_865 (by decide) (fun c9 => absurd c9 (nI_ge hk2 (by omega))) (fun cz_865 => ?_)
        refine lv_aload S.1 S.2.1 dL_law_868 (lv_at hl 15 rfl) ?_
        refine lv_iload S.1 S.2.1 dL_law_870 (lv_at hl 19 rfl) ?_
        refine i_y S hJ 3 rfl (j := k) hk2 (by omega) dL_law_872 ?_
        rw [show (f4 k) = (-1) from v4]
        refine lv_if_ge (tgt := 915) S.1 S.2.1 dL_law_873 (by decide) (fun c9 => absurd c9 (by decide)) (fun cz_873 => ?_)
        refine lv_aload_n S.1 S.2.1 dL_law_876 rfl (lv_at hl 1 rfl) ?_
        refine lv_iload S.1 S.2.1 dL_law_877 (lv_at hl 19 rfl) ?_
        refine cz_i hJ (rzV (As := [.int (nI k)]) (rest := []) S hJ (c_heatOf l _ (hourX α) hk2 hn hX2) (cw_L_X3_heatOf S.2.2.2.2 ⟨by omega, by omega⟩) (rcX hJ.iv) rfl hl.1 (Nat.le_of_ble_eq_true rfl) dL_law_879 ⟨by omega, by omega⟩) (fun r1 σ1 H locs hq1 hJ => ?_)
        obtain ⟨hr1, hs1⟩ := hq1
        rw [hs1] at hJ
        rw [hr1, show (gP (hourX α) k).2.2.2.2.2 = w9 from by rw [hP2]]
        refine lv_aload S.1 S.2.1 dL_law_882 (lv_at hl 13 rfl) ?_
        refine lv_iload S.1 S.2.1 dL_law_884 (lv_at hl 19 rfl) ?_
        refine i_y S hJ 1 rfl (j := k) hk2 (by omega) dL_law_886 ?_
        refine lv_icmp_ne (tgt := 913) S.1 S.2.1 dL_law_887 (by decide) (fun c9 => absurd v2.symm c9) (fun cz_887 => ?_)
        refine lv_aload_n S.1 S.2.1 dL_law_890 rfl (lv_at hl 1 rfl) ?_
        refine lv_iload S.1 S.2.1 dL_law_891 (lv_at hl 19 rfl) ?_
        refine cz_i hJ (rzV (As := [.int (nI k)]) (rest := []) S hJ (c_ageOf l _ (hourX α) hk2 hn hX2) (cw_L_X3_ageOf S.2.2.2.2 ⟨by omega, by omega⟩) (rcX hJ.iv) rfl hl.1 (Nat.le_of_ble_eq_true rfl) dL_law_893 ⟨by omega, by omega⟩) (fun r2 σ2 H locs hq2 hJ => ?_)
        obtain ⟨hr2, hs2⟩ := hq2
        rw [hs2] at hJ
        rw [hr2, show (gP (hourX α) k).2.2.2.2.1 = agz from by rw [hP2]]
        refine lv_aload S.1 S.2.1 dL_law_896 (lv_at hl 14 rfl) ?_
        refine lv_iload S.1 S.2.1 dL_law_898 (lv_at hl 19 rfl) ?_
        refine i_y S hJ 2 rfl (j := k) hk2 (by omega) dL_law_900 ?_
        refine lv_icmp_ne (tgt := 913) S.1 S.2.1 dL_law_901 (by decide) (fun c9 => absurd v3.symm c9) (fun cz_901 => ?_)
        refine lv_aload_n S.1 S.2.1 dL_law_904 rfl (lv_at hl 1 rfl) ?_
        refine lv_iload S.1 S.2.1 dL_law_905 (lv_at hl 19 rfl) ?_
        refine cz_i hJ (rzV (As := [.int (nI k)]) (rest := []) S hJ (c_shelfOf l _ (hourX α) hok2 hk2 hn hX2) (cw_L_X3_shelfOf S.2.2.2.2 ⟨by omega, by omega⟩) (rcX hJ.iv) rfl hl.1 (Nat.le_of_ble_eq_true rfl) dL_law_907 ⟨by omega, by omega⟩) (fun r3 σ3 H locs hq3 hJ => ?_)
        obtain ⟨hr3, hs3⟩ := hq3
        rw [hs3] at hJ
        rw [hr3, show (if (gP (hourX α) k).2.1 < 5 then nI (gP (hourX α) k).2.1 else -1) = -1 from if_neg (by rw [hP2]; show ¬ sh < 5; omega)]
        refine lv_if_lt (tgt := 1106) S.1 S.2.1 dL_law_910 (by decide) (fun cz_910 => ?_) (fun c9 => absurd (by decide) c9)
        refine lv_iinc (v := (nI (k + 1))) (lv' := [(28, .int (nI (k + 1))), (0, .ref (gE G 6)), (1, .ref (gB G 0)), (2, .ref q0), (3, .int (nI tt)), (7, .int (nI n)), (13, .int (nI o9)), (14, .int F1), (15, .int F2), (16, .int F3), (18, .int (nI hN)), (19, .int lf9), (20, .int (nI jh)), (21, .ref qa), (22, .ref qb), (23, .ref qc), (24, .ref qd), (25, .ref qe), (26, .int (sumN (xR α) 20)), (27, .int (sumN (thF α) k))]) S.1 S.2.1 dL_law_1106 hl (k := 19) rfl (nI_1 k) (by decide) rfl (fun ls hl => ?_)
        refine lv_goto (tgt := 861) S.1 S.2.1 dL_law_1109 (by decide) ?_
        exact ih (k + 1) (by omega) _ _ hJ ls (by rw [show sumN (thF α) (k + 1) = sumN (thF α) k from by rw [sumN_s, hth0, Int32.add_zero]]; exact lv_sub hl [1, 2, 3, 4, 5, 6, 7, 8, 9, 10, 11, 12, 13, 14, 15, 16, 17, 18, 19, 0] rfl)
  refine lv_iconst (v := 0) S.1 S.2.1 dL_law_855 (by decide) ?_
  refine lv_istore (lv' := [(27, .int 0), (0, .ref (gE G 6)), (1, .ref (gB G 0)), (2, .ref q0), (3, .int (nI tt)), (7, .int (nI n)), (13, .int (nI o9)), (14, .int F1), (15, .int F2), (16, .int F3), (18, .int (nI hN)), (19, .int lf9), (20, .int (nI jh)), (21, .ref qa), (22, .ref qb), (23, .ref qc), (24, .ref qd), (25, .ref qe), (26, .int (sumN (xR α) 20))]) S.1 S.2.1 dL_law_856 hl (by decide) rfl (fun ls hl => ?_)
  refine lv_iconst (v := (nI 0)) S.1 S.2.1 dL_law_858 (by rfl) ?_
  refine lv_istore (lv' := [(28, .int (nI 0)), (27, .int 0), (0, .ref (gE G 6)), (1, .ref (gB G 0)), (2, .ref q0), (3, .int (nI tt)), (7, .int (nI n)), (13, .int (nI o9)), (14, .int F1), (15, .int F2), (16, .int F3), (18, .int (nI hN)), (19, .int lf9), (20, .int (nI jh)), (21, .ref qa), (22, .ref qb), (23, .ref qc), (24, .ref qd), (25, .ref qe), (26, .int (sumN (xR α) 20))]) S.1 S.2.1 dL_law_859 hl (by decide) rfl (fun ls hl => ?_)
  exact loop n 0 (by omega) _ _ hJ ls (lv_sub hl [2, 3, 4, 5, 6, 7, 8, 9, 10, 11, 12, 13, 14, 15, 16, 17, 18, 19, 1, 0] rfl)
set_option maxRecDepth 100000 in
set_option maxHeartbeats 4000000 in
theorem lg_c1 (S : CallFix p m c cL_law 31 s args AL RL) (hF9 : 12 ≤ R.frames ∧ 448 ≤ R.locals) (hC9 : cells ≤ R.cells) (hS9 : slots ≤ R.slots) {q3 : Nat} {aR : Nat → Nat} {hh pw ar : Int32} {st ht : Nat → Int32} {n : Nat} {row : Nat → Z7} {o9 hN jh : Nat} {F1 F2 F3 lf9 : Int32} {τ β : St} {j : Nat} {Y : va_W} (hjN : j + 1 ≤ 20) (hτ : τ = hourXs (j + 1) β) (hp : Pct τ (hh, pw, ar, st, ht, n, row)) (ho9 : o9 < n) (hT : Told β o9 2 F1) (kk9 : ∀ (H : Heap) (locs : List Loc), Jw G (fw G τ ((q0, q1, q2, q3), aR) (hh, pw, ar, st, ht, n, row) Y) s H locs → ∀ ls : Array Slot, lv_has ls 31 [(0, .ref (gE G 6)), (1, .ref (gB G 0)), (2, .ref q0), (3, .int (nI tt)), (7, .int (nI n)), (13, .int (nI o9)), (14, .int F1), (15, .int F2), (16, .int F3), (18, .int (nI hN)), (19, .int lf9), (20, .int (nI (j + 1)))] → W p l e R s m args below meth c H locs cells slots Q (F0 m 1162 ls [])) (hJ : Jw G (fw G τ ((q0, q1, q2, q3), aR) (hh, pw, ar, st, ht, n, row) Y) s H locs) (hl : lv_has ls 31 [(0, .ref (gE G 6)), (1, .ref (gB G 0)), (2, .ref q0), (3, .int (nI tt)), (7, .int (nI n)), (13, .int (nI o9)), (14, .int F1), (15, .int F2), (16, .int F3), (18, .int (nI hN)), (19, .int lf9), (20, .int (nI (j + 1)))]) : W p l e R s m args below meth c H locs cells slots Q (F0 m 1129 ls []) := by
  have hn : n ≤ 20 := hp.1.1
  have hok := hp.1.ok
  have hX := hp.1.gx
  rcases hT with ⟨rfl, h2⟩ | ⟨f, h1, rfl, h2, h3⟩
  · refine lv_iload S.1 S.2.1 dL_law_1129 (lv_at hl 6 rfl) ?_
    refine lv_if_le (tgt := 1162) S.1 S.2.1 dL_law_1131 (by decide) (fun cz_1131 => ?_) (fun c9 => absurd (by decide) c9)
    exact kk9 _ _ hJ ls (lv_sub hl [0, 1, 2, 3, 4, 5, 6, 7, 8, 9, 10, 11] rfl)
  · rcases Nat.eq_zero_or_pos f with hf0 | hf0
    · refine lv_iload S.1 S.2.1 dL_law_1129 (lv_at hl 6 rfl) ?_
      refine lv_if_le (tgt := 1162) S.1 S.2.1 dL_law_1131 (by decide) (fun cz_1131 => ?_) (fun c9 => absurd (by rw [hf0]; decide) c9)
      exact kk9 _ _ hJ ls (lv_sub hl [0, 1, 2, 3, 4, 5, 6, 7, 8, 9, 10, 11] rfl)
    · rcases Nat.lt_trichotomy (j + 1) f with hlt | heq | hgt
      · refine lv_iload S.1 S.2.1 dL_law_1129 (lv_at hl 6 rfl) ?_
        refine lv_if_le (tgt := 1162) S.1 S.2.1 dL_law_1131 (by decide) (fun c9 => absurd c9 (Int32.not_le.mpr (nI_lt (a := 0) hf0 (by omega)))) (fun cz_1131 => ?_)
        refine lv_iload S.1 S.2.1 dL_law_1134 (lv_at hl 11 rfl) ?_
        refine lv_iload S.1 S.2.1 dL_law_1136 (lv_at hl 6 rfl) ?_
        refine lv_icmp_gt (tgt := 1162) S.1 S.2.1 dL_law_1138 (by decide) (fun c9 => absurd c9 (Int32.not_lt.mpr (nI_le (show j + 1 ≤ f by omega) (by omega)))) (fun cz_1138 => ?_)
        refine lv_aload_n S.1 S.2.1 dL_law_1141 rfl (lv_at hl 1 rfl) ?_
        refine lv_iload S.1 S.2.1 dL_law_1142 (lv_at hl 5 rfl) ?_
        refine cz_i hJ (rzV (As := [.int (nI o9)]) (rest := []) S hJ (c_isFrozen l _ τ hok (i := o9) (n := n) ho9 hn hX) (cw_L_X3_isFrozen S.2.2.2.2 ⟨by omega, by omega⟩) (rcX hJ.iv) rfl hl.1 (Nat.le_of_ble_eq_true rfl) dL_law_1144 ⟨by omega, by omega⟩) (fun r1 σ1 H locs hq1 hJ => ?_)
        obtain ⟨hr1, hs1⟩ := hq1
        rw [hs1] at hJ
        rw [hr1, show (if (gP τ o9).1 = 2 then (1 : Int32) else 0) = 0 from if_neg (by rw [hτ]; exact h3 (j + 1) hlt)]
        refine lv_iload S.1 S.2.1 dL_law_1147 (lv_at hl 11 rfl) ?_
        refine lv_iload S.1 S.2.1 dL_law_1149 (lv_at hl 6 rfl) ?_
        refine lv_icmp_ne (tgt := 1158) S.1 S.2.1 dL_law_1151 (by decide) (fun cz_1151 => ?_) (fun c9 => absurd c9 (fun q => by have q2 := nI_eq9 (by omega) (by omega) q; omega))
        refine lv_iconst (v := 0) S.1 S.2.1 dL_law_1158 (by decide) ?_
        refine lv_icmp_ne (tgt := 1228) S.1 S.2.1 dL_law_1159 (by decide) (fun c9 => absurd (by decide) c9) (fun cz_1159 => ?_)
        exact kk9 _ _ hJ ls (lv_sub hl [0, 1, 2, 3, 4, 5, 6, 7, 8, 9, 10, 11] rfl)
      · refine lv_iload S.1 S.2.1 dL_law_1129 (lv_at hl 6 rfl) ?_
        refine lv_if_le (tgt := 1162) S.1 S.2.1 dL_law_1131 (by decide) (fun c9 => absurd c9 (Int32.not_le.mpr (nI_lt (a := 0) hf0 (by omega)))) (fun cz_1131 => ?_)
        refine lv_iload S.1 S.2.1 dL_law_1134 (lv_at hl 11 rfl) ?_
        refine lv_iload S.1 S.2.1 dL_law_1136 (lv_at hl 6 rfl) ?_
        refine lv_icmp_gt (tgt := 1162) S.1 S.2.1 dL_law_1138 (by decide) (fun c9 => absurd c9 (Int32.not_lt.mpr (nI_le (show j + 1 ≤ f by omega) (by omega)))) (fun cz_1138 => ?_)
        refine lv_aload_n S.1 S.2.1 dL_law_1141 rfl (lv_at hl 1 rfl) ?_
        refine lv_iload S.1 S.2.1 dL_law_1142 (lv_at hl 5 rfl) ?_
        refine cz_i hJ (rzV (As := [.int (nI o9)]) (rest := []) S hJ (c_isFrozen l _ τ hok (i := o9) (n := n) ho9 hn hX) (cw_L_X3_isFrozen S.2.2.2.2 ⟨by omega, by omega⟩) (rcX hJ.iv) rfl hl.1 (Nat.le_of_ble_eq_true rfl) dL_law_1144 ⟨by omega, by omega⟩) (fun r1 σ1 H locs hq1 hJ => ?_)
        obtain ⟨hr1, hs1⟩ := hq1
        rw [hs1] at hJ
        rw [hr1, show (if (gP τ o9).1 = 2 then (1 : Int32) else 0) = 1 from if_pos (by rw [hτ, heq]; exact h2)]
        refine lv_iload S.1 S.2.1 dL_law_1147 (lv_at hl 11 rfl) ?_
        refine lv_iload S.1 S.2.1 dL_law_1149 (lv_at hl 6 rfl) ?_
        refine lv_icmp_ne (tgt := 1158) S.1 S.2.1 dL_law_1151 (by decide) (fun c9 => absurd (by rw [heq]) c9) (fun cz_1151 => ?_)
        refine lv_iconst (v := 1) S.1 S.2.1 dL_law_1154 (by decide) ?_
        refine lv_goto (tgt := 1159) S.1 S.2.1 dL_law_1155 (by decide) ?_
        refine lv_icmp_ne (tgt := 1228) S.1 S.2.1 dL_law_1159 (by decide) (fun c9 => absurd (by decide) c9) (fun cz_1159 => ?_)
        exact kk9 _ _ hJ ls (lv_sub hl [0, 1, 2, 3, 4, 5, 6, 7, 8, 9, 10, 11] rfl)
      · refine lv_iload S.1 S.2.1 dL_law_1129 (lv_at hl 6 rfl) ?_
        refine lv_if_le (tgt := 1162) S.1 S.2.1 dL_law_1131 (by decide) (fun c9 => absurd c9 (Int32.not_le.mpr (nI_lt (a := 0) hf0 (by omega)))) (fun cz_1131 => ?_)
        refine lv_iload S.1 S.2.1 dL_law_1134 (lv_at hl 11 rfl) ?_
        refine lv_iload S.1 S.2.1 dL_law_1136 (lv_at hl 6 rfl) ?_
        refine lv_icmp_gt (tgt := 1162) S.1 S.2.1 dL_law_1138 (by decide) (fun cz_1138 => ?_) (fun c9 => absurd (nI_lt hgt (by omega)) c9)
        exact kk9 _ _ hJ ls (lv_sub hl [0, 1, 2, 3, 4, 5, 6, 7, 8, 9, 10, 11] rfl)
set_option maxRecDepth 100000 in
set_option maxHeartbeats 4000000 in
theorem lg_c2 (S : CallFix p m c cL_law 31 s args AL RL) (hF9 : 12 ≤ R.frames ∧ 448 ≤ R.locals) (hC9 : cells ≤ R.cells) (hS9 : slots ≤ R.slots) {q3 : Nat} {aR : Nat → Nat} {hh pw ar : Int32} {st ht : Nat → Int32} {n : Nat} {row : Nat → Z7} {o9 hN jh : Nat} {F1 F2 F3 lf9 : Int32} {τ β : St} {j : Nat} {Y : va_W} (hjN : j + 1 ≤ 20) (hτ : τ = hourXs (j + 1) β) (hp : Pct τ (hh, pw, ar, st, ht, n, row)) (ho9 : o9 < n) (hT : Told β o9 3 F2) (kk9 : ∀ (H : Heap) (locs : List Loc), Jw G (fw G τ ((q0, q1, q2, q3), aR) (hh, pw, ar, st, ht, n, row) Y) s H locs → ∀ ls : Array Slot, lv_has ls 31 [(0, .ref (gE G 6)), (1, .ref (gB G 0)), (2, .ref q0), (3, .int (nI tt)), (7, .int (nI n)), (13, .int (nI o9)), (14, .int F1), (15, .int F2), (16, .int F3), (18, .int (nI hN)), (19, .int lf9), (20, .int (nI (j + 1)))] → W p l e R s m args below meth c H locs cells slots Q (F0 m 1195 ls [])) (hJ : Jw G (fw G τ ((q0, q1, q2, q3), aR) (hh, pw, ar, st, ht, n, row) Y) s H locs) (hl : lv_has ls 31 [(0, .ref (gE G 6)), (1, .ref (gB G 0)), (2, .ref q0), (3, .int (nI tt)), (7, .int (nI n)), (13, .int (nI o9)), (14, .int F1), (15, .int F2), (16, .int F3), (18, .int (nI hN)), (19, .int lf9), (20, .int (nI (j + 1)))]) : W p l e R s m args below meth c H locs cells slots Q (F0 m 1162 ls []) := by
  have hn : n ≤ 20 := hp.1.1
  have hok := hp.1.ok
  have hX := hp.1.gx
  rcases hT with ⟨rfl, h2⟩ | ⟨f, h1, rfl, h2, h3⟩
  · refine lv_iload S.1 S.2.1 dL_law_1162 (lv_at hl 7 rfl) ?_
    refine lv_if_le (tgt := 1195) S.1 S.2.1 dL_law_1164 (by decide) (fun cz_1164 => ?_) (fun c9 => absurd (by decide) c9)
    exact kk9 _ _ hJ ls (lv_sub hl [0, 1, 2, 3, 4, 5, 6, 7, 8, 9, 10, 11] rfl)
  · rcases Nat.eq_zero_or_pos f with hf0 | hf0
    · refine lv_iload S.1 S.2.1 dL_law_1162 (lv_at hl 7 rfl) ?_
      refine lv_if_le (tgt := 1195) S.1 S.2.1 dL_law_1164 (by decide) (fun cz_1164 => ?_) (fun c9 => absurd (by rw [hf0]; decide) c9)
      exact kk9 _ _ hJ ls (lv_sub hl [0, 1, 2, 3, 4, 5, 6, 7, 8, 9, 10, 11] rfl)
    · rcases Nat.lt_trichotomy (j + 1) f with hlt | heq | hgt
      · refine lv_iload S.1 S.2.1 dL_law_1162 (lv_at hl 7 rfl) ?_
        refine lv_if_le (tgt := 1195) S.1 S.2.1 dL_law_1164 (by decide) (fun c9 => absurd c9 (Int32.not_le.mpr (nI_lt (a := 0) hf0 (by omega)))) (fun cz_1164 => ?_)
        refine lv_iload S.1 S.2.1 dL_law_1167 (lv_at hl 11 rfl) ?_
        refine lv_iload S.1 S.2.1 dL_law_1169 (lv_at hl 7 rfl) ?_
        refine lv_icmp_gt (tgt := 1195) S.1 S.2.1 dL_law_1171 (by decide) (fun c9 => absurd c9 (Int32.not_lt.mpr (nI_le (show j + 1 ≤ f by omega) (by omega)))) (fun cz_1171 => ?_)
        refine lv_aload_n S.1 S.2.1 dL_law_1174 rfl (lv_at hl 1 rfl) ?_
        refine lv_iload S.1 S.2.1 dL_law_1175 (lv_at hl 5 rfl) ?_
        refine cz_i hJ (rzV (As := [.int (nI o9)]) (rest := []) S hJ (c_isThawed l _ τ hok (i := o9) (n := n) ho9 hn hX) (cw_L_X3_isThawed S.2.2.2.2 ⟨by omega, by omega⟩) (rcX hJ.iv) rfl hl.1 (Nat.le_of_ble_eq_true rfl) dL_law_1177 ⟨by omega, by omega⟩) (fun r1 σ1 H locs hq1 hJ => ?_)
        obtain ⟨hr1, hs1⟩ := hq1
        rw [hs1] at hJ
        rw [hr1, show (if (gP τ o9).1 = 3 then (1 : Int32) else 0) = 0 from if_neg (by rw [hτ]; exact h3 (j + 1) hlt)]
        refine lv_iload S.1 S.2.1 dL_law_1180 (lv_at hl 11 rfl) ?_
        refine lv_iload S.1 S.2.1 dL_law_1182 (lv_at hl 7 rfl) ?_
        refine lv_icmp_ne (tgt := 1191) S.1 S.2.1 dL_law_1184 (by decide) (fun cz_1184 => ?_) (fun c9 => absurd c9 (fun q => by have q2 := nI_eq9 (by omega) (by omega) q; omega))
        refine lv_iconst (v := 0) S.1 S.2.1 dL_law_1191 (by decide) ?_
        refine lv_icmp_ne (tgt := 1228) S.1 S.2.1 dL_law_1192 (by decide) (fun c9 => absurd (by decide) c9) (fun cz_1192 => ?_)
        exact kk9 _ _ hJ ls (lv_sub hl [0, 1, 2, 3, 4, 5, 6, 7, 8, 9, 10, 11] rfl)
      · refine lv_iload S.1 S.2.1 dL_law_1162 (lv_at hl 7 rfl) ?_
        refine lv_if_le (tgt := 1195) S.1 S.2.1 dL_law_1164 (by decide) (fun c9 => absurd c9 (Int32.not_le.mpr (nI_lt (a := 0) hf0 (by omega)))) (fun cz_1164 => ?_)
        refine lv_iload S.1 S.2.1 dL_law_1167 (lv_at hl 11 rfl) ?_
        refine lv_iload S.1 S.2.1 dL_law_1169 (lv_at hl 7 rfl) ?_
        refine lv_icmp_gt (tgt := 1195) S.1 S.2.1 dL_law_1171 (by decide) (fun c9 => absurd c9 (Int32.not_lt.mpr (nI_le (show j + 1 ≤ f by omega) (by omega)))) (fun cz_1171 => ?_)
        refine lv_aload_n S.1 S.2.1 dL_law_1174 rfl (lv_at hl 1 rfl) ?_
        refine lv_iload S.1 S.2.1 dL_law_1175 (lv_at hl 5 rfl) ?_
        refine cz_i hJ (rzV (As := [.int (nI o9)]) (rest := []) S hJ (c_isThawed l _ τ hok (i := o9) (n := n) ho9 hn hX) (cw_L_X3_isThawed S.2.2.2.2 ⟨by omega, by omega⟩) (rcX hJ.iv) rfl hl.1 (Nat.le_of_ble_eq_true rfl) dL_law_1177 ⟨by omega, by omega⟩) (fun r1 σ1 H locs hq1 hJ => ?_)
        obtain ⟨hr1, hs1⟩ := hq1
        rw [hs1] at hJ
        rw [hr1, show (if (gP τ o9).1 = 3 then (1 : Int32) else 0) = 1 from if_pos (by rw [hτ, heq]; exact h2)]
        refine lv_iload S.1 S.2.1 dL_law_1180 (lv_at hl 11 rfl) ?_
        refine lv_iload S.1 S.2.1 dL_law_1182 (lv_at hl 7 rfl) ?_
        refine lv_icmp_ne (tgt := 1191) S.1 S.2.1 dL_law_1184 (by decide) (fun c9 => absurd (by rw [heq]) c9) (fun cz_1184 => ?_)
        refine lv_iconst (v := 1) S.1 S.2.1 dL_law_1187 (by decide) ?_
        refine lv_goto (tgt := 1192) S.1 S.2.1 dL_law_1188 (by decide) ?_
        refine lv_icmp_ne (tgt := 1228) S.1 S.2.1 dL_law_1192 (by decide) (fun c9 => absurd (by decide) c9) (fun cz_1192 => ?_)
        exact kk9 _ _ hJ ls (lv_sub hl [0, 1, 2, 3, 4, 5, 6, 7, 8, 9, 10, 11] rfl)
      · refine lv_iload S.1 S.2.1 dL_law_1162 (lv_at hl 7 rfl) ?_
        refine lv_if_le (tgt := 1195) S.1 S.2.1 dL_law_1164 (by decide) (fun c9 => absurd c9 (Int32.not_le.mpr (nI_lt (a := 0) hf0 (by omega)))) (fun cz_1164 => ?_)
        refine lv_iload S.1 S.2.1 dL_law_1167 (lv_at hl 11 rfl) ?_
        refine lv_iload S.1 S.2.1 dL_law_1169 (lv_at hl 7 rfl) ?_
        refine lv_icmp_gt (tgt := 1195) S.1 S.2.1 dL_law_1171 (by decide) (fun cz_1171 => ?_) (fun c9 => absurd (nI_lt hgt (by omega)) c9)
        exact kk9 _ _ hJ ls (lv_sub hl [0, 1, 2, 3, 4, 5, 6, 7, 8, 9, 10, 11] rfl)
set_option maxRecDepth 100000 in
set_option maxHeartbeats 4000000 in
theorem lg_c3 (S : CallFix p m c cL_law 31 s args AL RL) (hF9 : 12 ≤ R.frames ∧ 448 ≤ R.locals) (hC9 : cells ≤ R.cells) (hS9 : slots ≤ R.slots) {q3 : Nat} {aR : Nat → Nat} {hh pw ar : Int32} {st ht : Nat → Int32} {n : Nat} {row : Nat → Z7} {o9 hN jh : Nat} {F1 F2 F3 lf9 : Int32} {τ β : St} {j : Nat} {Y : va_W} (hjN : j + 1 ≤ 20) (hτ : τ = hourXs (j + 1) β) (hp : Pct τ (hh, pw, ar, st, ht, n, row)) (ho9 : o9 < n) (hT : Told β o9 5 F3) (kk9 : ∀ (H : Heap) (locs : List Loc), Jw G (fw G τ ((q0, q1, q2, q3), aR) (hh, pw, ar, st, ht, n, row) Y) s H locs → ∀ ls : Array Slot, lv_has ls 31 [(0, .ref (gE G 6)), (1, .ref (gB G 0)), (2, .ref q0), (3, .int (nI tt)), (7, .int (nI n)), (13, .int (nI o9)), (14, .int F1), (15, .int F2), (16, .int F3), (18, .int (nI hN)), (19, .int lf9), (20, .int (nI (j + 1)))] → W p l e R s m args below meth c H locs cells slots Q (F0 m 1230 ls [])) (hJ : Jw G (fw G τ ((q0, q1, q2, q3), aR) (hh, pw, ar, st, ht, n, row) Y) s H locs) (hl : lv_has ls 31 [(0, .ref (gE G 6)), (1, .ref (gB G 0)), (2, .ref q0), (3, .int (nI tt)), (7, .int (nI n)), (13, .int (nI o9)), (14, .int F1), (15, .int F2), (16, .int F3), (18, .int (nI hN)), (19, .int lf9), (20, .int (nI (j + 1)))]) : W p l e R s m args below meth c H locs cells slots Q (F0 m 1195 ls []) := by
  have hn : n ≤ 20 := hp.1.1
  have hok := hp.1.ok
  have hX := hp.1.gx
  rcases hT with ⟨rfl, h2⟩ | ⟨f, h1, rfl, h2, h3⟩
  · refine lv_iload S.1 S.2.1 dL_law_1195 (lv_at hl 8 rfl) ?_
    refine lv_if_le (tgt := 1230) S.1 S.2.1 dL_law_1197 (by decide) (fun cz_1197 => ?_) (fun c9 => absurd (by decide) c9)
    exact kk9 _ _ hJ ls (lv_sub hl [0, 1, 2, 3, 4, 5, 6, 7, 8, 9, 10, 11] rfl)
  · rcases Nat.eq_zero_or_pos f with hf0 | hf0
    · refine lv_iload S.1 S.2.1 dL_law_1195 (lv_at hl 8 rfl) ?_
      refine lv_if_le (tgt := 1230) S.1 S.2.1 dL_law_1197 (by decide) (fun cz_1197 => ?_) (fun c9 => absurd (by rw [hf0]; decide) c9)
      exact kk9 _ _ hJ ls (lv_sub hl [0, 1, 2, 3, 4, 5, 6, 7, 8, 9, 10, 11] rfl)
    · rcases Nat.lt_trichotomy (j + 1) f with hlt | heq | hgt
      · refine lv_iload S.1 S.2.1 dL_law_1195 (lv_at hl 8 rfl) ?_
        refine lv_if_le (tgt := 1230) S.1 S.2.1 dL_law_1197 (by decide) (fun c9 => absurd c9 (Int32.not_le.mpr (nI_lt (a := 0) hf0 (by omega)))) (fun cz_1197 => ?_)
        refine lv_iload S.1 S.2.1 dL_law_1200 (lv_at hl 11 rfl) ?_
        refine lv_iload S.1 S.2.1 dL_law_1202 (lv_at hl 8 rfl) ?_
        refine lv_icmp_gt (tgt := 1230) S.1 S.2.1 dL_law_1204 (by decide) (fun c9 => absurd c9 (Int32.not_lt.mpr (nI_le (show j + 1 ≤ f by omega) (by omega)))) (fun cz_1204 => ?_)
        refine lv_aload_n S.1 S.2.1 dL_law_1207 rfl (lv_at hl 1 rfl) ?_
        refine lv_iload S.1 S.2.1 dL_law_1208 (lv_at hl 5 rfl) ?_
        refine cz_i hJ (rzV (As := [.int (nI o9)]) (rest := []) S hJ (c_isExpired l _ τ hok (i := o9) (n := n) ho9 hn hX) (cw_L_X3_isExpired S.2.2.2.2 ⟨by omega, by omega⟩) (rcX hJ.iv) rfl hl.1 (Nat.le_of_ble_eq_true rfl) dL_law_1210 ⟨by omega, by omega⟩) (fun r1 σ1 H locs hq1 hJ => ?_)
        obtain ⟨hr1, hs1⟩ := hq1
        rw [hs1] at hJ
        rw [hr1, show (if (gP τ o9).1 = 5 then (1 : Int32) else 0) = 0 from if_neg (by rw [hτ]; exact h3 (j + 1) hlt)]
        refine lv_iload S.1 S.2.1 dL_law_1213 (lv_at hl 11 rfl) ?_
        refine lv_iload S.1 S.2.1 dL_law_1215 (lv_at hl 8 rfl) ?_
        refine lv_icmp_ne (tgt := 1224) S.1 S.2.1 dL_law_1217 (by decide) (fun cz_1217 => ?_) (fun c9 => absurd c9 (fun q => by have q2 := nI_eq9 (by omega) (by omega) q; omega))
        refine lv_iconst (v := 0) S.1 S.2.1 dL_law_1224 (by decide) ?_
        refine lv_icmp_eq (tgt := 1230) S.1 S.2.1 dL_law_1225 (by decide) (fun cz_1225 => ?_) (fun c9 => absurd (by decide) c9)
        exact kk9 _ _ hJ ls (lv_sub hl [0, 1, 2, 3, 4, 5, 6, 7, 8, 9, 10, 11] rfl)
      · refine lv_iload S.1 S.2.1 dL_law_1195 (lv_at hl 8 rfl) ?_
        refine lv_if_le (tgt := 1230) S.1 S.2.1 dL_law_1197 (by decide) (fun c9 => absurd c9 (Int32.not_le.mpr (nI_lt (a := 0) hf0 (by omega)))) (fun cz_1197 => ?_)
        refine lv_iload S.1 S.2.1 dL_law_1200 (lv_at hl 11 rfl) ?_
        refine lv_iload S.1 S.2.1 dL_law_1202 (lv_at hl 8 rfl) ?_
        refine lv_icmp_gt (tgt := 1230) S.1 S.2.1 dL_law_1204 (by decide) (fun c9 => absurd c9 (Int32.not_lt.mpr (nI_le (show j + 1 ≤ f by omega) (by omega)))) (fun cz_1204 => ?_)
        refine lv_aload_n S.1 S.2.1 dL_law_1207 rfl (lv_at hl 1 rfl) ?_
        refine lv_iload S.1 S.2.1 dL_law_1208 (lv_at hl 5 rfl) ?_
        refine cz_i hJ (rzV (As := [.int (nI o9)]) (rest := []) S hJ (c_isExpired l _ τ hok (i := o9) (n := n) ho9 hn hX) (cw_L_X3_isExpired S.2.2.2.2 ⟨by omega, by omega⟩) (rcX hJ.iv) rfl hl.1 (Nat.le_of_ble_eq_true rfl) dL_law_1210 ⟨by omega, by omega⟩) (fun r1 σ1 H locs hq1 hJ => ?_)
        obtain ⟨hr1, hs1⟩ := hq1
        rw [hs1] at hJ
        rw [hr1, show (if (gP τ o9).1 = 5 then (1 : Int32) else 0) = 1 from if_pos (by rw [hτ, heq]; exact h2)]
        refine lv_iload S.1 S.2.1 dL_law_1213 (lv_at hl 11 rfl) ?_
        refine lv_iload S.1 S.2.1 dL_law_1215 (lv_at hl 8 rfl) ?_
        refine lv_icmp_ne (tgt := 1224) S.1 S.2.1 dL_law_1217 (by decide) (fun c9 => absurd (by rw [heq]) c9) (fun cz_1217 => ?_)
        refine lv_iconst (v := 1) S.1 S.2.1 dL_law_1220 (by decide) ?_
        refine lv_goto (tgt := 1225) S.1 S.2.1 dL_law_1221 (by decide) ?_
        refine lv_icmp_eq (tgt := 1230) S.1 S.2.1 dL_law_1225 (by decide) (fun cz_1225 => ?_) (fun c9 => absurd (by decide) c9)
        exact kk9 _ _ hJ ls (lv_sub hl [0, 1, 2, 3, 4, 5, 6, 7, 8, 9, 10, 11] rfl)
      · refine lv_iload S.1 S.2.1 dL_law_1195 (lv_at hl 8 rfl) ?_
        refine lv_if_le (tgt := 1230) S.1 S.2.1 dL_law_1197 (by decide) (fun c9 => absurd c9 (Int32.not_le.mpr (nI_lt (a := 0) hf0 (by omega)))) (fun cz_1197 => ?_)
        refine lv_iload S.1 S.2.1 dL_law_1200 (lv_at hl 11 rfl) ?_
        refine lv_iload S.1 S.2.1 dL_law_1202 (lv_at hl 8 rfl) ?_
        refine lv_icmp_gt (tgt := 1230) S.1 S.2.1 dL_law_1204 (by decide) (fun cz_1204 => ?_) (fun c9 => absurd (nI_lt hgt (by omega)) c9)
        exact kk9 _ _ hJ ls (lv_sub hl [0, 1, 2, 3, 4, 5, 6, 7, 8, 9, 10, 11] rfl)
set_option maxRecDepth 100000 in
set_option maxHeartbeats 4000000 in
theorem lg_d1 (S : CallFix p m c cL_law 31 s args AL RL) (hF9 : 12 ≤ R.frames ∧ 448 ≤ R.locals) (hC9 : cells ≤ R.cells) (hS9 : slots ≤ R.slots) {q3 : Nat} {aR : Nat → Nat} {hh pw ar : Int32} {st ht : Nat → Int32} {n : Nat} {row : Nat → Z7} {o9 hN jh : Nat} {F1 F2 F3 lf9 : Int32} {τ β : St} {j : Nat} {Y : va_W} (hjN : j + 1 ≤ 20) (hτ : τ = hourXs (j + 1) β) (hp : Pct τ (hh, pw, ar, st, ht, n, row)) (ho9 : o9 < n) (hT : Told β o9 2 F1) (kk9 : ∀ (H : Heap) (locs : List Loc), Jw G (fw G τ ((q0, q1, q2, q3), aR) (hh, pw, ar, st, ht, n, row) Y) s H locs → ∀ ls : Array Slot, lv_has ls 31 [(0, .ref (gE G 6)), (1, .ref (gB G 0)), (2, .ref q0), (3, .int (nI tt)), (7, .int (nI n)), (13, .int (nI o9)), (14, .int F1), (15, .int F2), (16, .int F3), (18, .int (nI hN)), (19, .int lf9), (20, .int (nI (j + 1)))] → W p l e R s m args below meth c H locs cells slots Q (F0 m 1244 ls [])) (hJ : Jw G (fw G τ ((q0, q1, q2, q3), aR) (hh, pw, ar, st, ht, n, row) Y) s H locs) (hl : lv_has ls 31 [(0, .ref (gE G 6)), (1, .ref (gB G 0)), (2, .ref q0), (3, .int (nI tt)), (7, .int (nI n)), (13, .int (nI o9)), (14, .int F1), (15, .int F2), (16, .int F3), (18, .int (nI hN)), (19, .int lf9), (20, .int (nI (j + 1)))]) : W p l e R s m args below meth c H locs cells slots Q (F0 m 1230 ls []) := by
  have hn : n ≤ 20 := hp.1.1
  have hok := hp.1.ok
  have hX := hp.1.gx
  rcases hT with ⟨rfl, h2⟩ | ⟨f, h1, rfl, h2, h3⟩
  · refine lv_iload S.1 S.2.1 dL_law_1230 (lv_at hl 6 rfl) ?_
    refine lv_if_ge (tgt := 1244) S.1 S.2.1 dL_law_1232 (by decide) (fun c9 => absurd c9 (by decide)) (fun cz_1232 => ?_)
    refine lv_aload_n S.1 S.2.1 dL_law_1235 rfl (lv_at hl 1 rfl) ?_
    refine lv_iload S.1 S.2.1 dL_law_1236 (lv_at hl 5 rfl) ?_
    refine cz_i hJ (rzV (As := [.int (nI o9)]) (rest := []) S hJ (c_isFrozen l _ τ hok (i := o9) (n := n) ho9 hn hX) (cw_L_X3_isFrozen S.2.2.2.2 ⟨by omega, by omega⟩) (rcX hJ.iv) rfl hl.1 (Nat.le_of_ble_eq_true rfl) dL_law_1238 ⟨by omega, by omega⟩) (fun r1 σ1 H locs hq1 hJ => ?_)
    obtain ⟨hr1, hs1⟩ := hq1
    rw [hs1] at hJ
    rw [hr1, show (if (gP τ o9).1 = 2 then (1 : Int32) else 0) = 0 from if_neg (by rw [hτ]; exact h2 (j + 1) (by omega))]
    refine lv_if_ne (tgt := 1272) S.1 S.2.1 dL_law_1241 (by decide) (fun c9 => absurd (by decide) c9) (fun cz_1241 => ?_)
    exact kk9 _ _ hJ ls (lv_sub hl [0, 1, 2, 3, 4, 5, 6, 7, 8, 9, 10, 11] rfl)
  · refine lv_iload S.1 S.2.1 dL_law_1230 (lv_at hl 6 rfl) ?_
    refine lv_if_ge (tgt := 1244) S.1 S.2.1 dL_law_1232 (by decide) (fun cz_1232 => ?_) (fun c9 => absurd (nI_pos' (by omega)) c9)
    exact kk9 _ _ hJ ls (lv_sub hl [0, 1, 2, 3, 4, 5, 6, 7, 8, 9, 10, 11] rfl)
set_option maxRecDepth 100000 in
set_option maxHeartbeats 4000000 in
theorem lg_d2 (S : CallFix p m c cL_law 31 s args AL RL) (hF9 : 12 ≤ R.frames ∧ 448 ≤ R.locals) (hC9 : cells ≤ R.cells) (hS9 : slots ≤ R.slots) {q3 : Nat} {aR : Nat → Nat} {hh pw ar : Int32} {st ht : Nat → Int32} {n : Nat} {row : Nat → Z7} {o9 hN jh : Nat} {F1 F2 F3 lf9 : Int32} {τ β : St} {j : Nat} {Y : va_W} (hjN : j + 1 ≤ 20) (hτ : τ = hourXs (j + 1) β) (hp : Pct τ (hh, pw, ar, st, ht, n, row)) (ho9 : o9 < n) (hT : Told β o9 3 F2) (kk9 : ∀ (H : Heap) (locs : List Loc), Jw G (fw G τ ((q0, q1, q2, q3), aR) (hh, pw, ar, st, ht, n, row) Y) s H locs → ∀ ls : Array Slot, lv_has ls 31 [(0, .ref (gE G 6)), (1, .ref (gB G 0)), (2, .ref q0), (3, .int (nI tt)), (7, .int (nI n)), (13, .int (nI o9)), (14, .int F1), (15, .int F2), (16, .int F3), (18, .int (nI hN)), (19, .int lf9), (20, .int (nI (j + 1)))] → W p l e R s m args below meth c H locs cells slots Q (F0 m 1258 ls [])) (hJ : Jw G (fw G τ ((q0, q1, q2, q3), aR) (hh, pw, ar, st, ht, n, row) Y) s H locs) (hl : lv_has ls 31 [(0, .ref (gE G 6)), (1, .ref (gB G 0)), (2, .ref q0), (3, .int (nI tt)), (7, .int (nI n)), (13, .int (nI o9)), (14, .int F1), (15, .int F2), (16, .int F3), (18, .int (nI hN)), (19, .int lf9), (20, .int (nI (j + 1)))]) : W p l e R s m args below meth c H locs cells slots Q (F0 m 1244 ls []) := by
  have hn : n ≤ 20 := hp.1.1
  have hok := hp.1.ok
  have hX := hp.1.gx
  rcases hT with ⟨rfl, h2⟩ | ⟨f, h1, rfl, h2, h3⟩
  · refine lv_iload S.1 S.2.1 dL_law_1244 (lv_at hl 7 rfl) ?_
    refine lv_if_ge (tgt := 1258) S.1 S.2.1 dL_law_1246 (by decide) (fun c9 => absurd c9 (by decide)) (fun cz_1246 => ?_)
    refine lv_aload_n S.1 S.2.1 dL_law_1249 rfl (lv_at hl 1 rfl) ?_
    refine lv_iload S.1 S.2.1 dL_law_1250 (lv_at hl 5 rfl) ?_
    refine cz_i hJ (rzV (As := [.int (nI o9)]) (rest := []) S hJ (c_isThawed l _ τ hok (i := o9) (n := n) ho9 hn hX) (cw_L_X3_isThawed S.2.2.2.2 ⟨by omega, by omega⟩) (rcX hJ.iv) rfl hl.1 (Nat.le_of_ble_eq_true rfl) dL_law_1252 ⟨by omega, by omega⟩) (fun r1 σ1 H locs hq1 hJ => ?_)
    obtain ⟨hr1, hs1⟩ := hq1
    rw [hs1] at hJ
    rw [hr1, show (if (gP τ o9).1 = 3 then (1 : Int32) else 0) = 0 from if_neg (by rw [hτ]; exact h2 (j + 1) (by omega))]
    refine lv_if_ne (tgt := 1272) S.1 S.2.1 dL_law_1255 (by decide) (fun c9 => absurd (by decide) c9) (fun cz_1255 => ?_)
    exact kk9 _ _ hJ ls (lv_sub hl [0, 1, 2, 3, 4, 5, 6, 7, 8, 9, 10, 11] rfl)
  · refine lv_iload S.1 S.2.1 dL_law_1244 (lv_at hl 7 rfl) ?_
    refine lv_if_ge (tgt := 1258) S.1 S.2.1 dL_law_1246 (by decide) (fun cz_1246 => ?_) (fun c9 => absurd (nI_pos' (by omega)) c9)
    exact kk9 _ _ hJ ls (lv_sub hl [0, 1, 2, 3, 4, 5, 6, 7, 8, 9, 10, 11] rfl)
set_option maxRecDepth 100000 in
set_option maxHeartbeats 4000000 in
theorem lg_d3 (S : CallFix p m c cL_law 31 s args AL RL) (hF9 : 12 ≤ R.frames ∧ 448 ≤ R.locals) (hC9 : cells ≤ R.cells) (hS9 : slots ≤ R.slots) {q3 : Nat} {aR : Nat → Nat} {hh pw ar : Int32} {st ht : Nat → Int32} {n : Nat} {row : Nat → Z7} {o9 hN jh : Nat} {F1 F2 F3 lf9 : Int32} {τ β : St} {j : Nat} {Y : va_W} (hjN : j + 1 ≤ 20) (hτ : τ = hourXs (j + 1) β) (hp : Pct τ (hh, pw, ar, st, ht, n, row)) (ho9 : o9 < n) (hT : Told β o9 5 F3) (kk9 : ∀ (H : Heap) (locs : List Loc), Jw G (fw G τ ((q0, q1, q2, q3), aR) (hh, pw, ar, st, ht, n, row) Y) s H locs → ∀ ls : Array Slot, lv_has ls 31 [(0, .ref (gE G 6)), (1, .ref (gB G 0)), (2, .ref q0), (3, .int (nI tt)), (7, .int (nI n)), (13, .int (nI o9)), (14, .int F1), (15, .int F2), (16, .int F3), (18, .int (nI hN)), (19, .int lf9), (20, .int (nI (j + 1)))] → W p l e R s m args below meth c H locs cells slots Q (F0 m 1274 ls [])) (hJ : Jw G (fw G τ ((q0, q1, q2, q3), aR) (hh, pw, ar, st, ht, n, row) Y) s H locs) (hl : lv_has ls 31 [(0, .ref (gE G 6)), (1, .ref (gB G 0)), (2, .ref q0), (3, .int (nI tt)), (7, .int (nI n)), (13, .int (nI o9)), (14, .int F1), (15, .int F2), (16, .int F3), (18, .int (nI hN)), (19, .int lf9), (20, .int (nI (j + 1)))]) : W p l e R s m args below meth c H locs cells slots Q (F0 m 1258 ls []) := by
  have hn : n ≤ 20 := hp.1.1
  have hok := hp.1.ok
  have hX := hp.1.gx
  rcases hT with ⟨rfl, h2⟩ | ⟨f, h1, rfl, h2, h3⟩
  · refine lv_iload S.1 S.2.1 dL_law_1258 (lv_at hl 8 rfl) ?_
    refine lv_if_ge (tgt := 1274) S.1 S.2.1 dL_law_1260 (by decide) (fun c9 => absurd c9 (by decide)) (fun cz_1260 => ?_)
    refine lv_aload_n S.1 S.2.1 dL_law_1263 rfl (lv_at hl 1 rfl) ?_
    refine lv_iload S.1 S.2.1 dL_law_1264 (lv_at hl 5 rfl) ?_
    refine cz_i hJ (rzV (As := [.int (nI o9)]) (rest := []) S hJ (c_isExpired l _ τ hok (i := o9) (n := n) ho9 hn hX) (cw_L_X3_isExpired S.2.2.2.2 ⟨by omega, by omega⟩) (rcX hJ.iv) rfl hl.1 (Nat.le_of_ble_eq_true rfl) dL_law_1266 ⟨by omega, by omega⟩) (fun r1 σ1 H locs hq1 hJ => ?_)
    obtain ⟨hr1, hs1⟩ := hq1
    rw [hs1] at hJ
    rw [hr1, show (if (gP τ o9).1 = 5 then (1 : Int32) else 0) = 0 from if_neg (by rw [hτ]; exact h2 (j + 1) (by omega))]
    refine lv_if_eq (tgt := 1274) S.1 S.2.1 dL_law_1269 (by decide) (fun cz_1269 => ?_) (fun c9 => absurd (by decide) c9)
    exact kk9 _ _ hJ ls (lv_sub hl [0, 1, 2, 3, 4, 5, 6, 7, 8, 9, 10, 11] rfl)
  · refine lv_iload S.1 S.2.1 dL_law_1258 (lv_at hl 8 rfl) ?_
    refine lv_if_ge (tgt := 1274) S.1 S.2.1 dL_law_1260 (by decide) (fun cz_1260 => ?_) (fun c9 => absurd (nI_pos' (by omega)) c9)
    exact kk9 _ _ hJ ls (lv_sub hl [0, 1, 2, 3, 4, 5, 6, 7, 8, 9, 10, 11] rfl)
end LAWS
