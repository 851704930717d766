theorem stp_a {st ht : Int32} (h : ¬ st ≤ ht) : ht + 1 = stp st ht := by unfold stp; rw [if_pos (Int32.not_le.mp h)]
theorem stp_b {st ht : Int32} (h : st ≤ ht) (h2 : ¬ ht ≤ st) : ht + (-1) = stp st ht := by unfold stp; rw [if_neg (Int32.not_lt.mpr h), if_pos (Int32.not_le.mp h2)]
theorem stp_c {st ht : Int32} (h : st ≤ ht) (h2 : ht ≤ st) : ht + 0 = stp st ht := by unfold stp; rw [if_neg (Int32.not_lt.mpr h), if_neg (Int32.not_lt.mpr h2)]
theorem RowP.lie {x : Pr} {z : Z7} (h : RowP x z) (hs : x.2.1 < 5) : z = (x.2.2.1, x.2.2.2.1, nI x.2.1, x.2.2.2.2.2, x.2.2.2.2.1, nI (x.1 - 1), 0) := by
  obtain ⟨z0, z1, z2, z3, z4, z5, z6⟩ := z
  obtain ⟨h1, h2, h3, h4, h5⟩ := h
  dsimp only at h1 h2 h3 h4 h5
  rcases h5 with ⟨-, h6, h7, h8⟩ | ⟨h6, -⟩
  · rw [h1, h2, h3, h4, h6, h7, h8]
  · omega
theorem RowP.off {x : Pr} {z : Z7} (h : RowP x z) (hs : ¬ x.2.1 < 5) : z.2.2.1 = -1 ∧ ¬ x.2.1 < 6 := by
  rcases h.2.2.2.2 with ⟨h6, -⟩ | ⟨h6, h7, -⟩
  · exact absurd h6 hs
  · exact ⟨h7, by omega⟩
/-! an hour of a promise that lies, by its stage and heat -/
section LEAF
variable {s : Nat} {mk lf ag w to : Int32}
theorem hq_a (hs : s < 5) (h1 : -10 < draw to w) (h2 : ag + 1 < lf) : hourP to (1, s, mk, lf, ag, w) = (1, s, mk, lf, ag + 1, draw to w) ∧ ringP to (1, s, mk, lf, ag, w) = 0 := by
  have h6 : s < 6 := by omega
  simp [hourP, ringP, cool, older, h6, h1, h2]
theorem hq_b (hs : s < 5) (h1 : -10 < draw to w) (h2 : ¬ ag + 1 < lf) : hourP to (1, s, mk, lf, ag, w) = (5, 6, mk, lf, ag + 1, draw to w) ∧ ringP to (1, s, mk, lf, ag, w) = 0 := by
  have h6 : s < 6 := by omega
  simp only [hourP, ringP, cool, older, h6, h1, h2, if_true, if_false]
  simp
theorem hq_c (hs : s < 5) (h1 : ¬ -10 < draw to w) : hourP to (1, s, mk, lf, ag, w) = (2, s, mk, lf, ag, draw to w) ∧ ringP to (1, s, mk, lf, ag, w) = 0 := by
  have h6 : s < 6 := by omega
  simp only [hourP, ringP, cool, older, h6, h1, if_true, if_false]
  simp
theorem hq_d (hs : s < 5) (h1 : draw to w ≤ -4) : hourP to (2, s, mk, lf, ag, w) = (2, s, mk, lf, ag, draw to w) ∧ ringP to (2, s, mk, lf, ag, w) = 0 := by
  have h6 : s < 6 := by omega
  simp [hourP, ringP, cool, older, h6, h1]
theorem hq_e (hs : s < 5) (h1 : ¬ draw to w ≤ -4) (h2 : ag + 1 < lf) : hourP to (2, s, mk, lf, ag, w) = (3, s, mk, lf, ag + 1, draw to w) ∧ ringP to (2, s, mk, lf, ag, w) = 1 := by
  have h6 : s < 6 := by omega
  simp only [hourP, ringP, cool, older, h6, h1, h2, if_true, if_false]
  simp
theorem hq_f (hs : s < 5) (h1 : ¬ draw to w ≤ -4) (h2 : ¬ ag + 1 < lf) : hourP to (2, s, mk, lf, ag, w) = (5, 6, mk, lf, ag + 1, draw to w) ∧ ringP to (2, s, mk, lf, ag, w) = 1 := by
  have h6 : s < 6 := by omega
  simp only [hourP, ringP, cool, older, h6, h1, h2, if_true, if_false]
  simp
theorem hq_g (hs : s < 5) (h2 : ag + 1 < lf) : hourP to (3, s, mk, lf, ag, w) = (3, s, mk, lf, ag + 1, draw to w) ∧ ringP to (3, s, mk, lf, ag, w) = 0 := by
  have h6 : s < 6 := by omega
  simp [hourP, ringP, cool, older, h6, h2]
theorem hq_h (hs : s < 5) (h2 : ¬ ag + 1 < lf) : hourP to (3, s, mk, lf, ag, w) = (5, 6, mk, lf, ag + 1, draw to w) ∧ ringP to (3, s, mk, lf, ag, w) = 0 := by
  have h6 : s < 6 := by omega
  simp only [hourP, ringP, cool, older, h6, h2, if_true, if_false]
  simp
end LEAF
theorem ten_nine {h : Int32} : (-9 ≤ h) ↔ -10 < h := by
  rw [Int32.le_iff_toInt_le, Int32.lt_iff_toInt_lt]
  have a1 : (-10 : Int32).toInt = -10 := by decide
  have a2 : (-9 : Int32).toInt = -9 := by decide
  omega
/-- the age is the life, or less, in the hour -/
theorem old_eq {lf ag : Nat} (h : ag < lf) (hl : lf ≤ 100) : (nI ag + 1 = nI lf) ↔ ¬ nI ag + 1 < nI lf := by
  rw [nI_1]
  rcases Nat.lt_or_ge (ag + 1) lf with q | q
  · constructor
    · intro e9
      exact absurd e9 (by
        have h1 := nI_lt q (by omega)
        intro e8
        rw [e8] at h1
        exact absurd h1 (Int32.lt_irrefl))
    · intro e9
      exact absurd (nI_lt q (by omega)) e9
  · obtain rfl : lf = ag + 1 := by omega
    exact ⟨fun _ => Int32.lt_irrefl, fun _ => rfl⟩
/-- where the law's own machine stands in an hour: shelves up to k -/
def htK (α : St) (k : Nat) (ht : Nat → Int32) : Prop := ∀ j, j < 5 → ht j = (xS α k j).2
theorem htK.up {α : St} {k : Nat} {ht : Nat → Int32} (h : htK α k ht) (hk : k < 5) {x : Int32} (hx : x = (hourS (gX α).2.2.2 (gS α k)).2) : htK α (k + 1) (va_up ht k x) := fun j hj => by
  by_cases e9 : j = k
  · subst e9
    rw [va_up_self, hx]
    exact (congrArg (fun z : Sh => z.2) (show xS α (j + 1) j = _ from if_pos (show j < j + 1 by omega))).symm
  · rw [va_up_ne _ _ e9, h j hj]
    unfold xS
    by_cases h2 : j < k
    · rw [if_pos h2, if_pos (by omega)]
    · rw [if_neg h2, if_neg (by omega)]
def rowK (α : St) (n k : Nat) (row : Nat → Z7) : Prop := ∀ q, q < n → RowP (xP α k q) (row q)
theorem rowK.up {α : St} {n k : Nat} {row : Nat → Z7} (h : rowK α n k row) {z : Z7} (hz : RowP (hourP (xS α 5 (gP α k).2.1).2 (gP α k)) z) : rowK α n (k + 1) (va_up row k z) := fun q hq => by
  by_cases e9 : q = k
  · subst e9
    rw [va_up_self, show xP α (q + 1) q = _ from if_pos (show q < q + 1 by omega)]
    exact hz
  · rw [va_up_ne _ _ e9]
    have e8 : xP α (k + 1) q = xP α k q := by
      unfold xP
      by_cases h2 : q < k
      · rw [if_pos h2, if_pos (by omega)]
      · rw [if_neg h2, if_neg (by omega)]
    rw [e8]
    exact h q hq
theorem dr_ttt {to h : Int32} (h1 : 0 ≤ (to - h)) (h2 : ¬ (to - h) / 2 = 0) (h4 : 0 ≤ (to - h)) : h + ((to - h) / 2) = drawS to h := by
  have ha : (if to - h < 0 then -(to - h) else to - h) = (to - h) := by rw [if_neg (Int32.not_lt.mpr h1)]
  have hb : byS (to - h) = (to - h) / 2 := by unfold byS; rw [ha, if_neg (fun q9 => h2 q9.1)]
  unfold drawS
  rw [hb, if_neg (Int32.not_lt.mpr h4)]
theorem dr_ttf {to h : Int32} (h1 : 0 ≤ (to - h)) (h2 : ¬ (to - h) / 2 = 0) (h4 : ¬ 0 ≤ (to - h)) : h + -((to - h) / 2) = drawS to h := by
  have ha : (if to - h < 0 then -(to - h) else to - h) = (to - h) := by rw [if_neg (Int32.not_lt.mpr h1)]
  have hb : byS (to - h) = (to - h) / 2 := by unfold byS; rw [ha, if_neg (fun q9 => h2 q9.1)]
  unfold drawS
  rw [hb, if_pos (Int32.not_le.mp h4)]
theorem dr_tftt {to h : Int32} (h1 : 0 ≤ (to - h)) (h2 : (to - h) / 2 = 0) (h3 : (to - h) = 0) (h4 : 0 ≤ (to - h)) : h + ((to - h) / 2) = drawS to h := by
  have ha : (if to - h < 0 then -(to - h) else to - h) = (to - h) := by rw [if_neg (Int32.not_lt.mpr h1)]
  have hb : byS (to - h) = (to - h) / 2 := by unfold byS; rw [ha, if_neg (fun q9 => q9.2 h3)]
  unfold drawS
  rw [hb, if_neg (Int32.not_lt.mpr h4)]
theorem dr_tftf {to h : Int32} (h1 : 0 ≤ (to - h)) (h2 : (to - h) / 2 = 0) (h3 : (to - h) = 0) (h4 : ¬ 0 ≤ (to - h)) : h + -((to - h) / 2) = drawS to h := by
  have ha : (if to - h < 0 then -(to - h) else to - h) = (to - h) := by rw [if_neg (Int32.not_lt.mpr h1)]
  have hb : byS (to - h) = (to - h) / 2 := by unfold byS; rw [ha, if_neg (fun q9 => q9.2 h3)]
  unfold drawS
  rw [hb, if_pos (Int32.not_le.mp h4)]
theorem dr_tfft {to h : Int32} (h1 : 0 ≤ (to - h)) (h2 : (to - h) / 2 = 0) (h3 : ¬ (to - h) = 0) (h4 : 0 ≤ (to - h)) : h + (1) = drawS to h := by
  have ha : (if to - h < 0 then -(to - h) else to - h) = (to - h) := by rw [if_neg (Int32.not_lt.mpr h1)]
  have hb : byS (to - h) = 1 := by unfold byS; rw [ha, if_pos ⟨h2, h3⟩]
  unfold drawS
  rw [hb, if_neg (Int32.not_lt.mpr h4)]
theorem dr_tfff {to h : Int32} (h1 : 0 ≤ (to - h)) (h2 : (to - h) / 2 = 0) (h3 : ¬ (to - h) = 0) (h4 : ¬ 0 ≤ (to - h)) : h + -(1) = drawS to h := by
  have ha : (if to - h < 0 then -(to - h) else to - h) = (to - h) := by rw [if_neg (Int32.not_lt.mpr h1)]
  have hb : byS (to - h) = 1 := by unfold byS; rw [ha, if_pos ⟨h2, h3⟩]
  unfold drawS
  rw [hb, if_pos (Int32.not_le.mp h4)]
theorem dr_ftt {to h : Int32} (h1 : ¬ 0 ≤ (to - h)) (h2 : ¬ (-(to - h)) / 2 = 0) (h4 : 0 ≤ (to - h)) : h + ((-(to - h)) / 2) = drawS to h := by
  have ha : (if to - h < 0 then -(to - h) else to - h) = -(to - h) := by rw [if_pos (Int32.not_le.mp h1)]
  have hb : byS (to - h) = (-(to - h)) / 2 := by unfold byS; rw [ha, if_neg (fun q9 => h2 q9.1)]
  unfold drawS
  rw [hb, if_neg (Int32.not_lt.mpr h4)]
theorem dr_ftf {to h : Int32} (h1 : ¬ 0 ≤ (to - h)) (h2 : ¬ (-(to - h)) / 2 = 0) (h4 : ¬ 0 ≤ (to - h)) : h + -((-(to - h)) / 2) = drawS to h := by
  have ha : (if to - h < 0 then -(to - h) else to - h) = -(to - h) := by rw [if_pos (Int32.not_le.mp h1)]
  have hb : byS (to - h) = (-(to - h)) / 2 := by unfold byS; rw [ha, if_neg (fun q9 => h2 q9.1)]
  unfold drawS
  rw [hb, if_pos (Int32.not_le.mp h4)]
theorem dr_fftt {to h : Int32} (h1 : ¬ 0 ≤ (to - h)) (h2 : (-(to - h)) / 2 = 0) (h3 : (to - h) = 0) (h4 : 0 ≤ (to - h)) : h + ((-(to - h)) / 2) = drawS to h := by
  have ha : (if to - h < 0 then -(to - h) else to - h) = -(to - h) := by rw [if_pos (Int32.not_le.mp h1)]
  have hb : byS (to - h) = (-(to - h)) / 2 := by unfold byS; rw [ha, if_neg (fun q9 => q9.2 h3)]
  unfold drawS
  rw [hb, if_neg (Int32.not_lt.mpr h4)]
theorem dr_fftf {to h : Int32} (h1 : ¬ 0 ≤ (to - h)) (h2 : (-(to - h)) / 2 = 0) (h3 : (to - h) = 0) (h4 : ¬ 0 ≤ (to - h)) : h + -((-(to - h)) / 2) = drawS to h := by
  have ha : (if to - h < 0 then -(to - h) else to - h) = -(to - h) := by rw [if_pos (Int32.not_le.mp h1)]
  have hb : byS (to - h) = (-(to - h)) / 2 := by unfold byS; rw [ha, if_neg (fun q9 => q9.2 h3)]
  unfold drawS
  rw [hb, if_pos (Int32.not_le.mp h4)]
theorem dr_ffft {to h : Int32} (h1 : ¬ 0 ≤ (to - h)) (h2 : (-(to - h)) / 2 = 0) (h3 : ¬ (to - h) = 0) (h4 : 0 ≤ (to - h)) : h + (1) = drawS to h := by
  have ha : (if to - h < 0 then -(to - h) else to - h) = -(to - h) := by rw [if_pos (Int32.not_le.mp h1)]
  have hb : byS (to - h) = 1 := by unfold byS; rw [ha, if_pos ⟨h2, h3⟩]
  unfold drawS
  rw [hb, if_neg (Int32.not_lt.mpr h4)]
theorem dr_ffff {to h : Int32} (h1 : ¬ 0 ≤ (to - h)) (h2 : (-(to - h)) / 2 = 0) (h3 : ¬ (to - h) = 0) (h4 : ¬ 0 ≤ (to - h)) : h + -(1) = drawS to h := by
  have ha : (if to - h < 0 then -(to - h) else to - h) = -(to - h) := by rw [if_pos (Int32.not_le.mp h1)]
  have hb : byS (to - h) = 1 := by unfold byS; rw [ha, if_pos ⟨h2, h3⟩]
  unfold drawS
  rw [hb, if_pos (Int32.not_le.mp h4)]
set_option maxRecDepth 100000 in
set_option maxHeartbeats 4000000 in
theorem k_pass (l : Launch) (G : Gt) {σ : St} {a : Sa} {hh pw ar : Int32} {st ht : Nat → Int32} {n : Nat} {row : Nat → Z7} {Y : va_W} {α : St} (hp : Pct α (hh, pw, ar, st, ht, n, row)) : Cw l G yX4_pass cX4_pass 8 (some .int) 1 0 0 [.ref a.1.1] (fw G σ a (hh, pw, ar, st, ht, n, row) Y) (Ui G (fun r ws' => ∃ (h2 a2 : Int32) (ht2 : Nat → Int32) (row2 : Nat → Z7), ws' = fw G σ a (h2, pw, a2, st, ht2, n, row2) Y ∧ Pct (hourX α) (h2, pw, a2, st, ht2, n, row2) ∧ r = sumN (xR α) 20)) := by
  refine mw_intro (by decide +kernel) (Nat.le_of_ble_eq_true rfl) ?_
  intro p e s m below meth c S hr hlk hnm hJ ls hl
  have hl : lv_has ls 8 [(0, .ref a.1.1)] := hl
  obtain ⟨hI9, ⟨hp1, hp2, hp3⟩, hpS, hpR⟩ := hp
  dsimp only at hI9 hp1 hp2 hp3 hpS hpR
  have hn : n ≤ 20 := hI9.1
  have hpw : pw = 0 ∨ pw = 1 := by rw [hp2]; exact hI9.2.2.1
  have loop2 : ∀ (n9 : Nat) (k : Nat) (rowK9 : Nat → Z7) (ht5 : Nat → Int32), k + n9 = n → htK α 5 ht5 → rowK α n k rowK9 → ∀ (H : Heap) (locs : List Loc), Jw G (fw G σ a (hh, pw, ar, st, ht5, n, rowK9) Y) s H locs → ∀ ls : Array Slot, lv_has ls 8 [(0, .ref a.1.1), (1, .int (sumN (xR α) k)), (2, .ref a.1.2.2.2), (3, .int (nI n)), (4, .int (nI k))] → W p l e (rm 1 0 0) s m ([.ref a.1.1] : List Value).toArray below meth c H locs 0 0 (MQ below (Ui G (fun r ws' => ∃ (h2 a2 : Int32) (ht2 : Nat → Int32) (row2 : Nat → Z7), ws' = fw G σ a (h2, pw, a2, st, ht2, n, row2) Y ∧ Pct (hourX α) (h2, pw, a2, st, ht2, n, row2) ∧ r = sumN (xR α) 20)) ([.ref a.1.1] : List Value).toArray s 0 0 (gA G)) (F0 m 122 ls []) := by
    intro n9
    induction n9 with
    | zero =>
      intro k rowK9 ht5 hk0 hT hR H locs hJ ls hl
      obtain rfl : k = n := by omega
      refine lv_iload S.1 S.2.1 dX4_pass_122 (lv_at hl 4 rfl) ?_
      refine lv_iload_n S.1 S.2.1 dX4_pass_124 rfl (lv_at hl 3 rfl) ?_
      refine lv_icmp_ge (tgt := 309) S.1 S.2.1 dX4_pass_125 (by decide) (fun cz_125 => ?_) (fun c9 => absurd (nI_le (Nat.le_refl k) (by omega)) c9)
      refine lv_aload_n S.1 S.2.1 dX4_pass_309 rfl (lv_at hl 0 rfl) ?_
      refine lv_dup S.1 S.2.1 dX4_pass_310 rfl ?_
      refine q_X4_alarms S hJ dX4_pass_311 ?_
      refine lv_iload_n S.1 S.2.1 dX4_pass_314 rfl (lv_at hl 1 rfl) ?_
      refine lv_iadd S.1 S.2.1 dX4_pass_315 ?_
      refine u_X4_alarms S hJ dX4_pass_316 (fun H locs hJ => ?_)
      refine lv_aload_n S.1 S.2.1 dX4_pass_319 rfl (lv_at hl 0 rfl) ?_
      refine lv_dup S.1 S.2.1 dX4_pass_320 rfl ?_
      refine q_X4_hour S hJ dX4_pass_321 ?_
      refine lv_iconst (v := 1) S.1 S.2.1 dX4_pass_324 (by decide) ?_
      refine lv_iadd S.1 S.2.1 dX4_pass_325 ?_
      refine u_X4_hour S hJ dX4_pass_326 (fun H locs hJ => ?_)
      refine lv_iload_n S.1 S.2.1 dX4_pass_329 rfl (lv_at hl 1 rfl) ?_
      exact yt_i S hJ hr hlk (⟨_, _, _, _, rfl, ⟨hI9.hour, ⟨by rw [hp1]; rfl, by rw [hp2]; rfl, by
                show ar + sumN (xR α) k = (gX α).2.1 + sumN (xR α) 20
                rw [hp3, sumN_tail (f := xR α) hn (fun i h1 h2 => if_neg (by have := (hI9.2.2.2.2.2 i h1 h2).2; omega))]⟩, fun j hj => ⟨by rw [hourX_S _ hj]; exact (hpS j hj).1, hT j hj⟩, fun q hq => by
                have e9 := hR q hq
                rw [show xP α k q = hourP (xS α 5 (gP α q).2.1).2 (gP α q) from if_pos hq] at e9
                rw [hourX_P _ (show q < 20 by have hq2 : q < k := hq; omega)]
                exact e9⟩, (sumN_tail (f := xR α) hn (fun i h1 h2 => if_neg (by have := (hI9.2.2.2.2.2 i h1 h2).2; omega))).symm⟩) (by omega) (by omega) dX4_pass_330
    | succ n9 ih =>
      intro k rowK9 ht5 hk0 hT hR H locs hJ ls hl
      have hk2 : k < n := by omega
      have hRk := hR k hk2
      rw [show xP α k k = gP α k from if_neg (by omega)] at hRk
      refine lv_iload S.1 S.2.1 dX4_pass_122 (lv_at hl 4 rfl) ?_
      refine lv_iload_n S.1 S.2.1 dX4_pass_124 rfl (lv_at hl 3 rfl) ?_
      refine lv_icmp_ge (tgt := 309) S.1 S.2.1 dX4_pass_125 (by decide) (fun c9 => absurd c9 (nI_ge hk2 (by omega))) (fun cz_125 => ?_)
      obtain ⟨⟨z0, z1, z2, z3, z4, z5, z6⟩, hz⟩ : ∃ z, rowK9 k = z := ⟨_, rfl⟩
      rw [hz] at hRk
      have hJ : Jw G (fw G σ a (hh, pw, ar, st, ht5, n, va_up rowK9 k (z0, z1, z2, z3, z4, z5, z6)) Y) s H locs := by rw [← hz, va_up_same]; exact hJ
      have nxt : ∀ (z9 : Z7) (r9 : Int32), RowP (hourP (xS α 5 (gP α k).2.1).2 (gP α k)) z9 → r9 = sumN (xR α) (k + 1) → ∀ (H : Heap) (locs : List Loc), Jw G (fw G σ a (hh, pw, ar, st, ht5, n, va_up rowK9 k z9) Y) s H locs → ∀ ls : Array Slot, lv_has ls 8 [(0, .ref a.1.1), (1, .int r9), (2, .ref a.1.2.2.2), (3, .int (nI n)), (4, .int (nI k))] → W p l e (rm 1 0 0) s m ([.ref a.1.1] : List Value).toArray below meth c H locs 0 0 (MQ below (Ui G (fun r ws' => ∃ (h2 a2 : Int32) (ht2 : Nat → Int32) (row2 : Nat → Z7), ws' = fw G σ a (h2, pw, a2, st, ht2, n, row2) Y ∧ Pct (hourX α) (h2, pw, a2, st, ht2, n, row2) ∧ r = sumN (xR α) 20)) ([.ref a.1.1] : List Value).toArray s 0 0 (gA G)) (F0 m 303 ls []) := by
        intro z9 r9 hz9 hr9 H locs hJ ls hl
        refine lv_iinc (v := (nI (k + 1))) (lv' := [(4, .int (nI (k + 1))), (0, .ref a.1.1), (1, .int r9), (2, .ref a.1.2.2.2), (3, .int (nI n))]) S.1 S.2.1 dX4_pass_303 hl (k := 4) rfl (nI_1 k) (by decide) rfl (fun ls hl => ?_)
        refine lv_goto (tgt := 122) S.1 S.2.1 dX4_pass_306 (by decide) ?_
        exact ih (k + 1) _ ht5 (by omega) hT (hR.up hz9) _ _ hJ ls (by rw [← hr9]; exact lv_sub hl [1, 2, 3, 4, 0] rfl)
      refine lv_aload_n S.1 S.2.1 dX4_pass_128 rfl (lv_at hl 2 rfl) ?_
      refine lv_iload S.1 S.2.1 dX4_pass_129 (lv_at hl 4 rfl) ?_
      refine i_all S hJ (i := k) hk2 hn dX4_pass_131 ?_
      refine lv_astore (lv' := [(5, .ref (a.2 k)), (0, .ref a.1.1), (1, .int (sumN (xR α) k)), (2, .ref a.1.2.2.2), (3, .int (nI n)), (4, .int (nI k))]) S.1 S.2.1 dX4_pass_132 hl (by decide) rfl (fun ls hl => ?_)
      by_cases h5 : (gP α k).2.1 < 5
      · have hzE := hRk.lie h5
        obtain ⟨ma, lf, ag, e1, e2, e3, e4, e5, e6, e7, e8⟩ := hI9.2.2.2.2.1 k hk2
        obtain ⟨⟨g, sh, mk9, lf9, ag9, w9⟩, hx⟩ : ∃ x, gP α k = x := ⟨_, rfl⟩
        have hxr : xR α k = ringP (xS α 5 (gP α k).2.1).2 (gP α k) := rfl
        rw [hx] at hzE e1 e3 e6 e7 e8 h5 nxt hxr
        dsimp only at hzE e1 e3 e6 e7 e8 h5 nxt hxr
        obtain ⟨rfl, rfl, rfl, rfl, rfl, rfl, rfl⟩ : z0 = mk9 ∧ z1 = lf9 ∧ z2 = nI sh ∧ z3 = w9 ∧ z4 = ag9 ∧ z5 = nI (g - 1) ∧ z6 = 0 := by cases hzE; exact ⟨rfl, rfl, rfl, rfl, rfl, rfl, rfl⟩
        have hg : g = 1 ∨ g = 2 ∨ g = 3 := by omega
        have hag : ∃ ag lf : Nat, z4 = nI ag ∧ z1 = nI lf ∧ ag < lf ∧ lf ≤ 100 := ⟨ag, lf, e6, e3, by omega, e5⟩
        have hto : (xS α 5 sh).2 = ht5 sh := (hT sh h5).symm
        have htb : -30 ≤ ht5 sh ∧ ht5 sh ≤ 20 := by rw [← hto]; exact (xS_in hI9 h5).2.2
        rw [hto] at nxt hxr
        obtain ⟨hd1, hd2, -⟩ := draw_in htb e7
        have hold : ∀ y : Int32, (y = z4 + 1) → (y = z1 ↔ ¬ z4 + 1 < z1) := fun y hy => by
          obtain ⟨a8, l8, q1, q2, q3, q4⟩ := hag
          rw [hy, q1, q2]
          exact old_eq q3 q4
        have j210 : ∀ (H : Heap) (locs : List Loc), Jw G (fw G σ a (hh, pw, ar, st, ht5, n, va_up rowK9 k (z0, z1, (nI sh), (draw (ht5 sh) z3), z4, (nI (g - 1)), 0)) Y) s H locs → ∀ ls : Array Slot, lv_has ls 8 [(0, .ref a.1.1), (1, .int (sumN (xR α) k)), (2, .ref a.1.2.2.2), (3, .int (nI n)), (4, .int (nI k)), (5, .ref (a.2 k))] → W p l e (rm 1 0 0) s m ([.ref a.1.1] : List Value).toArray below meth c H locs 0 0 (MQ below (Ui G (fun r ws' => ∃ (h2 a2 : Int32) (ht2 : Nat → Int32) (row2 : Nat → Z7), ws' = fw G σ a (h2, pw, a2, st, ht2, n, row2) Y ∧ Pct (hourX α) (h2, pw, a2, st, ht2, n, row2) ∧ r = sumN (xR α) 20)) ([.ref a.1.1] : List Value).toArray s 0 0 (gA G)) (F0 m 210 ls []) := by
          intro H locs hJ ls hl
          rcases hg with rfl | rfl | rfl
          · refine lv_aload S.1 S.2.1 dX4_pass_210 (lv_at hl 5 rfl) ?_
            refine lv_iconst (v := 5) S.1 S.2.1 dX4_pass_212 (by decide) ?_
            refine i_row5 S hJ hk2 dX4_pass_213 ?_
            refine lv_if_ne (tgt := 234) S.1 S.2.1 dX4_pass_214 (by decide) (fun c9 => absurd (by decide) c9) (fun cz_214 => ?_)
            refine lv_aload S.1 S.2.1 dX4_pass_217 (lv_at hl 5 rfl) ?_
            refine lv_iconst (v := 3) S.1 S.2.1 dX4_pass_219 (by decide) ?_
            refine i_row3 S hJ hk2 dX4_pass_220 ?_
            refine lv_bipush (v := (-9)) S.1 S.2.1 dX4_pass_221 (by decide) ?_
            refine lv_icmp_ge (tgt := 234) S.1 S.2.1 dX4_pass_223 (by decide) (fun cz_223 => ?_) (fun cz_223 => ?_)
            · refine lv_aload S.1 S.2.1 dX4_pass_234 (lv_at hl 5 rfl) ?_
              refine lv_iconst (v := 5) S.1 S.2.1 dX4_pass_236 (by decide) ?_
              refine i_row5 S hJ hk2 dX4_pass_237 ?_
              refine lv_iconst (v := 1) S.1 S.2.1 dX4_pass_238 (by decide) ?_
              refine lv_icmp_ne (tgt := 259) S.1 S.2.1 dX4_pass_239 (by decide) (fun cz_239 => ?_) (fun c9 => absurd c9 (by decide))
              refine lv_aload S.1 S.2.1 dX4_pass_259 (lv_at hl 5 rfl) ?_
              refine lv_iconst (v := 5) S.1 S.2.1 dX4_pass_261 (by decide) ?_
              refine i_row5 S hJ hk2 dX4_pass_262 ?_
              refine lv_iconst (v := 1) S.1 S.2.1 dX4_pass_263 (by decide) ?_
              refine lv_icmp_ne (tgt := 270) S.1 S.2.1 dX4_pass_264 (by decide) (fun cz_264 => ?_) (fun c9 => absurd c9 (by decide))
              refine lv_aload S.1 S.2.1 dX4_pass_270 (lv_at hl 5 rfl) ?_
              refine lv_iconst (v := 4) S.1 S.2.1 dX4_pass_272 (by decide) ?_
              refine lv_dup2_11 S.1 S.2.1 dX4_pass_273 rfl rfl ?_
              refine i_row4 S hJ hk2 dX4_pass_274 ?_
              refine lv_iconst (v := 1) S.1 S.2.1 dX4_pass_275 (by decide) ?_
              refine lv_iadd S.1 S.2.1 dX4_pass_276 ?_
              refine o_row4 S hJ hk2 dX4_pass_277 (fun H locs hJ => ?_)
              refine lv_aload S.1 S.2.1 dX4_pass_278 (lv_at hl 5 rfl) ?_
              refine lv_iconst (v := 4) S.1 S.2.1 dX4_pass_280 (by decide) ?_
              refine i_row4 S hJ hk2 dX4_pass_281 ?_
              refine lv_aload S.1 S.2.1 dX4_pass_282 (lv_at hl 5 rfl) ?_
              refine lv_iconst (v := 1) S.1 S.2.1 dX4_pass_284 (by decide) ?_
              refine i_row1 S hJ hk2 dX4_pass_285 ?_
              refine lv_icmp_eq (tgt := 292) S.1 S.2.1 dX4_pass_286 (by decide) (fun cz_286 => ?_) (fun cz_286 => ?_)
              · refine lv_aload S.1 S.2.1 dX4_pass_292 (lv_at hl 5 rfl) ?_
                refine lv_iconst (v := 2) S.1 S.2.1 dX4_pass_294 (by decide) ?_
                refine lv_iconst (v := (-1)) S.1 S.2.1 dX4_pass_295 (by decide) ?_
                refine o_row2 S hJ hk2 dX4_pass_296 (fun H locs hJ => ?_)
                refine lv_aload S.1 S.2.1 dX4_pass_297 (lv_at hl 5 rfl) ?_
                refine lv_bipush (v := 6) S.1 S.2.1 dX4_pass_299 (by decide) ?_
                refine lv_iconst (v := 2) S.1 S.2.1 dX4_pass_301 (by decide) ?_
                refine o_row6 S hJ hk2 dX4_pass_302 (fun H locs hJ => ?_)
                obtain ⟨hA, hB⟩ := (hq_b h5 (ten_nine.mp cz_223) ((hold _ rfl).mp cz_286) : hourP (ht5 sh) (1, sh, z0, z1, z4, z3) = _ ∧ _)
                rw [hA] at nxt
                rw [hB] at hxr
                exact nxt (z0, z1, (-1), (draw (ht5 sh) z3), (z4 + 1), 0, 2) _ ⟨rfl, rfl, rfl, rfl, Or.inr ⟨rfl, rfl, Or.inr ⟨rfl, rfl⟩⟩⟩ (by rw [sumN_s, hxr]; exact (Int32.add_zero _).symm) _ _ hJ ls (lv_sub hl [0, 1, 2, 3, 4] rfl)
              · refine lv_goto (tgt := 303) S.1 S.2.1 dX4_pass_289 (by decide) ?_
                obtain ⟨hA, hB⟩ := (hq_a h5 (ten_nine.mp cz_223) (Decidable.of_not_not (fun q9 => cz_286 ((hold _ rfl).mpr q9))) : hourP (ht5 sh) (1, sh, z0, z1, z4, z3) = _ ∧ _)
                rw [hA] at nxt
                rw [hB] at hxr
                exact nxt (z0, z1, (nI sh), (draw (ht5 sh) z3), (z4 + 1), 0, 0) _ ⟨rfl, rfl, rfl, rfl, Or.inl ⟨h5, rfl, rfl, rfl⟩⟩ (by rw [sumN_s, hxr]; exact (Int32.add_zero _).symm) _ _ hJ ls (lv_sub hl [0, 1, 2, 3, 4] rfl)
            · refine lv_aload S.1 S.2.1 dX4_pass_226 (lv_at hl 5 rfl) ?_
              refine lv_iconst (v := 5) S.1 S.2.1 dX4_pass_228 (by decide) ?_
              refine lv_iconst (v := 1) S.1 S.2.1 dX4_pass_229 (by decide) ?_
              refine o_row5 S hJ hk2 dX4_pass_230 (fun H locs hJ => ?_)
              refine lv_goto (tgt := 259) S.1 S.2.1 dX4_pass_231 (by decide) ?_
              refine lv_aload S.1 S.2.1 dX4_pass_259 (lv_at hl 5 rfl) ?_
              refine lv_iconst (v := 5) S.1 S.2.1 dX4_pass_261 (by decide) ?_
              refine i_row5 S hJ hk2 dX4_pass_262 ?_
              refine lv_iconst (v := 1) S.1 S.2.1 dX4_pass_263 (by decide) ?_
              refine lv_icmp_ne (tgt := 270) S.1 S.2.1 dX4_pass_264 (by decide) (fun c9 => absurd (by decide) c9) (fun cz_264 => ?_)
              refine lv_goto (tgt := 303) S.1 S.2.1 dX4_pass_267 (by decide) ?_
              obtain ⟨hA, hB⟩ := (hq_c h5 (fun q9 => cz_223 (ten_nine.mpr q9)) : hourP (ht5 sh) (1, sh, z0, z1, z4, z3) = _ ∧ _)
              rw [hA] at nxt
              rw [hB] at hxr
              exact nxt (z0, z1, (nI sh), (draw (ht5 sh) z3), z4, 1, 0) _ ⟨rfl, rfl, rfl, rfl, Or.inl ⟨h5, rfl, rfl, rfl⟩⟩ (by rw [sumN_s, hxr]; exact (Int32.add_zero _).symm) _ _ hJ ls (lv_sub hl [0, 1, 2, 3, 4] rfl)
          · refine lv_aload S.1 S.2.1 dX4_pass_210 (lv_at hl 5 rfl) ?_
            refine lv_iconst (v := 5) S.1 S.2.1 dX4_pass_212 (by decide) ?_
            refine i_row5 S hJ hk2 dX4_pass_213 ?_
            refine lv_if_ne (tgt := 234) S.1 S.2.1 dX4_pass_214 (by decide) (fun cz_214 => ?_) (fun c9 => absurd c9 (by decide))
            refine lv_aload S.1 S.2.1 dX4_pass_234 (lv_at hl 5 rfl) ?_
            refine lv_iconst (v := 5) S.1 S.2.1 dX4_pass_236 (by decide) ?_
            refine i_row5 S hJ hk2 dX4_pass_237 ?_
            refine lv_iconst (v := 1) S.1 S.2.1 dX4_pass_238 (by decide) ?_
            refine lv_icmp_ne (tgt := 259) S.1 S.2.1 dX4_pass_239 (by decide) (fun c9 => absurd (by decide) c9) (fun cz_239 => ?_)
            refine lv_aload S.1 S.2.1 dX4_pass_242 (lv_at hl 5 rfl) ?_
            refine lv_iconst (v := 3) S.1 S.2.1 dX4_pass_244 (by decide) ?_
            refine i_row3 S hJ hk2 dX4_pass_245 ?_
            refine lv_bipush (v := (-4)) S.1 S.2.1 dX4_pass_246 (by decide) ?_
            refine lv_icmp_le (tgt := 259) S.1 S.2.1 dX4_pass_248 (by decide) (fun cz_248 => ?_) (fun cz_248 => ?_)
            · refine lv_aload S.1 S.2.1 dX4_pass_259 (lv_at hl 5 rfl) ?_
              refine lv_iconst (v := 5) S.1 S.2.1 dX4_pass_261 (by decide) ?_
              refine i_row5 S hJ hk2 dX4_pass_262 ?_
              refine lv_iconst (v := 1) S.1 S.2.1 dX4_pass_263 (by decide) ?_
              refine lv_icmp_ne (tgt := 270) S.1 S.2.1 dX4_pass_264 (by decide) (fun c9 => absurd (by decide) c9) (fun cz_264 => ?_)
              refine lv_goto (tgt := 303) S.1 S.2.1 dX4_pass_267 (by decide) ?_
              obtain ⟨hA, hB⟩ := (hq_d h5 cz_248 : hourP (ht5 sh) (2, sh, z0, z1, z4, z3) = _ ∧ _)
              rw [hA] at nxt
              rw [hB] at hxr
              exact nxt (z0, z1, (nI sh), (draw (ht5 sh) z3), z4, 1, 0) _ ⟨rfl, rfl, rfl, rfl, Or.inl ⟨h5, rfl, rfl, rfl⟩⟩ (by rw [sumN_s, hxr]; exact (Int32.add_zero _).symm) _ _ hJ ls (lv_sub hl [0, 1, 2, 3, 4] rfl)
            · refine lv_aload S.1 S.2.1 dX4_pass_251 (lv_at hl 5 rfl) ?_
              refine lv_iconst (v := 5) S.1 S.2.1 dX4_pass_253 (by decide) ?_
              refine lv_iconst (v := 2) S.1 S.2.1 dX4_pass_254 (by decide) ?_
              refine o_row5 S hJ hk2 dX4_pass_255 (fun H locs hJ => ?_)
              refine lv_iinc (v := ((sumN (xR α) k) + 1)) (lv' := [(1, .int ((sumN (xR α) k) + 1)), (0, .ref a.1.1), (2, .ref a.1.2.2.2), (3, .int (nI n)), (4, .int (nI k)), (5, .ref (a.2 k))]) S.1 S.2.1 dX4_pass_256 hl (k := 1) rfl rfl (by decide) rfl (fun ls hl => ?_)
              refine lv_aload S.1 S.2.1 dX4_pass_259 (lv_at hl 5 rfl) ?_
              refine lv_iconst (v := 5) S.1 S.2.1 dX4_pass_261 (by decide) ?_
              refine i_row5 S hJ hk2 dX4_pass_262 ?_
              refine lv_iconst (v := 1) S.1 S.2.1 dX4_pass_263 (by decide) ?_
              refine lv_icmp_ne (tgt := 270) S.1 S.2.1 dX4_pass_264 (by decide) (fun cz_264 => ?_) (fun c9 => absurd c9 (by decide))
              refine lv_aload S.1 S.2.1 dX4_pass_270 (lv_at hl 5 rfl) ?_
              refine lv_iconst (v := 4) S.1 S.2.1 dX4_pass_272 (by decide) ?_
              refine lv_dup2_11 S.1 S.2.1 dX4_pass_273 rfl rfl ?_
              refine i_row4 S hJ hk2 dX4_pass_274 ?_
              refine lv_iconst (v := 1) S.1 S.2.1 dX4_pass_275 (by decide) ?_
              refine lv_iadd S.1 S.2.1 dX4_pass_276 ?_
              refine o_row4 S hJ hk2 dX4_pass_277 (fun H locs hJ => ?_)
              refine lv_aload S.1 S.2.1 dX4_pass_278 (lv_at hl 5 rfl) ?_
              refine lv_iconst (v := 4) S.1 S.2.1 dX4_pass_280 (by decide) ?_
              refine i_row4 S hJ hk2 dX4_pass_281 ?_
              refine lv_aload S.1 S.2.1 dX4_pass_282 (lv_at hl 5 rfl) ?_
              refine lv_iconst (v := 1) S.1 S.2.1 dX4_pass_284 (by decide) ?_
              refine i_row1 S hJ hk2 dX4_pass_285 ?_
              refine lv_icmp_eq (tgt := 292) S.1 S.2.1 dX4_pass_286 (by decide) (fun cz_286 => ?_) (fun cz_286 => ?_)
              · refine lv_aload S.1 S.2.1 dX4_pass_292 (lv_at hl 5 rfl) ?_
                refine lv_iconst (v := 2) S.1 S.2.1 dX4_pass_294 (by decide) ?_
                refine lv_iconst (v := (-1)) S.1 S.2.1 dX4_pass_295 (by decide) ?_
                refine o_row2 S hJ hk2 dX4_pass_296 (fun H locs hJ => ?_)
                refine lv_aload S.1 S.2.1 dX4_pass_297 (lv_at hl 5 rfl) ?_
                refine lv_bipush (v := 6) S.1 S.2.1 dX4_pass_299 (by decide) ?_
                refine lv_iconst (v := 2) S.1 S.2.1 dX4_pass_301 (by decide) ?_
                refine o_row6 S hJ hk2 dX4_pass_302 (fun H locs hJ => ?_)
                obtain ⟨hA, hB⟩ := (hq_f h5 cz_248 ((hold _ rfl).mp cz_286) : hourP (ht5 sh) (2, sh, z0, z1, z4, z3) = _ ∧ _)
                rw [hA] at nxt
                rw [hB] at hxr
                exact nxt (z0, z1, (-1), (draw (ht5 sh) z3), (z4 + 1), 2, 2) _ ⟨rfl, rfl, rfl, rfl, Or.inr ⟨rfl, rfl, Or.inr ⟨rfl, rfl⟩⟩⟩ (by rw [sumN_s, hxr]) _ _ hJ ls (lv_sub hl [1, 0, 2, 3, 4] rfl)
              · refine lv_goto (tgt := 303) S.1 S.2.1 dX4_pass_289 (by decide) ?_
                obtain ⟨hA, hB⟩ := (hq_e h5 cz_248 (Decidable.of_not_not (fun q9 => cz_286 ((hold _ rfl).mpr q9))) : hourP (ht5 sh) (2, sh, z0, z1, z4, z3) = _ ∧ _)
                rw [hA] at nxt
                rw [hB] at hxr
                exact nxt (z0, z1, (nI sh), (draw (ht5 sh) z3), (z4 + 1), 2, 0) _ ⟨rfl, rfl, rfl, rfl, Or.inl ⟨h5, rfl, rfl, rfl⟩⟩ (by rw [sumN_s, hxr]) _ _ hJ ls (lv_sub hl [1, 0, 2, 3, 4] rfl)
          · refine lv_aload S.1 S.2.1 dX4_pass_210 (lv_at hl 5 rfl) ?_
            refine lv_iconst (v := 5) S.1 S.2.1 dX4_pass_212 (by decide) ?_
            refine i_row5 S hJ hk2 dX4_pass_213 ?_
            refine lv_if_ne (tgt := 234) S.1 S.2.1 dX4_pass_214 (by decide) (fun cz_214 => ?_) (fun c9 => absurd c9 (by decide))
            refine lv_aload S.1 S.2.1 dX4_pass_234 (lv_at hl 5 rfl) ?_
            refine lv_iconst (v := 5) S.1 S.2.1 dX4_pass_236 (by decide) ?_
            refine i_row5 S hJ hk2 dX4_pass_237 ?_
            refine lv_iconst (v := 1) S.1 S.2.1 dX4_pass_238 (by decide) ?_
            refine lv_icmp_ne (tgt := 259) S.1 S.2.1 dX4_pass_239 (by decide) (fun cz_239 => ?_) (fun c9 => absurd c9 (by decide))
            refine lv_aload S.1 S.2.1 dX4_pass_259 (lv_at hl 5 rfl) ?_
            refine lv_iconst (v := 5) S.1 S.2.1 dX4_pass_261 (by decide) ?_
            refine i_row5 S hJ hk2 dX4_pass_262 ?_
            refine lv_iconst (v := 1) S.1 S.2.1 dX4_pass_263 (by decide) ?_
            refine lv_icmp_ne (tgt := 270) S.1 S.2.1 dX4_pass_264 (by decide) (fun cz_264 => ?_) (fun c9 => absurd c9 (by decide))
            refine lv_aload S.1 S.2.1 dX4_pass_270 (lv_at hl 5 rfl) ?_
            refine lv_iconst (v := 4) S.1 S.2.1 dX4_pass_272 (by decide) ?_
            refine lv_dup2_11 S.1 S.2.1 dX4_pass_273 rfl rfl ?_
            refine i_row4 S hJ hk2 dX4_pass_274 ?_
            refine lv_iconst (v := 1) S.1 S.2.1 dX4_pass_275 (by decide) ?_
            refine lv_iadd S.1 S.2.1 dX4_pass_276 ?_
            refine o_row4 S hJ hk2 dX4_pass_277 (fun H locs hJ => ?_)
            refine lv_aload S.1 S.2.1 dX4_pass_278 (lv_at hl 5 rfl) ?_
            refine lv_iconst (v := 4) S.1 S.2.1 dX4_pass_280 (by decide) ?_
            refine i_row4 S hJ hk2 dX4_pass_281 ?_
            refine lv_aload S.1 S.2.1 dX4_pass_282 (lv_at hl 5 rfl) ?_
            refine lv_iconst (v := 1) S.1 S.2.1 dX4_pass_284 (by decide) ?_
            refine i_row1 S hJ hk2 dX4_pass_285 ?_
            refine lv_icmp_eq (tgt := 292) S.1 S.2.1 dX4_pass_286 (by decide) (fun cz_286 => ?_) (fun cz_286 => ?_)
            · refine lv_aload S.1 S.2.1 dX4_pass_292 (lv_at hl 5 rfl) ?_
              refine lv_iconst (v := 2) S.1 S.2.1 dX4_pass_294 (by decide) ?_
              refine lv_iconst (v := (-1)) S.1 S.2.1 dX4_pass_295 (by decide) ?_
              refine o_row2 S hJ hk2 dX4_pass_296 (fun H locs hJ => ?_)
              refine lv_aload S.1 S.2.1 dX4_pass_297 (lv_at hl 5 rfl) ?_
              refine lv_bipush (v := 6) S.1 S.2.1 dX4_pass_299 (by decide) ?_
              refine lv_iconst (v := 2) S.1 S.2.1 dX4_pass_301 (by decide) ?_
              refine o_row6 S hJ hk2 dX4_pass_302 (fun H locs hJ => ?_)
              obtain ⟨hA, hB⟩ := (hq_h h5 ((hold _ rfl).mp cz_286) : hourP (ht5 sh) (3, sh, z0, z1, z4, z3) = _ ∧ _)
              rw [hA] at nxt
              rw [hB] at hxr
              exact nxt (z0, z1, (-1), (draw (ht5 sh) z3), (z4 + 1), 2, 2) _ ⟨rfl, rfl, rfl, rfl, Or.inr ⟨rfl, rfl, Or.inr ⟨rfl, rfl⟩⟩⟩ (by rw [sumN_s, hxr]; exact (Int32.add_zero _).symm) _ _ hJ ls (lv_sub hl [0, 1, 2, 3, 4] rfl)
            · refine lv_goto (tgt := 303) S.1 S.2.1 dX4_pass_289 (by decide) ?_
              obtain ⟨hA, hB⟩ := (hq_g h5 (Decidable.of_not_not (fun q9 => cz_286 ((hold _ rfl).mpr q9))) : hourP (ht5 sh) (3, sh, z0, z1, z4, z3) = _ ∧ _)
              rw [hA] at nxt
              rw [hB] at hxr
              exact nxt (z0, z1, (nI sh), (draw (ht5 sh) z3), (z4 + 1), 2, 0) _ ⟨rfl, rfl, rfl, rfl, Or.inl ⟨h5, rfl, rfl, rfl⟩⟩ (by rw [sumN_s, hxr]; exact (Int32.add_zero _).symm) _ _ hJ ls (lv_sub hl [0, 1, 2, 3, 4] rfl)
        refine lv_aload S.1 S.2.1 dX4_pass_134 (lv_at hl 0 rfl) ?_
        refine lv_iconst (v := 2) S.1 S.2.1 dX4_pass_136 (by decide) ?_
        refine i_row2 S hJ hk2 dX4_pass_137 ?_
        refine lv_if_ge (tgt := 144) S.1 S.2.1 dX4_pass_138 (by decide) (fun cz_138 => ?_) (fun c9 => absurd (Int32.not_lt.mp (nI_pos (by omega))) c9)
        refine lv_aload_n S.1 S.2.1 dX4_pass_144 rfl (lv_at hl 1 rfl) ?_
        refine q_X4_heat S hJ dX4_pass_145 ?_
        refine lv_aload S.1 S.2.1 dX4_pass_148 (lv_at hl 0 rfl) ?_
        refine lv_iconst (v := 2) S.1 S.2.1 dX4_pass_150 (by decide) ?_
        refine i_row2 S hJ hk2 dX4_pass_151 ?_
        refine i_ht S hJ (j := sh) h5 dX4_pass_152 ?_
        refine lv_aload S.1 S.2.1 dX4_pass_153 (lv_at hl 0 rfl) ?_
        refine lv_iconst (v := 3) S.1 S.2.1 dX4_pass_155 (by decide) ?_
        refine i_row3 S hJ hk2 dX4_pass_156 ?_
        refine lv_isub S.1 S.2.1 dX4_pass_157 ?_
        refine lv_istore (lv' := [(6, .int ((ht5 sh) - z3)), (5, .ref (a.2 k)), (0, .ref a.1.1), (1, .int (sumN (xR α) k)), (2, .ref a.1.2.2.2), (3, .int (nI n)), (4, .int (nI k))]) S.1 S.2.1 dX4_pass_158 hl (by decide) rfl (fun ls hl => ?_)
        refine lv_iload S.1 S.2.1 dX4_pass_160 (lv_at hl 0 rfl) ?_
        refine lv_if_ge (tgt := 171) S.1 S.2.1 dX4_pass_162 (by decide) (fun cz_162 => ?_) (fun cz_162 => ?_)
        · refine lv_iload S.1 S.2.1 dX4_pass_171 (lv_at hl 0 rfl) ?_
          refine lv_iconst (v := 2) S.1 S.2.1 dX4_pass_173 (by decide) ?_
          refine lv_idiv S.1 S.2.1 dX4_pass_174 (by decide) ?_
          refine lv_istore (lv' := [(7, .int (((ht5 sh) - z3) / 2)), (6, .int ((ht5 sh) - z3)), (5, .ref (a.2 k)), (0, .ref a.1.1), (1, .int (sumN (xR α) k)), (2, .ref a.1.2.2.2), (3, .int (nI n)), (4, .int (nI k))]) S.1 S.2.1 dX4_pass_175 hl (by decide) rfl (fun ls hl => ?_)
          refine lv_iload S.1 S.2.1 dX4_pass_177 (lv_at hl 0 rfl) ?_
          refine lv_if_ne (tgt := 190) S.1 S.2.1 dX4_pass_179 (by decide) (fun cz_179 => ?_) (fun cz_179 => ?_)
          · refine lv_aload S.1 S.2.1 dX4_pass_190 (lv_at hl 2 rfl) ?_
            refine lv_iconst (v := 3) S.1 S.2.1 dX4_pass_192 (by decide) ?_
            refine lv_dup2_11 S.1 S.2.1 dX4_pass_193 rfl rfl ?_
            refine i_row3 S hJ hk2 dX4_pass_194 ?_
            refine lv_iload S.1 S.2.1 dX4_pass_195 (lv_at hl 1 rfl) ?_
            refine lv_if_ge (tgt := 206) S.1 S.2.1 dX4_pass_197 (by decide) (fun cz_197 => ?_) (fun cz_197 => ?_)
            · refine lv_iload S.1 S.2.1 dX4_pass_206 (lv_at hl 0 rfl) ?_
              refine lv_iadd S.1 S.2.1 dX4_pass_208 ?_
              refine o_row3 S hJ hk2 dX4_pass_209 (fun H locs hJ => ?_)
              rw [show (z3 + (((ht5 sh) - z3) / 2)) = draw (ht5 sh) z3 from by rw [← hd1]; exact dr_ttt cz_162 cz_179 cz_197] at hJ
              exact j210 _ _ hJ ls (lv_sub hl [3, 4, 5, 6, 7, 2] rfl)
            · refine lv_iload S.1 S.2.1 dX4_pass_200 (lv_at hl 0 rfl) ?_
              refine lv_ineg S.1 S.2.1 dX4_pass_202 ?_
              refine lv_goto (tgt := 208) S.1 S.2.1 dX4_pass_203 (by decide) ?_
              refine lv_iadd S.1 S.2.1 dX4_pass_208 ?_
              refine o_row3 S hJ hk2 dX4_pass_209 (fun H locs hJ => ?_)
              rw [show (z3 + (-(((ht5 sh) - z3) / 2))) = draw (ht5 sh) z3 from by rw [← hd1]; exact dr_ttf cz_162 cz_179 cz_197] at hJ
              exact j210 _ _ hJ ls (lv_sub hl [3, 4, 5, 6, 7, 2] rfl)
          · refine lv_iload S.1 S.2.1 dX4_pass_182 (lv_at hl 1 rfl) ?_
            refine lv_if_eq (tgt := 190) S.1 S.2.1 dX4_pass_184 (by decide) (fun cz_184 => ?_) (fun cz_184 => ?_)
            · refine lv_aload S.1 S.2.1 dX4_pass_190 (lv_at hl 2 rfl) ?_
              refine lv_iconst (v := 3) S.1 S.2.1 dX4_pass_192 (by decide) ?_
              refine lv_dup2_11 S.1 S.2.1 dX4_pass_193 rfl rfl ?_
              refine i_row3 S hJ hk2 dX4_pass_194 ?_
              refine lv_iload S.1 S.2.1 dX4_pass_195 (lv_at hl 1 rfl) ?_
              refine lv_if_ge (tgt := 206) S.1 S.2.1 dX4_pass_197 (by decide) (fun cz_197 => ?_) (fun cz_197 => ?_)
              · refine lv_iload S.1 S.2.1 dX4_pass_206 (lv_at hl 0 rfl) ?_
                refine lv_iadd S.1 S.2.1 dX4_pass_208 ?_
                refine o_row3 S hJ hk2 dX4_pass_209 (fun H locs hJ => ?_)
                rw [show (z3 + (((ht5 sh) - z3) / 2)) = draw (ht5 sh) z3 from by rw [← hd1]; exact dr_tftt cz_162 cz_179 cz_184 cz_197] at hJ
                exact j210 _ _ hJ ls (lv_sub hl [3, 4, 5, 6, 7, 2] rfl)
              · refine lv_iload S.1 S.2.1 dX4_pass_200 (lv_at hl 0 rfl) ?_
                refine lv_ineg S.1 S.2.1 dX4_pass_202 ?_
                refine lv_goto (tgt := 208) S.1 S.2.1 dX4_pass_203 (by decide) ?_
                refine lv_iadd S.1 S.2.1 dX4_pass_208 ?_
                refine o_row3 S hJ hk2 dX4_pass_209 (fun H locs hJ => ?_)
                rw [show (z3 + (-(((ht5 sh) - z3) / 2))) = draw (ht5 sh) z3 from by rw [← hd1]; exact dr_tftf cz_162 cz_179 cz_184 cz_197] at hJ
                exact j210 _ _ hJ ls (lv_sub hl [3, 4, 5, 6, 7, 2] rfl)
            · refine lv_iconst (v := 1) S.1 S.2.1 dX4_pass_187 (by decide) ?_
              refine lv_istore (lv' := [(7, .int 1), (6, .int ((ht5 sh) - z3)), (5, .ref (a.2 k)), (0, .ref a.1.1), (1, .int (sumN (xR α) k)), (2, .ref a.1.2.2.2), (3, .int (nI n)), (4, .int (nI k))]) S.1 S.2.1 dX4_pass_188 hl (by decide) rfl (fun ls hl => ?_)
              refine lv_aload S.1 S.2.1 dX4_pass_190 (lv_at hl 2 rfl) ?_
              refine lv_iconst (v := 3) S.1 S.2.1 dX4_pass_192 (by decide) ?_
              refine lv_dup2_11 S.1 S.2.1 dX4_pass_193 rfl rfl ?_
              refine i_row3 S hJ hk2 dX4_pass_194 ?_
              refine lv_iload S.1 S.2.1 dX4_pass_195 (lv_at hl 1 rfl) ?_
              refine lv_if_ge (tgt := 206) S.1 S.2.1 dX4_pass_197 (by decide) (fun cz_197 => ?_) (fun cz_197 => ?_)
              · refine lv_iload S.1 S.2.1 dX4_pass_206 (lv_at hl 0 rfl) ?_
                refine lv_iadd S.1 S.2.1 dX4_pass_208 ?_
                refine o_row3 S hJ hk2 dX4_pass_209 (fun H locs hJ => ?_)
                rw [show (z3 + 1) = draw (ht5 sh) z3 from by rw [← hd1]; exact dr_tfft cz_162 cz_179 cz_184 cz_197] at hJ
                exact j210 _ _ hJ ls (lv_sub hl [3, 4, 5, 6, 7, 2] rfl)
              · refine lv_iload S.1 S.2.1 dX4_pass_200 (lv_at hl 0 rfl) ?_
                refine lv_ineg S.1 S.2.1 dX4_pass_202 ?_
                refine lv_goto (tgt := 208) S.1 S.2.1 dX4_pass_203 (by decide) ?_
                refine lv_iadd S.1 S.2.1 dX4_pass_208 ?_
                refine o_row3 S hJ hk2 dX4_pass_209 (fun H locs hJ => ?_)
                rw [show (z3 + (-1)) = draw (ht5 sh) z3 from by rw [← hd1]; exact dr_tfff cz_162 cz_179 cz_184 cz_197] at hJ
                exact j210 _ _ hJ ls (lv_sub hl [3, 4, 5, 6, 7, 2] rfl)
        · refine lv_iload S.1 S.2.1 dX4_pass_165 (lv_at hl 0 rfl) ?_
          refine lv_ineg S.1 S.2.1 dX4_pass_167 ?_
          refine lv_goto (tgt := 173) S.1 S.2.1 dX4_pass_168 (by decide) ?_
          refine lv_iconst (v := 2) S.1 S.2.1 dX4_pass_173 (by decide) ?_
          refine lv_idiv S.1 S.2.1 dX4_pass_174 (by decide) ?_
          refine lv_istore (lv' := [(7, .int ((-((ht5 sh) - z3)) / 2)), (6, .int ((ht5 sh) - z3)), (5, .ref (a.2 k)), (0, .ref a.1.1), (1, .int (sumN (xR α) k)), (2, .ref a.1.2.2.2), (3, .int (nI n)), (4, .int (nI k))]) S.1 S.2.1 dX4_pass_175 hl (by decide) rfl (fun ls hl => ?_)
          refine lv_iload S.1 S.2.1 dX4_pass_177 (lv_at hl 0 rfl) ?_
          refine lv_if_ne (tgt := 190) S.1 S.2.1 dX4_pass_179 (by decide) (fun cz_179 => ?_) (fun cz_179 => ?_)
          · refine lv_aload S.1 S.2.1 dX4_pass_190 (lv_at hl 2 rfl) ?_
            refine lv_iconst (v := 3) S.1 S.2.1 dX4_pass_192 (by decide) ?_
            refine lv_dup2_11 S.1 S.2.1 dX4_pass_193 rfl rfl ?_
            refine i_row3 S hJ hk2 dX4_pass_194 ?_
            refine lv_iload S.1 S.2.1 dX4_pass_195 (lv_at hl 1 rfl) ?_
            refine lv_if_ge (tgt := 206) S.1 S.2.1 dX4_pass_197 (by decide) (fun cz_197 => ?_) (fun cz_197 => ?_)
            · refine lv_iload S.1 S.2.1 dX4_pass_206 (lv_at hl 0 rfl) ?_
              refine lv_iadd S.1 S.2.1 dX4_pass_208 ?_
              refine o_row3 S hJ hk2 dX4_pass_209 (fun H locs hJ => ?_)
              rw [show (z3 + ((-((ht5 sh) - z3)) / 2)) = draw (ht5 sh) z3 from by rw [← hd1]; exact dr_ftt cz_162 cz_179 cz_197] at hJ
              exact j210 _ _ hJ ls (lv_sub hl [3, 4, 5, 6, 7, 2] rfl)
            · refine lv_iload S.1 S.2.1 dX4_pass_200 (lv_at hl 0 rfl) ?_
              refine lv_ineg S.1 S.2.1 dX4_pass_202 ?_
              refine lv_goto (tgt := 208) S.1 S.2.1 dX4_pass_203 (by decide) ?_
              refine lv_iadd S.1 S.2.1 dX4_pass_208 ?_
              refine o_row3 S hJ hk2 dX4_pass_209 (fun H locs hJ => ?_)
              rw [show (z3 + (-((-((ht5 sh) - z3)) / 2))) = draw (ht5 sh) z3 from by rw [← hd1]; exact dr_ftf cz_162 cz_179 cz_197] at hJ
              exact j210 _ _ hJ ls (lv_sub hl [3, 4, 5, 6, 7, 2] rfl)
          · refine lv_iload S.1 S.2.1 dX4_pass_182 (lv_at hl 1 rfl) ?_
            refine lv_if_eq (tgt := 190) S.1 S.2.1 dX4_pass_184 (by decide) (fun cz_184 => ?_) (fun cz_184 => ?_)
            · refine lv_aload S.1 S.2.1 dX4_pass_190 (lv_at hl 2 rfl) ?_
              refine lv_iconst (v := 3) S.1 S.2.1 dX4_pass_192 (by decide) ?_
              refine lv_dup2_11 S.1 S.2.1 dX4_pass_193 rfl rfl ?_
              refine i_row3 S hJ hk2 dX4_pass_194 ?_
              refine lv_iload S.1 S.2.1 dX4_pass_195 (lv_at hl 1 rfl) ?_
              refine lv_if_ge (tgt := 206) S.1 S.2.1 dX4_pass_197 (by decide) (fun cz_197 => ?_) (fun cz_197 => ?_)
              · refine lv_iload S.1 S.2.1 dX4_pass_206 (lv_at hl 0 rfl) ?_
                refine lv_iadd S.1 S.2.1 dX4_pass_208 ?_
                refine o_row3 S hJ hk2 dX4_pass_209 (fun H locs hJ => ?_)
                rw [show (z3 + ((-((ht5 sh) - z3)) / 2)) = draw (ht5 sh) z3 from by rw [← hd1]; exact dr_fftt cz_162 cz_179 cz_184 cz_197] at hJ
                exact j210 _ _ hJ ls (lv_sub hl [3, 4, 5, 6, 7, 2] rfl)
              · refine lv_iload S.1 S.2.1 dX4_pass_200 (lv_at hl 0 rfl) ?_
                refine lv_ineg S.1 S.2.1 dX4_pass_202 ?_
                refine lv_goto (tgt := 208) S.1 S.2.1 dX4_pass_203 (by decide) ?_
                refine lv_iadd S.1 S.2.1 dX4_pass_208 ?_
                refine o_row3 S hJ hk2 dX4_pass_209 (fun H locs hJ => ?_)
                rw [show (z3 + (-((-((ht5 sh) - z3)) / 2))) = draw (ht5 sh) z3 from by rw [← hd1]; exact dr_fftf cz_162 cz_179 cz_184 cz_197] at hJ
                exact j210 _ _ hJ ls (lv_sub hl [3, 4, 5, 6, 7, 2] rfl)
            · refine lv_iconst (v := 1) S.1 S.2.1 dX4_pass_187 (by decide) ?_
              refine lv_istore (lv' := [(7, .int 1), (6, .int ((ht5 sh) - z3)), (5, .ref (a.2 k)), (0, .ref a.1.1), (1, .int (sumN (xR α) k)), (2, .ref a.1.2.2.2), (3, .int (nI n)), (4, .int (nI k))]) S.1 S.2.1 dX4_pass_188 hl (by decide) rfl (fun ls hl => ?_)
              refine lv_aload S.1 S.2.1 dX4_pass_190 (lv_at hl 2 rfl) ?_
              refine lv_iconst (v := 3) S.1 S.2.1 dX4_pass_192 (by decide) ?_
              refine lv_dup2_11 S.1 S.2.1 dX4_pass_193 rfl rfl ?_
              refine i_row3 S hJ hk2 dX4_pass_194 ?_
              refine lv_iload S.1 S.2.1 dX4_pass_195 (lv_at hl 1 rfl) ?_
              refine lv_if_ge (tgt := 206) S.1 S.2.1 dX4_pass_197 (by decide) (fun cz_197 => ?_) (fun cz_197 => ?_)
              · refine lv_iload S.1 S.2.1 dX4_pass_206 (lv_at hl 0 rfl) ?_
                refine lv_iadd S.1 S.2.1 dX4_pass_208 ?_
                refine o_row3 S hJ hk2 dX4_pass_209 (fun H locs hJ => ?_)
                rw [show (z3 + 1) = draw (ht5 sh) z3 from by rw [← hd1]; exact dr_ffft cz_162 cz_179 cz_184 cz_197] at hJ
                exact j210 _ _ hJ ls (lv_sub hl [3, 4, 5, 6, 7, 2] rfl)
              · refine lv_iload S.1 S.2.1 dX4_pass_200 (lv_at hl 0 rfl) ?_
                refine lv_ineg S.1 S.2.1 dX4_pass_202 ?_
                refine lv_goto (tgt := 208) S.1 S.2.1 dX4_pass_203 (by decide) ?_
                refine lv_iadd S.1 S.2.1 dX4_pass_208 ?_
                refine o_row3 S hJ hk2 dX4_pass_209 (fun H locs hJ => ?_)
                rw [show (z3 + (-1)) = draw (ht5 sh) z3 from by rw [← hd1]; exact dr_ffff cz_162 cz_179 cz_184 cz_197] at hJ
                exact j210 _ _ hJ ls (lv_sub hl [3, 4, 5, 6, 7, 2] rfl)
      · obtain ⟨hz2, hs6⟩ := hRk.off h5
        dsimp only at hz2
        refine lv_aload S.1 S.2.1 dX4_pass_134 (lv_at hl 0 rfl) ?_
        refine lv_iconst (v := 2) S.1 S.2.1 dX4_pass_136 (by decide) ?_
        refine i_row2 S hJ hk2 dX4_pass_137 ?_
        refine lv_if_ge (tgt := 144) S.1 S.2.1 dX4_pass_138 (by decide) (fun c9 => absurd c9 (by rw [hz2]; decide)) (fun cz_138 => ?_)
        refine lv_goto (tgt := 303) S.1 S.2.1 dX4_pass_141 (by decide) ?_
        exact nxt _ _ (by rw [show hourP (xS α 5 (gP α k).2.1).2 (gP α k) = gP α k from if_neg hs6]; exact hRk) (by rw [sumN_s, show xR α k = 0 from if_neg (fun q9 => hs6 q9.1), Int32.add_zero]) _ _ hJ ls (lv_sub hl [1, 2, 3, 4, 5] rfl)
  have loop1 : ∀ (n9 : Nat) (k : Nat) (htk : Nat → Int32), k + n9 = 5 → htK α k htk → ∀ (H : Heap) (locs : List Loc), Jw G (fw G σ a (hh, pw, ar, st, htk, n, row) Y) s H locs → ∀ ls : Array Slot, lv_has ls 8 [(0, .ref a.1.1), (1, .int (nI k))] → W p l e (rm 1 0 0) s m ([.ref a.1.1] : List Value).toArray below meth c H locs 0 0 (MQ below (Ui G (fun r ws' => ∃ (h2 a2 : Int32) (ht2 : Nat → Int32) (row2 : Nat → Z7), ws' = fw G σ a (h2, pw, a2, st, ht2, n, row2) Y ∧ Pct (hourX α) (h2, pw, a2, st, ht2, n, row2) ∧ r = sumN (xR α) 20)) ([.ref a.1.1] : List Value).toArray s 0 0 (gA G)) (F0 m 2 ls []) := by
    intro n9
    induction n9 with
    | zero =>
      intro k htk hk0 hT H locs hJ ls hl
      obtain rfl : k = 5 := by omega
      refine lv_iload_n S.1 S.2.1 dX4_pass_2 rfl (lv_at hl 1 rfl) ?_
      refine lv_iconst (v := (nI 5)) S.1 S.2.1 dX4_pass_3 (by rfl) ?_
      refine lv_icmp_ge (tgt := 109) S.1 S.2.1 dX4_pass_4 (by decide) (fun cz_4 => ?_) (fun c9 => absurd (nI_le (Nat.le_refl 5) (by omega)) c9)
      refine lv_iconst (v := 0) S.1 S.2.1 dX4_pass_109 (by decide) ?_
      refine lv_istore_n (lv' := [(1, .int 0), (0, .ref a.1.1)]) S.1 S.2.1 dX4_pass_110 rfl hl (by decide) rfl (fun ls hl => ?_)
      refine lv_aload_n S.1 S.2.1 dX4_pass_111 rfl (lv_at hl 1 rfl) ?_
      refine q_X4_all S hJ dX4_pass_112 ?_
      refine lv_astore_n (lv' := [(2, .ref a.1.2.2.2), (1, .int 0), (0, .ref a.1.1)]) S.1 S.2.1 dX4_pass_115 rfl hl (by decide) rfl (fun ls hl => ?_)
      refine lv_aload_n S.1 S.2.1 dX4_pass_116 rfl (lv_at hl 0 rfl) ?_
      refine l_all S hJ dX4_pass_117 ?_
      refine lv_istore_n (lv' := [(3, .int (nI n)), (2, .ref a.1.2.2.2), (1, .int 0), (0, .ref a.1.1)]) S.1 S.2.1 dX4_pass_118 rfl hl (by decide) rfl (fun ls hl => ?_)
      refine lv_iconst (v := 0) S.1 S.2.1 dX4_pass_119 (by decide) ?_
      refine lv_istore (lv' := [(4, .int 0), (3, .int (nI n)), (2, .ref a.1.2.2.2), (1, .int 0), (0, .ref a.1.1)]) S.1 S.2.1 dX4_pass_120 hl (by decide) rfl (fun ls hl => ?_)
      exact loop2 n 0 row htk (by omega) hT (fun q hq => by rw [show xP α 0 q = gP α q from if_neg (by omega)]; exact hpR q hq) _ _ hJ ls (lv_sub hl [4, 3, 2, 1, 0] rfl)
    | succ n9 ih =>
      intro k htk hk0 hT H locs hJ ls hl
      have hk2 : k < 5 := by omega
      have eS : (xS α k k) = gS α k := if_neg (by omega)
      have e1 : htk k = (gS α k).2 := (hT k hk2).trans (by rw [eS])
      have e2 : st k = (gS α k).1 := (hpS k hk2).1
      have eB := hI9.2.2.2.1 k hk2
      have nx1 : ∀ (x : Int32), x = (hourS (gX α).2.2.2 (gS α k)).2 → ∀ (H : Heap) (locs : List Loc), Jw G (fw G σ a (hh, pw, ar, st, va_up htk k x, n, row) Y) s H locs → ∀ ls : Array Slot, lv_has ls 8 [(0, .ref a.1.1), (1, .int (nI k))] → W p l e (rm 1 0 0) s m ([.ref a.1.1] : List Value).toArray below meth c H locs 0 0 (MQ below (Ui G (fun r ws' => ∃ (h2 a2 : Int32) (ht2 : Nat → Int32) (row2 : Nat → Z7), ws' = fw G σ a (h2, pw, a2, st, ht2, n, row2) Y ∧ Pct (hourX α) (h2, pw, a2, st, ht2, n, row2) ∧ r = sumN (xR α) 20)) ([.ref a.1.1] : List Value).toArray s 0 0 (gA G)) (F0 m 103 ls []) := by
        intro x hx H locs hJ ls hl
        refine lv_iinc (v := (nI (k + 1))) (lv' := [(1, .int (nI (k + 1))), (0, .ref a.1.1)]) S.1 S.2.1 dX4_pass_103 hl (k := 1) rfl (nI_1 k) (by decide) rfl (fun ls hl => ?_)
        refine lv_goto (tgt := 2) S.1 S.2.1 dX4_pass_106 (by decide) ?_
        exact ih (k + 1) _ (by omega) (hT.up hk2 hx) _ _ hJ ls (lv_sub hl [1, 0] rfl)
      refine lv_iload_n S.1 S.2.1 dX4_pass_2 rfl (lv_at hl 1 rfl) ?_
      refine lv_iconst (v := (nI 5)) S.1 S.2.1 dX4_pass_3 (by rfl) ?_
      refine lv_icmp_ge (tgt := 109) S.1 S.2.1 dX4_pass_4 (by decide) (fun c9 => absurd c9 (nI_ge hk2 (by omega))) (fun cz_4 => ?_)
      refine lv_aload_n S.1 S.2.1 dX4_pass_7 rfl (lv_at hl 0 rfl) ?_
      refine q_X4_hasPower S hJ dX4_pass_8 ?_
      refine lv_if_ne (tgt := 42) S.1 S.2.1 dX4_pass_11 (by decide) (fun cz_11 => ?_) (fun cz_11 => ?_)
      · refine lv_iconst (v := 0) S.1 S.2.1 dX4_pass_42 (by decide) ?_
        refine lv_istore_n (lv' := [(2, .int 0), (0, .ref a.1.1), (1, .int (nI k))]) S.1 S.2.1 dX4_pass_43 rfl hl (by decide) rfl (fun ls hl => ?_)
        refine lv_iload_n S.1 S.2.1 dX4_pass_44 rfl (lv_at hl 0 rfl) ?_
        refine lv_iconst (v := 2) S.1 S.2.1 dX4_pass_45 (by decide) ?_
        refine lv_icmp_ge (tgt := 103) S.1 S.2.1 dX4_pass_46 (by decide) (fun c9 => absurd c9 (by decide)) (fun cz_46 => ?_)
        refine lv_aload_n S.1 S.2.1 dX4_pass_49 rfl (lv_at hl 1 rfl) ?_
        refine q_X4_heat S hJ dX4_pass_50 ?_
        refine lv_iload_n S.1 S.2.1 dX4_pass_53 rfl (lv_at hl 2 rfl) ?_
        refine lv_dup2_11 S.1 S.2.1 dX4_pass_54 rfl rfl ?_
        refine i_ht S hJ (j := k) hk2 dX4_pass_55 ?_
        refine lv_aload_n S.1 S.2.1 dX4_pass_56 rfl (lv_at hl 1 rfl) ?_
        refine q_X4_heat S hJ dX4_pass_57 ?_
        refine lv_iload_n S.1 S.2.1 dX4_pass_60 rfl (lv_at hl 2 rfl) ?_
        refine i_ht S hJ (j := k) hk2 dX4_pass_61 ?_
        refine lv_aload_n S.1 S.2.1 dX4_pass_62 rfl (lv_at hl 1 rfl) ?_
        refine q_X4_setting S hJ dX4_pass_63 ?_
        refine lv_iload_n S.1 S.2.1 dX4_pass_66 rfl (lv_at hl 2 rfl) ?_
        refine i_st S hJ (j := k) hk2 dX4_pass_67 ?_
        refine lv_icmp_ge (tgt := 75) S.1 S.2.1 dX4_pass_68 (by decide) (fun cz_68 => ?_) (fun cz_68 => ?_)
        · refine lv_aload_n S.1 S.2.1 dX4_pass_75 rfl (lv_at hl 1 rfl) ?_
          refine q_X4_heat S hJ dX4_pass_76 ?_
          refine lv_iload_n S.1 S.2.1 dX4_pass_79 rfl (lv_at hl 2 rfl) ?_
          refine i_ht S hJ (j := k) hk2 dX4_pass_80 ?_
          refine lv_aload_n S.1 S.2.1 dX4_pass_81 rfl (lv_at hl 1 rfl) ?_
          refine q_X4_setting S hJ dX4_pass_82 ?_
          refine lv_iload_n S.1 S.2.1 dX4_pass_85 rfl (lv_at hl 2 rfl) ?_
          refine i_st S hJ (j := k) hk2 dX4_pass_86 ?_
          refine lv_icmp_le (tgt := 94) S.1 S.2.1 dX4_pass_87 (by decide) (fun cz_87 => ?_) (fun cz_87 => ?_)
          · refine lv_iconst (v := 0) S.1 S.2.1 dX4_pass_94 (by decide) ?_
            refine lv_iadd S.1 S.2.1 dX4_pass_95 ?_
            refine o_ht S hJ (j := k) hk2 dX4_pass_96 (fun H locs hJ => ?_)
            have hJ : Jw G (fw G σ a (hh, pw, ar, st, va_up htk k (stp (st k) (htk k)), n, row) Y) s H locs := by rw [show stp (st k) (htk k) = _ from (stp_c cz_68 cz_87).symm]; exact hJ
            refine lv_iinc (v := 1) (lv' := [(2, .int 1), (0, .ref a.1.1), (1, .int (nI k))]) S.1 S.2.1 dX4_pass_97 hl (k := 0) rfl (by decide) (by decide) rfl (fun ls hl => ?_)
            refine lv_goto (tgt := 44) S.1 S.2.1 dX4_pass_100 (by decide) ?_
            refine lv_iload_n S.1 S.2.1 dX4_pass_44 rfl (lv_at hl 0 rfl) ?_
            refine lv_iconst (v := 2) S.1 S.2.1 dX4_pass_45 (by decide) ?_
            refine lv_icmp_ge (tgt := 103) S.1 S.2.1 dX4_pass_46 (by decide) (fun c9 => absurd c9 (by decide)) (fun cz_46 => ?_)
            refine lv_aload_n S.1 S.2.1 dX4_pass_49 rfl (lv_at hl 1 rfl) ?_
            refine q_X4_heat S hJ dX4_pass_50 ?_
            refine lv_iload_n S.1 S.2.1 dX4_pass_53 rfl (lv_at hl 2 rfl) ?_
            refine lv_dup2_11 S.1 S.2.1 dX4_pass_54 rfl rfl ?_
            refine i_ht S hJ (j := k) hk2 dX4_pass_55 ?_
            rw [show ((va_up htk k (stp (st k) (htk k))) k) = (stp (st k) (htk k)) from va_up_self _ _ _]
            refine lv_aload_n S.1 S.2.1 dX4_pass_56 rfl (lv_at hl 1 rfl) ?_
            refine q_X4_heat S hJ dX4_pass_57 ?_
            refine lv_iload_n S.1 S.2.1 dX4_pass_60 rfl (lv_at hl 2 rfl) ?_
            refine i_ht S hJ (j := k) hk2 dX4_pass_61 ?_
            rw [show ((va_up htk k (stp (st k) (htk k))) k) = (stp (st k) (htk k)) from va_up_self _ _ _]
            refine lv_aload_n S.1 S.2.1 dX4_pass_62 rfl (lv_at hl 1 rfl) ?_
            refine q_X4_setting S hJ dX4_pass_63 ?_
            refine lv_iload_n S.1 S.2.1 dX4_pass_66 rfl (lv_at hl 2 rfl) ?_
            refine i_st S hJ (j := k) hk2 dX4_pass_67 ?_
            refine lv_icmp_ge (tgt := 75) S.1 S.2.1 dX4_pass_68 (by decide) (fun cz_68 => ?_) (fun cz_68 => ?_)
            · refine lv_aload_n S.1 S.2.1 dX4_pass_75 rfl (lv_at hl 1 rfl) ?_
              refine q_X4_heat S hJ dX4_pass_76 ?_
              refine lv_iload_n S.1 S.2.1 dX4_pass_79 rfl (lv_at hl 2 rfl) ?_
              refine i_ht S hJ (j := k) hk2 dX4_pass_80 ?_
              rw [show ((va_up htk k (stp (st k) (htk k))) k) = (stp (st k) (htk k)) from va_up_self _ _ _]
              refine lv_aload_n S.1 S.2.1 dX4_pass_81 rfl (lv_at hl 1 rfl) ?_
              refine q_X4_setting S hJ dX4_pass_82 ?_
              refine lv_iload_n S.1 S.2.1 dX4_pass_85 rfl (lv_at hl 2 rfl) ?_
              refine i_st S hJ (j := k) hk2 dX4_pass_86 ?_
              refine lv_icmp_le (tgt := 94) S.1 S.2.1 dX4_pass_87 (by decide) (fun cz_87 => ?_) (fun cz_87 => ?_)
              · refine lv_iconst (v := 0) S.1 S.2.1 dX4_pass_94 (by decide) ?_
                refine lv_iadd S.1 S.2.1 dX4_pass_95 ?_
                refine o_ht S hJ (j := k) hk2 dX4_pass_96 (fun H locs hJ => ?_)
                have hJ : Jw G (fw G σ a (hh, pw, ar, st, va_up htk k (stp (st k) (stp (st k) (htk k))), n, row) Y) s H locs := by rw [show stp (st k) (stp (st k) (htk k)) = _ from (stp_c cz_68 cz_87).symm]; rw [bx_uu] at hJ; exact hJ
                refine lv_iinc (v := 2) (lv' := [(2, .int 2), (0, .ref a.1.1), (1, .int (nI k))]) S.1 S.2.1 dX4_pass_97 hl (k := 0) rfl (by decide) (by decide) rfl (fun ls hl => ?_)
                refine lv_goto (tgt := 44) S.1 S.2.1 dX4_pass_100 (by decide) ?_
                refine lv_iload_n S.1 S.2.1 dX4_pass_44 rfl (lv_at hl 0 rfl) ?_
                refine lv_iconst (v := 2) S.1 S.2.1 dX4_pass_45 (by decide) ?_
                refine lv_icmp_ge (tgt := 103) S.1 S.2.1 dX4_pass_46 (by decide) (fun cz_46 => ?_) (fun c9 => absurd (by decide) c9)
                exact nx1 _ (by rw [show (gX α).2.2.2 = 1 from hp2.symm.trans (hpw.resolve_left cz_11), ← hourS_1 eB, ← e1, ← e2]) _ _ hJ ls (lv_sub hl [1, 2] rfl)
              · refine lv_iconst (v := (-1)) S.1 S.2.1 dX4_pass_90 (by decide) ?_
                refine lv_goto (tgt := 95) S.1 S.2.1 dX4_pass_91 (by decide) ?_
                refine lv_iadd S.1 S.2.1 dX4_pass_95 ?_
                refine o_ht S hJ (j := k) hk2 dX4_pass_96 (fun H locs hJ => ?_)
                have hJ : Jw G (fw G σ a (hh, pw, ar, st, va_up htk k (stp (st k) (stp (st k) (htk k))), n, row) Y) s H locs := by rw [show stp (st k) (stp (st k) (htk k)) = _ from (stp_b cz_68 cz_87).symm]; rw [bx_uu] at hJ; exact hJ
                refine lv_iinc (v := 2) (lv' := [(2, .int 2), (0, .ref a.1.1), (1, .int (nI k))]) S.1 S.2.1 dX4_pass_97 hl (k := 0) rfl (by decide) (by decide) rfl (fun ls hl => ?_)
                refine lv_goto (tgt := 44) S.1 S.2.1 dX4_pass_100 (by decide) ?_
                refine lv_iload_n S.1 S.2.1 dX4_pass_44 rfl (lv_at hl 0 rfl) ?_
                refine lv_iconst (v := 2) S.1 S.2.1 dX4_pass_45 (by decide) ?_
                refine lv_icmp_ge (tgt := 103) S.1 S.2.1 dX4_pass_46 (by decide) (fun cz_46 => ?_) (fun c9 => absurd (by decide) c9)
                exact nx1 _ (by rw [show (gX α).2.2.2 = 1 from hp2.symm.trans (hpw.resolve_left cz_11), ← hourS_1 eB, ← e1, ← e2]) _ _ hJ ls (lv_sub hl [1, 2] rfl)
            · refine lv_iconst (v := 1) S.1 S.2.1 dX4_pass_71 (by decide) ?_
              refine lv_goto (tgt := 95) S.1 S.2.1 dX4_pass_72 (by decide) ?_
              refine lv_iadd S.1 S.2.1 dX4_pass_95 ?_
              refine o_ht S hJ (j := k) hk2 dX4_pass_96 (fun H locs hJ => ?_)
              have hJ : Jw G (fw G σ a (hh, pw, ar, st, va_up htk k (stp (st k) (stp (st k) (htk k))), n, row) Y) s H locs := by rw [show stp (st k) (stp (st k) (htk k)) = _ from (stp_a cz_68).symm]; rw [bx_uu] at hJ; exact hJ
              refine lv_iinc (v := 2) (lv' := [(2, .int 2), (0, .ref a.1.1), (1, .int (nI k))]) S.1 S.2.1 dX4_pass_97 hl (k := 0) rfl (by decide) (by decide) rfl (fun ls hl => ?_)
              refine lv_goto (tgt := 44) S.1 S.2.1 dX4_pass_100 (by decide) ?_
              refine lv_iload_n S.1 S.2.1 dX4_pass_44 rfl (lv_at hl 0 rfl) ?_
              refine lv_iconst (v := 2) S.1 S.2.1 dX4_pass_45 (by decide) ?_
              refine lv_icmp_ge (tgt := 103) S.1 S.2.1 dX4_pass_46 (by decide) (fun cz_46 => ?_) (fun c9 => absurd (by decide) c9)
              exact nx1 _ (by rw [show (gX α).2.2.2 = 1 from hp2.symm.trans (hpw.resolve_left cz_11), ← hourS_1 eB, ← e1, ← e2]) _ _ hJ ls (lv_sub hl [1, 2] rfl)
          · refine lv_iconst (v := (-1)) S.1 S.2.1 dX4_pass_90 (by decide) ?_
            refine lv_goto (tgt := 95) S.1 S.2.1 dX4_pass_91 (by decide) ?_
            refine lv_iadd S.1 S.2.1 dX4_pass_95 ?_
            refine o_ht S hJ (j := k) hk2 dX4_pass_96 (fun H locs hJ => ?_)
            have hJ : Jw G (fw G σ a (hh, pw, ar, st, va_up htk k (stp (st k) (htk k)), n, row) Y) s H locs := by rw [show stp (st k) (htk k) = _ from (stp_b cz_68 cz_87).symm]; exact hJ
            refine lv_iinc (v := 1) (lv' := [(2, .int 1), (0, .ref a.1.1), (1, .int (nI k))]) S.1 S.2.1 dX4_pass_97 hl (k := 0) rfl (by decide) (by decide) rfl (fun ls hl => ?_)
            refine lv_goto (tgt := 44) S.1 S.2.1 dX4_pass_100 (by decide) ?_
            refine lv_iload_n S.1 S.2.1 dX4_pass_44 rfl (lv_at hl 0 rfl) ?_
            refine lv_iconst (v := 2) S.1 S.2.1 dX4_pass_45 (by decide) ?_
            refine lv_icmp_ge (tgt := 103) S.1 S.2.1 dX4_pass_46 (by decide) (fun c9 => absurd c9 (by decide)) (fun cz_46 => ?_)
            refine lv_aload_n S.1 S.2.1 dX4_pass_49 rfl (lv_at hl 1 rfl) ?_
            refine q_X4_heat S hJ dX4_pass_50 ?_
            refine lv_iload_n S.1 S.2.1 dX4_pass_53 rfl (lv_at hl 2 rfl) ?_
            refine lv_dup2_11 S.1 S.2.1 dX4_pass_54 rfl rfl ?_
            refine i_ht S hJ (j := k) hk2 dX4_pass_55 ?_
            rw [show ((va_up htk k (stp (st k) (htk k))) k) = (stp (st k) (htk k)) from va_up_self _ _ _]
            refine lv_aload_n S.1 S.2.1 dX4_pass_56 rfl (lv_at hl 1 rfl) ?_
            refine q_X4_heat S hJ dX4_pass_57 ?_
            refine lv_iload_n S.1 S.2.1 dX4_pass_60 rfl (lv_at hl 2 rfl) ?_
            refine i_ht S hJ (j := k) hk2 dX4_pass_61 ?_
            rw [show ((va_up htk k (stp (st k) (htk k))) k) = (stp (st k) (htk k)) from va_up_self _ _ _]
            refine lv_aload_n S.1 S.2.1 dX4_pass_62 rfl (lv_at hl 1 rfl) ?_
            refine q_X4_setting S hJ dX4_pass_63 ?_
            refine lv_iload_n S.1 S.2.1 dX4_pass_66 rfl (lv_at hl 2 rfl) ?_
            refine i_st S hJ (j := k) hk2 dX4_pass_67 ?_
            refine lv_icmp_ge (tgt := 75) S.1 S.2.1 dX4_pass_68 (by decide) (fun cz_68 => ?_) (fun cz_68 => ?_)
            · refine lv_aload_n S.1 S.2.1 dX4_pass_75 rfl (lv_at hl 1 rfl) ?_
              refine q_X4_heat S hJ dX4_pass_76 ?_
              refine lv_iload_n S.1 S.2.1 dX4_pass_79 rfl (lv_at hl 2 rfl) ?_
              refine i_ht S hJ (j := k) hk2 dX4_pass_80 ?_
              rw [show ((va_up htk k (stp (st k) (htk k))) k) = (stp (st k) (htk k)) from va_up_self _ _ _]
              refine lv_aload_n S.1 S.2.1 dX4_pass_81 rfl (lv_at hl 1 rfl) ?_
              refine q_X4_setting S hJ dX4_pass_82 ?_
              refine lv_iload_n S.1 S.2.1 dX4_pass_85 rfl (lv_at hl 2 rfl) ?_
              refine i_st S hJ (j := k) hk2 dX4_pass_86 ?_
              refine lv_icmp_le (tgt := 94) S.1 S.2.1 dX4_pass_87 (by decide) (fun cz_87 => ?_) (fun cz_87 => ?_)
              · refine lv_iconst (v := 0) S.1 S.2.1 dX4_pass_94 (by decide) ?_
                refine lv_iadd S.1 S.2.1 dX4_pass_95 ?_
                refine o_ht S hJ (j := k) hk2 dX4_pass_96 (fun H locs hJ => ?_)
                have hJ : Jw G (fw G σ a (hh, pw, ar, st, va_up htk k (stp (st k) (stp (st k) (htk k))), n, row) Y) s H locs := by rw [show stp (st k) (stp (st k) (htk k)) = _ from (stp_c cz_68 cz_87).symm]; rw [bx_uu] at hJ; exact hJ
                refine lv_iinc (v := 2) (lv' := [(2, .int 2), (0, .ref a.1.1), (1, .int (nI k))]) S.1 S.2.1 dX4_pass_97 hl (k := 0) rfl (by decide) (by decide) rfl (fun ls hl => ?_)
                refine lv_goto (tgt := 44) S.1 S.2.1 dX4_pass_100 (by decide) ?_
                refine lv_iload_n S.1 S.2.1 dX4_pass_44 rfl (lv_at hl 0 rfl) ?_
                refine lv_iconst (v := 2) S.1 S.2.1 dX4_pass_45 (by decide) ?_
                refine lv_icmp_ge (tgt := 103) S.1 S.2.1 dX4_pass_46 (by decide) (fun cz_46 => ?_) (fun c9 => absurd (by decide) c9)
                exact nx1 _ (by rw [show (gX α).2.2.2 = 1 from hp2.symm.trans (hpw.resolve_left cz_11), ← hourS_1 eB, ← e1, ← e2]) _ _ hJ ls (lv_sub hl [1, 2] rfl)
              · refine lv_iconst (v := (-1)) S.1 S.2.1 dX4_pass_90 (by decide) ?_
                refine lv_goto (tgt := 95) S.1 S.2.1 dX4_pass_91 (by decide) ?_
                refine lv_iadd S.1 S.2.1 dX4_pass_95 ?_
                refine o_ht S hJ (j := k) hk2 dX4_pass_96 (fun H locs hJ => ?_)
                have hJ : Jw G (fw G σ a (hh, pw, ar, st, va_up htk k (stp (st k) (stp (st k) (htk k))), n, row) Y) s H locs := by rw [show stp (st k) (stp (st k) (htk k)) = _ from (stp_b cz_68 cz_87).symm]; rw [bx_uu] at hJ; exact hJ
                refine lv_iinc (v := 2) (lv' := [(2, .int 2), (0, .ref a.1.1), (1, .int (nI k))]) S.1 S.2.1 dX4_pass_97 hl (k := 0) rfl (by decide) (by decide) rfl (fun ls hl => ?_)
                refine lv_goto (tgt := 44) S.1 S.2.1 dX4_pass_100 (by decide) ?_
                refine lv_iload_n S.1 S.2.1 dX4_pass_44 rfl (lv_at hl 0 rfl) ?_
                refine lv_iconst (v := 2) S.1 S.2.1 dX4_pass_45 (by decide) ?_
                refine lv_icmp_ge (tgt := 103) S.1 S.2.1 dX4_pass_46 (by decide) (fun cz_46 => ?_) (fun c9 => absurd (by decide) c9)
                exact nx1 _ (by rw [show (gX α).2.2.2 = 1 from hp2.symm.trans (hpw.resolve_left cz_11), ← hourS_1 eB, ← e1, ← e2]) _ _ hJ ls (lv_sub hl [1, 2] rfl)
            · refine lv_iconst (v := 1) S.1 S.2.1 dX4_pass_71 (by decide) ?_
              refine lv_goto (tgt := 95) S.1 S.2.1 dX4_pass_72 (by decide) ?_
              refine lv_iadd S.1 S.2.1 dX4_pass_95 ?_
              refine o_ht S hJ (j := k) hk2 dX4_pass_96 (fun H locs hJ => ?_)
              have hJ : Jw G (fw G σ a (hh, pw, ar, st, va_up htk k (stp (st k) (stp (st k) (htk k))), n, row) Y) s H locs := by rw [show stp (st k) (stp (st k) (htk k)) = _ from (stp_a cz_68).symm]; rw [bx_uu] at hJ; exact hJ
              refine lv_iinc (v := 2) (lv' := [(2, .int 2), (0, .ref a.1.1), (1, .int (nI k))]) S.1 S.2.1 dX4_pass_97 hl (k := 0) rfl (by decide) (by decide) rfl (fun ls hl => ?_)
              refine lv_goto (tgt := 44) S.1 S.2.1 dX4_pass_100 (by decide) ?_
              refine lv_iload_n S.1 S.2.1 dX4_pass_44 rfl (lv_at hl 0 rfl) ?_
              refine lv_iconst (v := 2) S.1 S.2.1 dX4_pass_45 (by decide) ?_
              refine lv_icmp_ge (tgt := 103) S.1 S.2.1 dX4_pass_46 (by decide) (fun cz_46 => ?_) (fun c9 => absurd (by decide) c9)
              exact nx1 _ (by rw [show (gX α).2.2.2 = 1 from hp2.symm.trans (hpw.resolve_left cz_11), ← hourS_1 eB, ← e1, ← e2]) _ _ hJ ls (lv_sub hl [1, 2] rfl)
        · refine lv_iconst (v := 1) S.1 S.2.1 dX4_pass_71 (by decide) ?_
          refine lv_goto (tgt := 95) S.1 S.2.1 dX4_pass_72 (by decide) ?_
          refine lv_iadd S.1 S.2.1 dX4_pass_95 ?_
          refine o_ht S hJ (j := k) hk2 dX4_pass_96 (fun H locs hJ => ?_)
          have hJ : Jw G (fw G σ a (hh, pw, ar, st, va_up htk k (stp (st k) (htk k)), n, row) Y) s H locs := by rw [show stp (st k) (htk k) = _ from (stp_a cz_68).symm]; exact hJ
          refine lv_iinc (v := 1) (lv' := [(2, .int 1), (0, .ref a.1.1), (1, .int (nI k))]) S.1 S.2.1 dX4_pass_97 hl (k := 0) rfl (by decide) (by decide) rfl (fun ls hl => ?_)
          refine lv_goto (tgt := 44) S.1 S.2.1 dX4_pass_100 (by decide) ?_
          refine lv_iload_n S.1 S.2.1 dX4_pass_44 rfl (lv_at hl 0 rfl) ?_
          refine lv_iconst (v := 2) S.1 S.2.1 dX4_pass_45 (by decide) ?_
          refine lv_icmp_ge (tgt := 103) S.1 S.2.1 dX4_pass_46 (by decide) (fun c9 => absurd c9 (by decide)) (fun cz_46 => ?_)
          refine lv_aload_n S.1 S.2.1 dX4_pass_49 rfl (lv_at hl 1 rfl) ?_
          refine q_X4_heat S hJ dX4_pass_50 ?_
          refine lv_iload_n S.1 S.2.1 dX4_pass_53 rfl (lv_at hl 2 rfl) ?_
          refine lv_dup2_11 S.1 S.2.1 dX4_pass_54 rfl rfl ?_
          refine i_ht S hJ (j := k) hk2 dX4_pass_55 ?_
          rw [show ((va_up htk k (stp (st k) (htk k))) k) = (stp (st k) (htk k)) from va_up_self _ _ _]
          refine lv_aload_n S.1 S.2.1 dX4_pass_56 rfl (lv_at hl 1 rfl) ?_
          refine q_X4_heat S hJ dX4_pass_57 ?_
          refine lv_iload_n S.1 S.2.1 dX4_pass_60 rfl (lv_at hl 2 rfl) ?_
          refine i_ht S hJ (j := k) hk2 dX4_pass_61 ?_
          rw [show ((va_up htk k (stp (st k) (htk k))) k) = (stp (st k) (htk k)) from va_up_self _ _ _]
          refine lv_aload_n S.1 S.2.1 dX4_pass_62 rfl (lv_at hl 1 rfl) ?_
          refine q_X4_setting S hJ dX4_pass_63 ?_
          refine lv_iload_n S.1 S.2.1 dX4_pass_66 rfl (lv_at hl 2 rfl) ?_
          refine i_st S hJ (j := k) hk2 dX4_pass_67 ?_
          refine lv_icmp_ge (tgt := 75) S.1 S.2.1 dX4_pass_68 (by decide) (fun cz_68 => ?_) (fun cz_68 => ?_)
          · refine lv_aload_n S.1 S.2.1 dX4_pass_75 rfl (lv_at hl 1 rfl) ?_
            refine q_X4_heat S hJ dX4_pass_76 ?_
            refine lv_iload_n S.1 S.2.1 dX4_pass_79 rfl (lv_at hl 2 rfl) ?_
            refine i_ht S hJ (j := k) hk2 dX4_pass_80 ?_
            rw [show ((va_up htk k (stp (st k) (htk k))) k) = (stp (st k) (htk k)) from va_up_self _ _ _]
            refine lv_aload_n S.1 S.2.1 dX4_pass_81 rfl (lv_at hl 1 rfl) ?_
            refine q_X4_setting S hJ dX4_pass_82 ?_
            refine lv_iload_n S.1 S.2.1 dX4_pass_85 rfl (lv_at hl 2 rfl) ?_
            refine i_st S hJ (j := k) hk2 dX4_pass_86 ?_
            refine lv_icmp_le (tgt := 94) S.1 S.2.1 dX4_pass_87 (by decide) (fun cz_87 => ?_) (fun cz_87 => ?_)
            · refine lv_iconst (v := 0) S.1 S.2.1 dX4_pass_94 (by decide) ?_
              refine lv_iadd S.1 S.2.1 dX4_pass_95 ?_
              refine o_ht S hJ (j := k) hk2 dX4_pass_96 (fun H locs hJ => ?_)
              have hJ : Jw G (fw G σ a (hh, pw, ar, st, va_up htk k (stp (st k) (stp (st k) (htk k))), n, row) Y) s H locs := by rw [show stp (st k) (stp (st k) (htk k)) = _ from (stp_c cz_68 cz_87).symm]; rw [bx_uu] at hJ; exact hJ
              refine lv_iinc (v := 2) (lv' := [(2, .int 2), (0, .ref a.1.1), (1, .int (nI k))]) S.1 S.2.1 dX4_pass_97 hl (k := 0) rfl (by decide) (by decide) rfl (fun ls hl => ?_)
              refine lv_goto (tgt := 44) S.1 S.2.1 dX4_pass_100 (by decide) ?_
              refine lv_iload_n S.1 S.2.1 dX4_pass_44 rfl (lv_at hl 0 rfl) ?_
              refine lv_iconst (v := 2) S.1 S.2.1 dX4_pass_45 (by decide) ?_
              refine lv_icmp_ge (tgt := 103) S.1 S.2.1 dX4_pass_46 (by decide) (fun cz_46 => ?_) (fun c9 => absurd (by decide) c9)
              exact nx1 _ (by rw [show (gX α).2.2.2 = 1 from hp2.symm.trans (hpw.resolve_left cz_11), ← hourS_1 eB, ← e1, ← e2]) _ _ hJ ls (lv_sub hl [1, 2] rfl)
            · refine lv_iconst (v := (-1)) S.1 S.2.1 dX4_pass_90 (by decide) ?_
              refine lv_goto (tgt := 95) S.1 S.2.1 dX4_pass_91 (by decide) ?_
              refine lv_iadd S.1 S.2.1 dX4_pass_95 ?_
              refine o_ht S hJ (j := k) hk2 dX4_pass_96 (fun H locs hJ => ?_)
              have hJ : Jw G (fw G σ a (hh, pw, ar, st, va_up htk k (stp (st k) (stp (st k) (htk k))), n, row) Y) s H locs := by rw [show stp (st k) (stp (st k) (htk k)) = _ from (stp_b cz_68 cz_87).symm]; rw [bx_uu] at hJ; exact hJ
              refine lv_iinc (v := 2) (lv' := [(2, .int 2), (0, .ref a.1.1), (1, .int (nI k))]) S.1 S.2.1 dX4_pass_97 hl (k := 0) rfl (by decide) (by decide) rfl (fun ls hl => ?_)
              refine lv_goto (tgt := 44) S.1 S.2.1 dX4_pass_100 (by decide) ?_
              refine lv_iload_n S.1 S.2.1 dX4_pass_44 rfl (lv_at hl 0 rfl) ?_
              refine lv_iconst (v := 2) S.1 S.2.1 dX4_pass_45 (by decide) ?_
              refine lv_icmp_ge (tgt := 103) S.1 S.2.1 dX4_pass_46 (by decide) (fun cz_46 => ?_) (fun c9 => absurd (by decide) c9)
              exact nx1 _ (by rw [show (gX α).2.2.2 = 1 from hp2.symm.trans (hpw.resolve_left cz_11), ← hourS_1 eB, ← e1, ← e2]) _ _ hJ ls (lv_sub hl [1, 2] rfl)
          · refine lv_iconst (v := 1) S.1 S.2.1 dX4_pass_71 (by decide) ?_
            refine lv_goto (tgt := 95) S.1 S.2.1 dX4_pass_72 (by decide) ?_
            refine lv_iadd S.1 S.2.1 dX4_pass_95 ?_
            refine o_ht S hJ (j := k) hk2 dX4_pass_96 (fun H locs hJ => ?_)
            have hJ : Jw G (fw G σ a (hh, pw, ar, st, va_up htk k (stp (st k) (stp (st k) (htk k))), n, row) Y) s H locs := by rw [show stp (st k) (stp (st k) (htk k)) = _ from (stp_a cz_68).symm]; rw [bx_uu] at hJ; exact hJ
            refine lv_iinc (v := 2) (lv' := [(2, .int 2), (0, .ref a.1.1), (1, .int (nI k))]) S.1 S.2.1 dX4_pass_97 hl (k := 0) rfl (by decide) (by decide) rfl (fun ls hl => ?_)
            refine lv_goto (tgt := 44) S.1 S.2.1 dX4_pass_100 (by decide) ?_
            refine lv_iload_n S.1 S.2.1 dX4_pass_44 rfl (lv_at hl 0 rfl) ?_
            refine lv_iconst (v := 2) S.1 S.2.1 dX4_pass_45 (by decide) ?_
            refine lv_icmp_ge (tgt := 103) S.1 S.2.1 dX4_pass_46 (by decide) (fun cz_46 => ?_) (fun c9 => absurd (by decide) c9)
            exact nx1 _ (by rw [show (gX α).2.2.2 = 1 from hp2.symm.trans (hpw.resolve_left cz_11), ← hourS_1 eB, ← e1, ← e2]) _ _ hJ ls (lv_sub hl [1, 2] rfl)
      · refine lv_aload_n S.1 S.2.1 dX4_pass_14 rfl (lv_at hl 0 rfl) ?_
        refine q_X4_heat S hJ dX4_pass_15 ?_
        refine lv_iload_n S.1 S.2.1 dX4_pass_18 rfl (lv_at hl 1 rfl) ?_
        refine lv_dup2_11 S.1 S.2.1 dX4_pass_19 rfl rfl ?_
        refine i_ht S hJ (j := k) hk2 dX4_pass_20 ?_
        refine lv_aload_n S.1 S.2.1 dX4_pass_21 rfl (lv_at hl 0 rfl) ?_
        refine q_X4_heat S hJ dX4_pass_22 ?_
        refine lv_iload_n S.1 S.2.1 dX4_pass_25 rfl (lv_at hl 1 rfl) ?_
        refine i_ht S hJ (j := k) hk2 dX4_pass_26 ?_
        refine lv_bipush (v := 20) S.1 S.2.1 dX4_pass_27 (by decide) ?_
        refine lv_icmp_ge (tgt := 36) S.1 S.2.1 dX4_pass_29 (by decide) (fun cz_29 => ?_) (fun cz_29 => ?_)
        · refine lv_iconst (v := 0) S.1 S.2.1 dX4_pass_36 (by decide) ?_
          refine lv_iadd S.1 S.2.1 dX4_pass_37 ?_
          refine o_ht S hJ (j := k) hk2 dX4_pass_38 (fun H locs hJ => ?_)
          refine lv_goto (tgt := 103) S.1 S.2.1 dX4_pass_39 (by decide) ?_
          exact nx1 _ (by rw [show (gX α).2.2.2 = 0 from hp2.symm.trans cz_11, ← hourS_0 eB, ← e1]; rw [if_neg (Int32.not_lt.mpr cz_29)]) _ _ hJ ls (lv_sub hl [0, 1] rfl)
        · refine lv_iconst (v := 1) S.1 S.2.1 dX4_pass_32 (by decide) ?_
          refine lv_goto (tgt := 37) S.1 S.2.1 dX4_pass_33 (by decide) ?_
          refine lv_iadd S.1 S.2.1 dX4_pass_37 ?_
          refine o_ht S hJ (j := k) hk2 dX4_pass_38 (fun H locs hJ => ?_)
          refine lv_goto (tgt := 103) S.1 S.2.1 dX4_pass_39 (by decide) ?_
          exact nx1 _ (by rw [show (gX α).2.2.2 = 0 from hp2.symm.trans cz_11, ← hourS_0 eB, ← e1]; rw [if_pos (Int32.not_le.mp cz_29)]) _ _ hJ ls (lv_sub hl [0, 1] rfl)
  refine lv_iconst (v := (nI 0)) S.1 S.2.1 dX4_pass_0 (by rfl) ?_
  refine lv_istore_n (lv' := [(1, .int (nI 0)), (0, .ref a.1.1)]) S.1 S.2.1 dX4_pass_1 rfl hl (by decide) rfl (fun ls hl => ?_)
  exact loop1 5 0 ht rfl (fun j hj => by rw [show xS α 0 j = gS α j from if_neg (by omega)]; exact (hpS j hj).2) _ _ hJ ls (lv_sub hl [1, 0] rfl)
theorem i32_1 (a b c : Int32) : a - b + c = a + c - b := by
  rw [Int32.sub_eq_add_neg, Int32.sub_eq_add_neg, Int32.add_assoc, Int32.add_assoc, Int32.add_comm (-b) c]
set_option maxRecDepth 100000 in
set_option maxHeartbeats 4000000 in
theorem k_passN (l : Launch) (G : Gt) {σ : St} {a : Sa} {hh pw ar : Int32} {st ht : Nat → Int32} {n : Nat} {row : Nat → Z7} {Y : va_W} {α : St} (hp : Pct α (hh, pw, ar, st, ht, n, row)) {h9 : Nat} (hh9 : h9 ≤ 100) : Cw l G yX4_pass_ cX4_pass_ 4 (some .int) 2 0 0 [.ref a.1.1, .int (nI h9)] (fw G σ a (hh, pw, ar, st, ht, n, row) Y) (Ui G (fun r ws' => ∃ (h2 a2 : Int32) (ht2 : Nat → Int32) (row2 : Nat → Z7), ws' = fw G σ a (h2, pw, a2, st, ht2, n, row2) Y ∧ Pct (hourXs h9 α) (h2, pw, a2, st, ht2, n, row2) ∧ r = (gX (hourXs h9 α)).2.1 - (gX α).2.1)) := by
  refine mw_intro (by decide +kernel) (Nat.le_of_ble_eq_true rfl) ?_
  intro p e s m below meth c S hr hlk hnm hJ ls hl
  have hl : lv_has ls 4 [(0, .ref a.1.1), (1, .int (nI h9))] := hl
  have loop : ∀ (n9 : Nat) (k : Nat) (h2 a2 : Int32) (ht2 : Nat → Int32) (row2 : Nat → Z7), k + n9 = h9 → Pct (hourXs k α) (h2, pw, a2, st, ht2, n, row2) → ∀ (H : Heap) (locs : List Loc), Jw G (fw G σ a (h2, pw, a2, st, ht2, n, row2) Y) s H locs → ∀ ls : Array Slot, lv_has ls 4 [(0, .ref a.1.1), (1, .int (nI h9)), (2, .int ((gX (hourXs k α)).2.1 - (gX α).2.1)), (3, .int (nI k))] → W p l e (rm 2 0 0) s m ([.ref a.1.1, .int (nI h9)] : List Value).toArray below meth c H locs 0 0 (MQ below (Ui G (fun r ws' => ∃ (h2 a2 : Int32) (ht2 : Nat → Int32) (row2 : Nat → Z7), ws' = fw G σ a (h2, pw, a2, st, ht2, n, row2) Y ∧ Pct (hourXs h9 α) (h2, pw, a2, st, ht2, n, row2) ∧ r = (gX (hourXs h9 α)).2.1 - (gX α).2.1)) ([.ref a.1.1, .int (nI h9)] : List Value).toArray s 0 0 (gA G)) (F0 m 4 ls []) := by
    intro n9
    induction n9 with
    | zero =>
      intro k h2 a2 ht2 row2 hk0 hp2 H locs hJ ls hl
      obtain rfl : k = h9 := by omega
      refine lv_iload_n S.1 S.2.1 dX4_pass__4 rfl (lv_at hl 3 rfl) ?_
      refine lv_iload_n S.1 S.2.1 dX4_pass__5 rfl (lv_at hl 1 rfl) ?_
      refine lv_icmp_ge (tgt := 22) S.1 S.2.1 dX4_pass__6 (by decide) (fun cz_6 => ?_) (fun c9 => absurd (nI_le (Nat.le_refl k) (by omega)) c9)
      refine lv_iload_n S.1 S.2.1 dX4_pass__22 rfl (lv_at hl 2 rfl) ?_
      exact yt_i S hJ hr hlk (⟨h2, a2, ht2, row2, rfl, hp2, rfl⟩) (by omega) (by omega) dX4_pass__23
    | succ n9 ih =>
      intro k h2 a2 ht2 row2 hk0 hp2 H locs hJ ls hl
      have hk2 : k < h9 := by omega
      refine lv_iload_n S.1 S.2.1 dX4_pass__4 rfl (lv_at hl 3 rfl) ?_
      refine lv_iload_n S.1 S.2.1 dX4_pass__5 rfl (lv_at hl 1 rfl) ?_
      refine lv_icmp_ge (tgt := 22) S.1 S.2.1 dX4_pass__6 (by decide) (fun c9 => absurd c9 (nI_ge hk2 (by omega))) (fun cz_6 => ?_)
      refine lv_iload_n S.1 S.2.1 dX4_pass__9 rfl (lv_at hl 2 rfl) ?_
      refine lv_aload_n S.1 S.2.1 dX4_pass__10 rfl (lv_at hl 0 rfl) ?_
      refine dw_i hJ (rwV (As := []) (rest := [.int ((gX (hourXs k α)).2.1 - (gX α).2.1)]) S hJ (k_pass l G hp2) (cw_X4_X4_pass S.2.2.2.2 ⟨Nat.le_of_ble_eq_true rfl, Nat.le_of_ble_eq_true rfl⟩) (rcSim hJ) rfl hl.1 (Nat.le_of_ble_eq_true rfl) dX4_pass__11 ⟨Nat.le_of_ble_eq_true rfl, Nat.le_of_ble_eq_true rfl⟩) (fun r1 ws1 H locs hq1 hJ => ?_)
      obtain ⟨h3, a3, ht3, row3, rfl, hp3, hr1⟩ := hq1
      rw [hr1]
      refine lv_iadd S.1 S.2.1 dX4_pass__14 ?_
      rw [show (((gX (hourXs k α)).2.1 - (gX α).2.1) + (sumN (xR (hourXs k α)) 20)) = ((gX (hourXs (k + 1) α)).2.1 - (gX α).2.1) from (i32_1 _ _ _)]
      refine lv_istore_n (lv' := [(2, .int ((gX (hourXs (k + 1) α)).2.1 - (gX α).2.1)), (0, .ref a.1.1), (1, .int (nI h9)), (3, .int (nI k))]) S.1 S.2.1 dX4_pass__15 rfl hl (by decide) rfl (fun ls hl => ?_)
      refine lv_iinc (v := (nI (k + 1))) (lv' := [(3, .int (nI (k + 1))), (2, .int ((gX (hourXs (k + 1) α)).2.1 - (gX α).2.1)), (0, .ref a.1.1), (1, .int (nI h9))]) S.1 S.2.1 dX4_pass__16 hl (k := 3) rfl (nI_1 k) (by decide) rfl (fun ls hl => ?_)
      refine lv_goto (tgt := 4) S.1 S.2.1 dX4_pass__19 (by decide) ?_
      exact ih (k + 1) _ _ _ _ (by omega) hp3 _ _ hJ ls (lv_sub hl [2, 3, 1, 0] rfl)
  refine lv_iconst (v := 0) S.1 S.2.1 dX4_pass__0 (by decide) ?_
  refine lv_istore_n (lv' := [(2, .int 0), (0, .ref a.1.1), (1, .int (nI h9))]) S.1 S.2.1 dX4_pass__1 rfl hl (by decide) rfl (fun ls hl => ?_)
  refine lv_iconst (v := (nI 0)) S.1 S.2.1 dX4_pass__2 (by rfl) ?_
  refine lv_istore_n (lv' := [(3, .int (nI 0)), (2, .int 0), (0, .ref a.1.1), (1, .int (nI h9))]) S.1 S.2.1 dX4_pass__3 rfl hl (by decide) rfl (fun ls hl => ?_)
  exact loop h9 0 _ _ _ _ (by omega) hp _ _ hJ ls (by rw [show ((gX (hourXs 0 α)).2.1 - (gX α).2.1) = 0 from Int32.sub_self _]; exact lv_sub hl [2, 3, 1, 0] rfl)
