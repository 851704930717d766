/-! WHAT THE LAW ASKS OF A MACHINE, as facts of the picture -/
theorem coldF_min (σ : St) {K k : Nat} (h : k ≤ K) : (gS σ (coldF σ K)).2 ≤ (gS σ k).2 := by
  induction K with
  | zero =>
    obtain rfl : k = 0 := by omega
    exact Int32.le_refl _
  | succ K ih =>
    unfold coldF
    by_cases q : (gS σ (coldF σ K)).2 ≤ (gS σ (K + 1)).2
    · rw [if_pos q]
      rcases Nat.lt_or_ge k (K + 1) with h1 | h1
      · exact ih (by omega)
      · obtain rfl : k = K + 1 := by omega
        exact q
    · rw [if_neg q]
      rcases Nat.lt_or_ge k (K + 1) with h1 | h1
      · exact Int32.le_trans (Int32.le_of_lt (Int32.not_le.mp q)) (ih (by omega))
      · obtain rfl : k = K + 1 := by omega
        exact Int32.le_refl _
theorem mostF_max (σ : St) {K k : Nat} (h : k ≤ K) : honF σ k ≤ honF σ (mostF σ K) := by
  induction K with
  | zero =>
    obtain rfl : k = 0 := by omega
    exact Int32.le_refl _
  | succ K ih =>
    unfold mostF
    by_cases q : honF σ (K + 1) ≤ honF σ (mostF σ K)
    · rw [if_pos q]
      rcases Nat.lt_or_ge k (K + 1) with h1 | h1
      · exact ih (by omega)
      · obtain rfl : k = K + 1 := by omega
        exact q
    · rw [if_neg q]
      rcases Nat.lt_or_ge k (K + 1) with h1 | h1
      · exact Int32.le_trans (ih (by omega)) (Int32.le_of_lt (Int32.not_le.mp q))
      · obtain rfl : k = K + 1 := by omega
        exact Int32.le_refl _
/-! sums -/
theorem sumN_add (f g : Nat → Int32) (k : Nat) : sumN (fun i => f i + g i) k = sumN f k + sumN g k := by
  induction k with
  | zero => rfl
  | succ k ih =>
    rw [sumN_s, sumN_s, sumN_s, ih, Int32.add_assoc, Int32.add_assoc]
    congr 1
    rw [← Int32.add_assoc, ← Int32.add_assoc, Int32.add_comm (sumN g k) (f k)]
theorem sumN_sub (f g : Nat → Int32) (k : Nat) : sumN (fun i => f i - g i) k = sumN f k - sumN g k := by
  induction k with
  | zero => exact (show (0 : Int32) = 0 - 0 by decide)
  | succ k ih => rw [sumN_s, sumN_s, sumN_s, ih, i32_2]
theorem sumN_zero (k : Nat) : sumN (fun _ => 0) k = 0 := by
  induction k with
  | zero => rfl
  | succ k ih => rw [sumN_s, ih]; rfl
theorem sumN_swap (f : Nat → Nat → Int32) (a b : Nat) : sumN (fun w => sumN (f w) b) a = sumN (fun i => sumN (fun w => f w i) a) b := by
  induction a with
  | zero => exact (sumN_zero b).symm
  | succ a ih =>
    rw [sumN_s, ih, ← sumN_add]
    rfl
theorem sumN_one (k : Nat) : sumN (fun _ => 1) k = nI k := by
  induction k with
  | zero => rfl
  | succ k ih => rw [sumN_s, ih, nI_1]
/-- how many stand in the stage g -/
def stF (σ : St) (g : Nat) : Nat → Int32 := fun i => if (gP σ i).1 = g then 1 else 0
theorem sh_one : ∀ s, s < 7 → sumN (fun k => if s = k then (1 : Int32) else 0) 5 = if s < 6 then (if s < 5 then 1 else 0) else 0 := by decide
theorem mk_one : ∀ a, a < 6 → sumN (fun w => if nI a = nI w then (1 : Int32) else 0) 6 = 1 := by decide +kernel
section LPU
variable {σ : St} {n : Nat}
theorem on_sum (h : okP σ) : sumN (onF σ) 5 = sumN (mnC σ) 20 := by
  have e1 : sumN (onF σ) 5 = sumN (fun k => sumN (fun i => if (gP σ i).2.1 = k then (1 : Int32) else 0) 20) 5 := rfl
  rw [e1, sumN_swap]
  refine sumN_congr (fun i hi => ?_)
  have h7 := (h i hi).2
  rw [sh_one _ (by omega)]
  unfold mnC
  by_cases q : (gP σ i).2.1 < 6
  · rw [if_pos q, if_pos q, if_pos (by omega)]
  · rw [if_neg q, if_neg q]
theorem mnC_n (h : Inv σ n) : sumN (mnC σ) 20 = sumN (mnC σ) n := sumN_tail h.1 (fun i h1 h2 => if_neg (by have := (h.2.2.2.2.2 i h1 h2).2; omega))
theorem sum_a (h : Inv σ n) : sumN (onF σ) 5 + sumN (stF σ 4) n + sumN (stF σ 5) n = nI n := by
  rw [on_sum h.ok, mnC_n h, ← sumN_add, ← sumN_add, ← sumN_one n]
  refine sumN_congr (fun i hi => ?_)
  obtain ⟨ma, lf, ag, -, -, -, -, -, -, -, h8⟩ := h.2.2.2.2.1 i hi
  show mnC σ i + stF σ 4 i + stF σ 5 i = 1
  unfold mnC stF
  rcases h8 with ⟨h9, -, h10⟩ | ⟨h9, h10⟩
  · rw [if_pos (by omega), if_neg (by omega), if_neg (by omega)]; rfl
  · rcases h10 with h10 | h10
    · rw [if_neg (by omega), if_pos h10.1, if_neg (by omega)]; rfl
    · rw [if_neg (by omega), if_neg (by omega), if_pos h10.1]; rfl
theorem sum_b (h : Inv σ n) : sumN (fun w => owF σ (nI w)) 6 = sumN (onF σ) 5 := by
  rw [on_sum h.ok]
  have e1 : sumN (fun w => owF σ (nI w)) 6 = sumN (fun w => sumN (fun i => if (gP σ i).2.1 < 6 ∧ (gP σ i).2.2.1 = nI w then (1 : Int32) else 0) 20) 6 := rfl
  rw [e1, sumN_swap]
  refine sumN_congr (fun i hi => ?_)
  unfold mnC
  by_cases q : (gP σ i).2.1 < 6
  · rw [if_pos q]
    have hin : i < n := by
      rcases Nat.lt_or_ge i n with h1 | h1
      · exact h1
      · have := (h.2.2.2.2.2 i h1 hi).2; omega
    obtain ⟨ma, lf, ag, h1, h2, -⟩ := h.2.2.2.2.1 i hin
    refine Eq.trans (sumN_congr (fun w hw => ?_)) (mk_one ma h2)
    rw [h1]
    by_cases q2 : nI ma = nI w
    · rw [if_pos ⟨q, q2⟩, if_pos q2]
    · rw [if_neg (fun q3 => q2 q3.2), if_neg q2]
  · rw [if_neg q, ← sumN_zero 6]
    exact sumN_congr (fun w hw => if_neg (fun q3 => q q3.1))
theorem stF_n (h : Inv σ n) {g : Nat} (hg : 1 ≤ g) : sumN (stF σ g) 20 = sumN (stF σ g) n := sumN_tail h.1 (fun i h1 h2 => if_neg (by have := (h.2.2.2.2.2 i h1 h2).1; omega))
theorem cnt_sum (h : Inv σ n) {g : Nat} (hg : 1 ≤ g) : sumN (fun w => cntF σ (nI w) g) 6 = sumN (stF σ g) n := by
  rw [← stF_n h hg]
  have e1 : sumN (fun w => cntF σ (nI w) g) 6 = sumN (fun w => sumN (fun i => if (gP σ i).1 = g ∧ (gP σ i).2.2.1 = nI w then (1 : Int32) else 0) 20) 6 := rfl
  rw [e1, sumN_swap]
  refine sumN_congr (fun i hi => ?_)
  unfold stF
  by_cases q : (gP σ i).1 = g
  · rw [if_pos q]
    have hin : i < n := by
      rcases Nat.lt_or_ge i n with h1 | h1
      · exact h1
      · have := (h.2.2.2.2.2 i h1 hi).1; omega
    obtain ⟨ma, lf, ag, h1, h2, -⟩ := h.2.2.2.2.1 i hin
    refine Eq.trans (sumN_congr (fun w hw => ?_)) (mk_one ma h2)
    rw [h1]
    by_cases q2 : nI ma = nI w
    · rw [if_pos ⟨q, q2⟩, if_pos q2]
    · rw [if_neg (fun q3 => q2 q3.2), if_neg q2]
  · rw [if_neg q, ← sumN_zero 6]
    exact sumN_congr (fun w hw => if_neg (fun q3 => q q3.1))
theorem sum_c (h : Inv σ n) : sumN (honF σ) 6 = sumN (stF σ 4) n - sumN (stF σ 5) n := by
  have e1 : sumN (honF σ) 6 = sumN (fun w => cntF σ (nI w) 4 - cntF σ (nI w) 5) 6 := rfl
  rw [e1, sumN_sub, cnt_sum h (by omega), cnt_sum h (by omega)]
end LPU
/-! a promise's life -/
theorem life_sub {x : Pr} {lf ag : Nat} (h1 : x.2.2.2.1 = nI lf) (h2 : x.2.2.2.2.1 = nI ag) (h : ag ≤ lf) : x.2.2.2.1 - x.2.2.2.2.1 = nI (lf - ag) := by rw [h1, h2, nI_sub' h]
/-! what is told ahead -/
theorem fst1_spec (P : Nat → Bool) (n k : Nat) : (fst1 P n k = -1 ∧ ∀ j, k ≤ j → j < k + n → P j = false) ∨ ∃ j, k ≤ j ∧ j < k + n ∧ fst1 P n k = nI j ∧ P j = true ∧ ∀ i, k ≤ i → i < j → P i = false := by
  induction n generalizing k with
  | zero => exact Or.inl ⟨rfl, fun j h1 h2 => by omega⟩
  | succ n ih =>
    unfold fst1
    by_cases h : P k = true
    · rw [if_pos h]
      exact Or.inr ⟨k, Nat.le_refl k, by omega, rfl, h, fun i h1 h2 => by omega⟩
    · rw [if_neg h]
      have hk : P k = false := by simpa using h
      rcases ih (k + 1) with ⟨e, e2⟩ | ⟨j, h1, h2, e, e2, e3⟩
      · refine Or.inl ⟨e, fun j h1 h2 => ?_⟩
        rcases Nat.lt_or_ge k j with h3 | h3
        · exact e2 j h3 (by omega)
        · obtain rfl : j = k := by omega
          exact hk
      · refine Or.inr ⟨j, by omega, by omega, e, e2, fun i h3 h4 => ?_⟩
        rcases Nat.lt_or_ge k i with h5 | h5
        · exact e3 i h5 h4
        · obtain rfl : i = k := by omega
          exact hk
/-- F hours ahead the stage g is told of the promise q of β: never (-1) within 200, or first behind f hours -/
def Told (β : St) (q g : Nat) (F : Int32) : Prop := (F = -1 ∧ ∀ j, j ≤ 200 → (gP (hourXs j β) q).1 ≠ g) ∨ ∃ f, f ≤ 200 ∧ F = nI f ∧ (gP (hourXs f β) q).1 = g ∧ ∀ i, i < f → (gP (hourXs i β) q).1 ≠ g
theorem told_of {β : St} (hok : okP β) {q : Nat} (hq : q < 20) (g : Nat) : Told β q g (hUntil (gX β).2.2.2 (gS β (gP β q).2.1) (gP β q) g) := by
  rw [← until_eq hok hq g]
  rcases fst1_spec (fun k => decide ((gP (hourXs k β) q).1 = g)) 201 0 with ⟨e, e2⟩ | ⟨j, h1, h2, e, e2, e3⟩
  · exact Or.inl ⟨e, fun j hj => by have := e2 j (Nat.zero_le j) (by omega); simpa using this⟩
  · exact Or.inr ⟨j, by omega, e, by simpa using e2, fun i hi => by have := e3 i (Nat.zero_le i) hi; simpa using this⟩
theorem Told.zero {β : St} {q g : Nat} {F : Int32} (h : Told β q g F) : F = 0 ↔ (gP β q).1 = g := by
  rcases h with ⟨e, e2⟩ | ⟨f, h1, e, e2, e3⟩
  · rw [e]
    exact ⟨fun q9 => absurd q9 (by decide), fun q9 => absurd q9 (e2 0 (by omega))⟩
  · rw [e]
    constructor
    · intro q9
      obtain rfl : f = 0 := nI_eq9 (by omega) (by omega) q9
      exact e2
    · intro q9
      rcases Nat.eq_zero_or_pos f with h0 | h0
      · rw [h0]; rfl
      · exact absurd q9 (e3 0 h0)
theorem Tr.hU {σ σ' : St} (hok : okP σ) (t : Tr σ σ') {i : Nat} (hi : i < 20) (g : Nat) : hUntil (gX σ').2.2.2 (gS σ' (gP σ' i).2.1) (gP σ' i) g = hUntil (gX σ).2.2.2 (gS σ (gP σ i).2.1) (gP σ i) g := by
  rw [t.X, t.P hi]
  rcases (hok i hi).2 with hs | hs
  · rw [t.S hs]
  · unfold hUntil
    rw [if_neg (show ¬ (gP σ i).2.1 < 6 by omega), if_neg (show ¬ (gP σ i).2.1 < 6 by omega)]
theorem tr_coldF {σ σ' : St} (t : Tr σ σ') {k : Nat} (hk : k < 5) : coldF σ' k = coldF σ k := by
  induction k with
  | zero => rfl
  | succ k ih =>
    have h1 := coldF_le σ k
    unfold coldF
    rw [ih (by omega), t.S (by omega), t.S (by omega)]
theorem tr_mostF {σ σ' : St} (t : Tr σ σ') (k : Nat) : mostF σ' k = mostF σ k := by
  induction k with
  | zero => rfl
  | succ k ih =>
    unfold mostF
    rw [ih, t.honF, t.honF]
theorem tr_bestF {σ σ' : St} (t : Tr σ σ') {k : Nat} (hk : k ≤ 5) : bestF σ' k = bestF σ k := by
  induction k with
  | zero => rfl
  | succ k ih =>
    unfold bestF
    rw [ih (by omega), t.X, t.S (by omega)]
theorem tr_digF {σ σ' : St} (hok : okP σ) (t : Tr σ σ') {n : Nat} (hn : n ≤ 20) : digF σ' n = digF σ n := by
  unfold digF
  rw [t.dgM, t.dgP _ hn, t.dgS _ (Nat.le_refl 5), t.X, tr_coldF t (by omega), tr_mostF t, tr_bestF t (Nat.le_refl 5), t.ocF hok (Nat.le_refl 20)]
/-! an hour -/
theorem hourX_pw (α : St) : (gX (hourX α)).2.2.2 = (gX α).2.2.2 := rfl
theorem rang_eq (α : St) : (gX (hourXs 1 α)).2.1 - (gX α).2.1 = sumN (xR α) 20 := by
  show (gX α).2.1 + sumN (xR α) 20 - (gX α).2.1 = _
  rw [Int32.add_comm, Int32.add_sub_cancel]
/-- frozen ahead of the hour, thawed behind it -/
def thF (α : St) : Nat → Int32 := fun i => if (gP α i).1 = 2 ∧ (gP (hourX α) i).1 = 3 then 1 else 0
/-- a sum of noughts and ones is a number -/
theorem cnt_le {f g : Nat → Int32} {n : Nat} (hf : ∀ i, i < n → f i = 0 ∨ f i = 1) (hg : ∀ i, i < n → g i = 0 ∨ g i = 1) (h : ∀ i, i < n → f i = 1 → g i = 1) : ∃ a b, sumN f n = nI a ∧ sumN g n = nI b ∧ a ≤ b ∧ b ≤ n := by
  induction n with
  | zero => exact ⟨0, 0, rfl, rfl, Nat.le_refl 0, Nat.le_refl 0⟩
  | succ n ih =>
    obtain ⟨a, b, h1, h2, h3, h4⟩ := ih (fun i hi => hf i (by omega)) (fun i hi => hg i (by omega)) (fun i hi => h i (by omega))
    rw [sumN_s, sumN_s, h1, h2]
    rcases hf n (by omega) with q1 | q1
    · rcases hg n (by omega) with q2 | q2
      · rw [q1, q2, Int32.add_zero, Int32.add_zero]
        exact ⟨a, b, rfl, rfl, h3, by omega⟩
      · rw [q1, q2, Int32.add_zero, nI_1]
        exact ⟨a, b + 1, rfl, rfl, by omega, by omega⟩
    · rw [q1, h n (by omega) q1, nI_1, nI_1]
      exact ⟨a + 1, b + 1, rfl, rfl, by omega, by omega⟩
theorem ring_th {to : Int32} {x : Pr} (h : x.1 = 2) (h2 : (hourP to x).1 = 3) : ringP to x = 1 := by
  by_cases hs : x.2.1 < 6
  · obtain ⟨g, s, mk, lf, ag, w⟩ := x
    dsimp only at h hs
    subst h
    by_cases q : draw to w ≤ -4
    · exfalso
      have e1 : hourP to (2, s, mk, lf, ag, w) = (2, s, mk, lf, ag, draw to w) := by simp [hourP, cool, older, hs, q]
      rw [e1] at h2
      exact absurd h2 (show ¬ (2 : Nat) = 3 by decide)
    · exact if_pos ⟨hs, rfl, q⟩
  · rw [show hourP to x = x from if_neg hs, h] at h2
    exact absurd h2 (by decide)
theorem thaw_le {α : St} {n : Nat} (h : Inv α n) : sumN (thF α) n ≤ sumN (xR α) 20 := by
  rw [sumN_tail (f := xR α) h.1 (fun i h1 h2 => if_neg (by have := (h.2.2.2.2.2 i h1 h2).2; omega))]
  have hn := h.1
  obtain ⟨a, b, h1, h2, h3, h4⟩ := cnt_le (f := thF α) (g := xR α) (n := n) (fun i _ => by unfold thF; split <;> simp) (fun i _ => xR_01 α i) (fun i hi q => by
    unfold thF at q
    by_cases q2 : (gP α i).1 = 2 ∧ (gP (hourX α) i).1 = 3
    · obtain ⟨q3, q4⟩ := q2
      rw [hourX_P _ (show i < 20 by omega)] at q4
      exact ring_th q3 q4
    · rw [if_neg q2] at q
      exact absurd q (by decide))
  rw [h1, h2]
  exact nI_le h3 (by omega)
/-! the best shelf -/
theorem bestF_spec (σ : St) (k : Nat) : (bestF σ k = (-1, -1)) ∨ ∃ b, b < k ∧ bestF σ k = (nI b, freezeN (gX σ).2.2.2 (gS σ b)) ∧ ¬ freezeN (gX σ).2.2.2 (gS σ b) = -1 := by
  induction k with
  | zero => exact Or.inl rfl
  | succ k ih =>
    unfold bestF
    by_cases q : sooner (freezeN (gX σ).2.2.2 (gS σ k)) (bestF σ k).2 = true
    · rw [if_pos q]
      refine Or.inr ⟨k, by omega, rfl, fun q2 => ?_⟩
      rw [q2, sooner_n] at q
      cases q
    · rw [if_neg q]
      rcases ih with e | ⟨b, h1, h2, h3⟩
      · exact Or.inl e
      · exact Or.inr ⟨b, by omega, h2, h3⟩
/-- a promise's maker says nothing of how it freezes -/
theorem trN_mk (pw : Int32) (q : Sh) (ma : Int32) (j : Nat) : (trN pw j (q, ((1, 5, ma, 100, 0, 20) : Pr))).1 = (trN pw j (q, newP)).1 ∧ (trN pw j (q, ((1, 5, ma, 100, 0, 20) : Pr))).2.1 = (trN pw j (q, newP)).2.1 ∧ (trN pw j (q, ((1, 5, ma, 100, 0, 20) : Pr))).2.2.1 = (trN pw j (q, newP)).2.2.1 ∧ (trN pw j (q, ((1, 5, ma, 100, 0, 20) : Pr))).2.2.2.2 = (trN pw j (q, newP)).2.2.2.2 := by
  induction j with
  | zero => exact ⟨rfl, rfl, rfl, rfl⟩
  | succ j ih =>
    show (tr1 pw (trN pw j (q, ((1, 5, ma, 100, 0, 20) : Pr)))).1 = (tr1 pw (trN pw j (q, newP))).1 ∧ (tr1 pw (trN pw j (q, ((1, 5, ma, 100, 0, 20) : Pr)))).2.1 = (tr1 pw (trN pw j (q, newP))).2.1 ∧ (tr1 pw (trN pw j (q, ((1, 5, ma, 100, 0, 20) : Pr)))).2.2.1 = (tr1 pw (trN pw j (q, newP))).2.2.1 ∧ (tr1 pw (trN pw j (q, ((1, 5, ma, 100, 0, 20) : Pr)))).2.2.2.2 = (tr1 pw (trN pw j (q, newP))).2.2.2.2
    generalize trN pw j (q, ((1, 5, ma, 100, 0, 20) : Pr)) = u at ih
    generalize trN pw j (q, newP) = v at ih
    obtain ⟨a1, g1, s1, m1, r1⟩ := u
    obtain ⟨a2, g2, s2, m2, r2⟩ := v
    obtain ⟨e1, e2, e3, e4⟩ := ih
    dsimp only at e1 e2 e3 e4
    subst e1; subst e2; subst e3; subst e4
    refine ⟨rfl, ?_⟩
    unfold tr1 hourP
    dsimp only
    by_cases h6 : s1 < 6
    · rw [if_pos h6, if_pos h6]
      unfold older
      dsimp only
      split
      · exact ⟨rfl, rfl, rfl⟩
      · split <;> exact ⟨rfl, rfl, rfl⟩
    · rw [if_neg h6, if_neg h6]
      exact ⟨rfl, rfl, rfl⟩
theorem freeze_mk (pw : Int32) (q : Sh) (ma : Int32) : fst1 (fun j => decide ((trN pw j ((q.1, openH q.2), ((1, 5, ma, 100, 0, 20) : Pr))).2.1 = 2)) 200 1 = freezeN pw q := fst1_congr (fun j _ _ => by rw [(trN_mk pw (q.1, openH q.2) ma j).2.1])
theorem freezeN_in {pw : Int32} {q : Sh} (h : ¬ freezeN pw q = -1) : ∃ f, 1 ≤ f ∧ f ≤ 200 ∧ freezeN pw q = nI f := by
  rcases fst1_spec (fun n => decide ((trN pw n ((q.1, openH q.2), newP)).2.1 = 2)) 200 1 with ⟨e, -⟩ | ⟨j, h1, h2, e, -⟩
  · exact absurd e h
  · exact ⟨j, h1, by omega, e⟩
/-- what lies behind the hours is what was told -/
theorem left_sum {β : St} (hok : okP β) (h : Nat) : sumN (onF (hourXs h β)) 5 = sumN (leftF β h) 20 := by
  rw [on_sum (hok.hours h)]
  exact sumN_congr (fun i hi => (left_eq hok hi h).symm)
theorem tr_leftS {σ σ' : St} (hok : okP σ) (t : Tr σ σ') (h : Nat) : sumN (leftF σ' h) 20 = sumN (leftF σ h) 20 := sumN_congr (fun i hi => t.leftF hok h hi)
theorem tr_onS {σ σ' : St} (t : Tr σ σ') : sumN (onF σ') 5 = sumN (onF σ) 5 := sumN_congr (fun k _ => t.onF k)
