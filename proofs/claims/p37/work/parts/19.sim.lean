theorem nI_m1 {k : Nat} (h : k < 2 ^ 31) : ¬ nI k = -1 := fun q => by
  have := congrArg Int32.toInt q
  rw [nI_toInt h] at this
  have e : (-1 : Int32).toInt = -1 := by decide
  omega
/-! ONE PROMISE AND THE WHOLE: the class tries one promise on a shelf, the reference lets all go by -/
def SimT (s : Nat) (x y : Pr) : Prop := x.1 = y.1 ∧ x.2.2 = y.2.2 ∧ ((x.2.1 = s ∧ y.2.1 = 5) ∨ (x.2.1 = 6 ∧ y.2.1 = 6))
theorem older_sim {s : Nat} {x y : Pr} (h : SimT s x y) : SimT s (older x) (older y) := by
  obtain ⟨g1, s1, r1⟩ := x
  obtain ⟨g2, s2, r2⟩ := y
  obtain ⟨e1, e2, e3⟩ := h
  dsimp only at e1 e2 e3
  subst e1; subst e2
  unfold older
  dsimp only
  split
  · exact ⟨rfl, rfl, e3⟩
  · split
    · exact ⟨rfl, rfl, e3⟩
    · exact ⟨rfl, rfl, Or.inr ⟨rfl, rfl⟩⟩
theorem hourP_sim {s : Nat} (hs : s < 5) {x y : Pr} (h : SimT s x y) (to : Int32) : SimT s (hourP to x) (hourP to y) := by
  obtain ⟨g1, s1, r1⟩ := x
  obtain ⟨g2, s2, r2⟩ := y
  obtain ⟨e1, e2, e3⟩ := h
  dsimp only at e1 e2 e3
  subst e1; subst e2
  unfold hourP
  dsimp only
  rcases e3 with ⟨rfl, rfl⟩ | ⟨rfl, rfl⟩
  · rw [if_pos (by omega), if_pos (by omega)]
    exact older_sim ⟨rfl, rfl, Or.inl ⟨rfl, rfl⟩⟩
  · rw [if_neg (by omega)]
    exact ⟨rfl, rfl, Or.inr ⟨rfl, rfl⟩⟩
theorem ringP_sim {s : Nat} (hs : s < 5) {x y : Pr} (h : SimT s x y) (to : Int32) : ringP to x = ringP to y := by
  obtain ⟨g1, s1, r1⟩ := x
  obtain ⟨g2, s2, r2⟩ := y
  obtain ⟨e1, e2, e3⟩ := h
  dsimp only at e1 e2 e3
  subst e1; subst e2
  unfold ringP
  dsimp only
  rcases e3 with ⟨rfl, rfl⟩ | ⟨rfl, rfl⟩
  · have q1 : s1 < 6 := by omega
    simp [q1]
  · simp
theorem hourX_S (α : St) {s : Nat} (hs : s < 5) : gS (hourX α) s = hourS (gX α).2.2.2 (gS α s) := if_pos hs
theorem hourX_P (α : St) {q : Nat} (hq : q < 20) : gP (hourX α) q = hourP (xS α 5 (gP α q).2.1).2 (gP α q) := if_pos hq
theorem hourXs_pw (α : St) (k : Nat) : (gX (hourXs k α)).2.2.2 = (gX α).2.2.2 := by
  induction k with
  | zero => rfl
  | succ k ih => exact ih
theorem sim_hours {α : St} {q : Nat} (hq : q < 20) (hs : (gP α q).2.1 < 5) (k : Nat) : gS (hourXs k α) (gP α q).2.1 = (trN (gX α).2.2.2 k (gS α (gP α q).2.1, trial (gP α q))).1 ∧ SimT (gP α q).2.1 (gP (hourXs k α) q) (trN (gX α).2.2.2 k (gS α (gP α q).2.1, trial (gP α q))).2 := by
  induction k with
  | zero => exact ⟨rfl, rfl, rfl, Or.inl ⟨rfl, rfl⟩⟩
  | succ k ih =>
    obtain ⟨i1, i2⟩ := ih
    have e1 : gS (hourXs (k + 1) α) (gP α q).2.1 = hourS (gX α).2.2.2 (gS (hourXs k α) (gP α q).2.1) := (hourX_S _ hs).trans (by rw [hourXs_pw])
    have e2 : gP (hourXs (k + 1) α) q = hourP (xS (hourXs k α) 5 (gP (hourXs k α) q).2.1).2 (gP (hourXs k α) q) := hourX_P _ hq
    refine ⟨by rw [e1, i1]; rfl, ?_⟩
    rw [e2]
    have e3 : hourP (xS (hourXs k α) 5 (gP (hourXs k α) q).2.1).2 (gP (hourXs k α) q) = hourP (hourS (gX α).2.2.2 (trN (gX α).2.2.2 k (gS α (gP α q).2.1, trial (gP α q))).1).2 (gP (hourXs k α) q) := by
      apply hourP_to
      intro h6
      rcases i2.2.2 with ⟨a, -⟩ | ⟨a, -⟩
      · rw [a, show xS (hourXs k α) 5 (gP α q).2.1 = _ from if_pos hs, hourXs_pw, i1]
      · omega
    rw [e3]
    exact hourP_sim hs i2 _
theorem stay_hours {α : St} {q : Nat} (hq : q < 20) (hs : ¬ (gP α q).2.1 < 6) (k : Nat) : gP (hourXs k α) q = gP α q := by
  induction k with
  | zero => rfl
  | succ k ih =>
    rw [show gP (hourXs (k + 1) α) q = _ from hourX_P _ hq]
    rw [ih]
    exact if_neg hs
theorem fst1_congr {P Q : Nat → Bool} {n k : Nat} (h : ∀ j, k ≤ j → j < k + n → P j = Q j) : fst1 P n k = fst1 Q n k := by
  induction n generalizing k with
  | zero => rfl
  | succ n ih =>
    unfold fst1
    rw [h k (Nat.le_refl k) (by omega), ih (fun j h1 h2 => h j (by omega) (by omega))]
theorem fst1_none {P : Nat → Bool} {n k : Nat} (h : ∀ j, P j = false) : fst1 P n k = -1 := by
  induction n generalizing k with
  | zero => rfl
  | succ n ih =>
    unfold fst1
    rw [h k, ih]
    rfl
theorem fst1_or {P : Nat → Bool} {n k : Nat} : fst1 P n k = -1 ∨ ∃ j, k ≤ j ∧ j < k + n ∧ fst1 P n k = nI j := by
  induction n generalizing k with
  | zero => exact Or.inl rfl
  | succ n ih =>
    unfold fst1
    by_cases h : P k = true
    · rw [if_pos h]
      exact Or.inr ⟨k, Nat.le_refl k, by omega, rfl⟩
    · rw [if_neg h]
      rcases ih (k := k + 1) with e | ⟨j, h1, h2, e⟩
      · exact Or.inl e
      · exact Or.inr ⟨j, by omega, by omega, e⟩
theorem sooner_n (b : Int32) : sooner (-1) b = false := by simp [sooner]
theorem sooner_m {j : Nat} (h : j < 2 ^ 31) : sooner (nI j) (-1) = true := by simp [sooner, nI_m1 h]
theorem sooner_lt {i j : Nat} (h : i < j) (hj : j < 2 ^ 31) : sooner (nI i) (nI j) = true := by
  simp [sooner, nI_m1 (show i < 2 ^ 31 by omega), nI_m1 hj]
  exact Int32.not_le.mp (nI_ge h hj)
theorem sooner_ge {i j : Nat} (h : j ≤ i) (hj : i < 2 ^ 31) : sooner (nI i) (nI j) = false := by
  have h1 := nI_m1 (show j < 2 ^ 31 by omega)
  have h2 := nI_le h hj
  simp [sooner, h1, h2]
theorem fst1_two {P Q : Nat → Bool} {n k : Nat} (hk : k + n < 2 ^ 31) : fst1 (fun j => P j || Q j) n k = if sooner (fst1 Q n k) (fst1 P n k) = true then fst1 Q n k else fst1 P n k := by
  induction n generalizing k with
  | zero =>
    show (-1 : Int32) = if sooner (-1) (-1) = true then (-1) else (-1)
    split <;> rfl
  | succ n ih =>
    have hP := fst1_or (P := P) (n := n) (k := k + 1)
    have hQ := fst1_or (P := Q) (n := n) (k := k + 1)
    have e := ih (k := k + 1) (by omega)
    unfold fst1
    cases h1 : P k <;> cases h2 : Q k
    · simp only [Bool.or_self, Bool.false_eq_true, if_false, h1, h2]
      exact e
    · simp only [Bool.or_true, if_true, Bool.false_eq_true, if_false, h1, h2]
      rcases hP with e1 | ⟨j, j1, j2, e1⟩
      · rw [e1, sooner_m (by omega), if_pos rfl]
      · rw [e1, sooner_lt (by omega) (by omega), if_pos rfl]
    · simp only [Bool.or_false, if_true, Bool.false_eq_true, if_false, h1, h2]
      rcases hQ with e1 | ⟨j, j1, j2, e1⟩
      · rw [e1, sooner_n]; rfl
      · rw [e1, sooner_ge (by omega) (by omega)]; rfl
    · simp only [Bool.or_self, if_true, h1, h2]
      rw [sooner_ge (Nat.le_refl k) (by omega)]; rfl
theorem until_eq {α : St} (hok : okP α) {q : Nat} (hq : q < 20) (g : Nat) : fst1 (fun k => decide ((gP (hourXs k α) q).1 = g)) 201 0 = hUntil (gX α).2.2.2 (gS α (gP α q).2.1) (gP α q) g := by
  unfold hUntil
  by_cases h0 : (gP α q).1 = g
  · rw [if_pos h0]
    show (if decide ((gP α q).1 = g) = true then nI 0 else _) = 0
    rw [if_pos (decide_eq_true h0)]
    rfl
  · rw [if_neg h0]
    have e0 : fst1 (fun k => decide ((gP (hourXs k α) q).1 = g)) 201 0 = fst1 (fun k => decide ((gP (hourXs k α) q).1 = g)) 200 1 := if_neg (by
      rw [decide_eq_true_eq]
      exact h0)
    rw [e0]
    rcases (hok q hq).2 with hs | hs
    · rw [if_pos (by omega)]
      exact fst1_congr (fun j _ _ => by rw [(sim_hours hq hs j).2.1])
    · rw [if_neg (by omega)]
      exact fst1_none (fun j => by rw [stay_hours hq (by omega) j]; exact decide_eq_false h0)
/-- a new promise laid: the class's part -/
def layS (α : St) (n : Nat) (a b : Int32) (k : Nat) : St := setS (setP α n (1, k, a, b, 0, 20)) k ((gS α k).1, openH (gS α k).2)
theorem freeze_eq (α : St) (hok : okP α) {n k : Nat} (hn : n < 20) (hk : k < 5) : fst1 (fun j => decide ((gP (hourXs j (layS α n 0 100 k)) n).1 = 2)) 201 0 = freezeN (gX α).2.2.2 (gS α k) := by
  have e1 : gP (layS α n 0 100 k) n = (1, k, 0, 100, 0, 20) := gP_setP _ _ _
  have e2 : gS (layS α n 0 100 k) k = ((gS α k).1, openH (gS α k).2) := gS_setS _ _ _
  have hok2 : okP (layS α n 0 100 k) := fun i hi => by
    by_cases h : i = n
    · subst h
      rw [e1]
      exact ⟨show (1 : Nat) < 6 by decide, Or.inl hk⟩
    · rw [show gP (layS α n 0 100 k) i = gP α i from gP_setP_ne _ _ h]
      exact hok i hi
  rw [until_eq hok2 hn 2, e1]
  unfold hUntil
  rw [if_neg (show ¬ (1 : Nat) = 2 by decide), if_pos (show k < 6 by omega), e2]
  rfl
theorem left_eq {α : St} (hok : okP α) {q : Nat} (hq : q < 20) (h : Nat) : leftF α h q = if (gP (hourXs h α) q).2.1 < 6 then 1 else 0 := by
  unfold leftF liesN
  rcases (hok q hq).2 with hs | hs
  · rw [if_pos (show (gP α q).2.1 < 6 by omega)]
    rcases (sim_hours hq hs h).2.2.2 with ⟨a, b⟩ | ⟨a, b⟩
    · rw [a, b, if_pos (by omega), if_pos (by omega)]
    · rw [a, b, if_neg (by omega)]
  · rw [if_neg (by omega), stay_hours hq (by omega), if_neg (by omega)]
