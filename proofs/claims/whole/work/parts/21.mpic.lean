/-! THE PICTURE: the reference's rows show an abstract state (the class's part of α) -/
def inB (x : Sh) : Prop := -30 ≤ x.1 ∧ x.1 ≤ -5 ∧ -30 ≤ x.2 ∧ x.2 ≤ 20
def PicP (x : Pr) (m l : Int32) (z : Z5) : Prop := m = x.2.2.1 ∧ l = x.2.2.2.1 ∧ z.2.1 = x.2.2.2.2.2 ∧ z.2.2.1 = x.2.2.2.2.1 ∧ (-30 ≤ x.2.2.2.2.2 ∧ x.2.2.2.2.2 ≤ 20) ∧ ((x.2.1 < 5 ∧ (x.1 = 1 ∨ x.1 = 2 ∨ x.1 = 3) ∧ z.1 = nI x.2.1 ∧ z.2.2.2.1 = nI (x.1 - 1) ∧ z.2.2.2.2 = 0) ∨ (x.2.1 = 6 ∧ z.1 = -1 ∧ ((x.1 = 4 ∧ z.2.2.2.2 = 1) ∨ (x.1 = 5 ∧ z.2.2.2.2 = 2))))
def Pic (α : St) (n : Nat) (mk lf nw : Nat → Int32) : Prop :=
  n ≤ 20 ∧ (nw 0 = (gX α).2.2.1 ∧ nw 1 = (gX α).2.2.2 ∧ nw 2 = (gX α).2.1) ∧ ((gX α).2.2.2 = 0 ∨ (gX α).2.2.2 = 1) ∧ (∀ k, k < 5 → nw (3 + 2 * k + 0) = (gS α k).1 ∧ nw (3 + 2 * k + 1) = (gS α k).2 ∧ inB (gS α k)) ∧
  (∀ q, q < n → PicP (gP α q) (mk q) (lf q) (getZ nw q)) ∧ ∀ q, n ≤ q → q < 20 → (gP α q).1 = 0 ∧ (gP α q).2.1 = 6
theorem Pic.ok {α : St} {n : Nat} {mk lf nw : Nat → Int32} (h : Pic α n mk lf nw) : okP α := fun i hi => by
  rcases Nat.lt_or_ge i n with h1 | h1
  · obtain ⟨-, -, -, -, -, h2⟩ := h.2.2.2.2.1 i h1
    rcases h2 with ⟨a, b, -⟩ | ⟨a, -, b⟩
    · exact ⟨by omega, Or.inl a⟩
    · exact ⟨by omega, Or.inr a⟩
  · have := h.2.2.2.2.2 i h1 hi
    exact ⟨by omega, Or.inr this.2⟩
theorem Pic.cong {α β : St} {n : Nat} {mk lf nw : Nat → Int32} (h : Pic α n mk lf nw) (hS : ∀ k, k < 5 → gS β k = gS α k) (hP : ∀ q, q < 20 → gP β q = gP α q) (hX : (gX β).2 = (gX α).2) : Pic β n mk lf nw := by
  obtain ⟨h0, h1, h2, h3, h4, h5⟩ := h
  refine ⟨h0, ?_, ?_, fun k hk => by rw [hS k hk]; exact h3 k hk, fun q hq => by rw [hP q (by omega)]; exact h4 q hq, fun q hq hq2 => by rw [hP q hq2]; exact h5 q hq hq2⟩
  · rw [hX]; exact h1
  · rw [hX]; exact h2
theorem Pic.row {α : St} {n : Nat} {mk lf nw nw2 : Nat → Int32} (h : Pic α n mk lf nw) (hj : ∀ j, j < 113 → nw2 j = nw j) : Pic α n mk lf nw2 := by
  obtain ⟨h0, h1, h2, h3, h4, h5⟩ := h
  refine ⟨h0, ?_, h2, fun k hk => by rw [hj _ (by omega), hj _ (by omega)]; exact h3 k hk, fun q hq => ?_, h5⟩
  · rw [hj 0 (by omega), hj 1 (by omega), hj 2 (by omega)]; exact h1
  · have e : getZ nw2 q = getZ nw q := by
      simp only [getZ]
      rw [hj _ (by omega), hj _ (by omega), hj _ (by omega), hj _ (by omega), hj _ (by omega)]
    rw [e]; exact h4 q hq
theorem getZ_up (nw : Nat → Int32) {q j : Nat} (v : Int32) (h : j < 13 + 5 * q ∨ 13 + 5 * q + 5 ≤ j) : getZ (va_up nw j v) q = getZ nw q := by
  simp only [getZ]
  rw [va_up_ne _ _ (by omega), va_up_ne _ _ (by omega), va_up_ne _ _ (by omega), va_up_ne _ _ (by omega), va_up_ne _ _ (by omega)]
theorem Pic.S {α : St} {n : Nat} {mk lf nw : Nat → Int32} (h : Pic α n mk lf nw) {k : Nat} (hk : k < 5) {y : Sh} (hy : inB y) (h1 : y.1 = (gS α k).1) : Pic (setS α k y) n mk lf (va_up nw (3 + 2 * k + 1) y.2) := by
  obtain ⟨h0, hh, h2, h3, h4, h5⟩ := h
  refine ⟨h0, ?_, h2, fun i hi => ?_, fun q hq => by rw [getZ_up _ _ (by omega)]; exact h4 q hq, h5⟩
  · rw [va_up_ne _ _ (by omega), va_up_ne _ _ (by omega), va_up_ne _ _ (by omega)]; exact hh
  · by_cases e : i = k
    · subst e
      rw [va_up_ne _ _ (by omega), va_up_self, gS_setS]
      exact ⟨(h3 i hi).1.trans h1.symm, rfl, hy⟩
    · rw [va_up_ne _ _ (by omega), va_up_ne _ _ (by omega), gS_setS_ne _ _ e]
      exact h3 i hi
theorem Pic.set0 {α : St} {n : Nat} {mk lf nw : Nat → Int32} (h : Pic α n mk lf nw) {k : Nat} (hk : k < 5) {v : Int32} (hv : -30 ≤ v ∧ v ≤ -5) : Pic (setS α k (v, (gS α k).2)) n mk lf (va_up nw (3 + 2 * k + 0) v) := by
  obtain ⟨h0, hh, h2, h3, h4, h5⟩ := h
  refine ⟨h0, ?_, h2, fun i hi => ?_, fun q hq => by rw [getZ_up _ _ (by omega)]; exact h4 q hq, h5⟩
  · rw [va_up_ne _ _ (by omega), va_up_ne _ _ (by omega), va_up_ne _ _ (by omega)]; exact hh
  · by_cases e : i = k
    · subst e
      rw [va_up_self, va_up_ne _ _ (by omega), gS_setS]
      exact ⟨rfl, (h3 i hi).2.1, hv.1, hv.2, (h3 i hi).2.2.2.2⟩
    · rw [va_up_ne _ _ (by omega), va_up_ne _ _ (by omega), gS_setS_ne _ _ e]
      exact h3 i hi
theorem Pic.P {α : St} {n : Nat} {mk lf nw : Nat → Int32} (h : Pic α n mk lf nw) {q : Nat} (hq : q < n) {y : Pr} {z : Z5} (hy : PicP y (mk q) (lf q) z) : Pic (setP α q y) n mk lf (putZ nw q z) := by
  obtain ⟨h0, hh, h2, h3, h4, h5⟩ := h
  refine ⟨h0, ?_, h2, fun i hi => ?_, fun i hi => ?_, fun i hi hi2 => by rw [gP_setP_ne _ _ (by omega)]; exact h5 i hi hi2⟩
  · rw [putZ_lt _ _ _ (by omega), putZ_lt _ _ _ (by omega), putZ_lt _ _ _ (by omega)]; exact hh
  · rw [putZ_lt _ _ _ (by omega), putZ_lt _ _ _ (by omega)]; exact h3 i hi
  · by_cases e : i = q
    · subst e
      rw [getZ_putZ, gP_setP]
      exact hy
    · rw [getZ_ne _ _ e, gP_setP_ne _ _ e]
      exact h4 i hi
/-- hours, alarms, power: a number of the first three -/
theorem Pic.X {α : St} {n : Nat} {mk lf nw : Nat → Int32} (h : Pic α n mk lf nw) {y : Int32 × Int32 × Int32 × Int32} {nw2 : Nat → Int32} (hw : y.2.2.2 = 0 ∨ y.2.2.2 = 1) (h1 : nw2 0 = y.2.2.1 ∧ nw2 1 = y.2.2.2 ∧ nw2 2 = y.2.1) (hj : ∀ j, 3 ≤ j → nw2 j = nw j) : Pic (setX α y) n mk lf nw2 := by
  obtain ⟨h0, hh, h2, h3, h4, h5⟩ := h
  refine ⟨h0, h1, hw, fun k hk => by rw [hj _ (by omega), hj _ (by omega)]; exact h3 k hk, fun q hq => ?_, h5⟩
  have e : getZ nw2 q = getZ nw q := by
    simp only [getZ]
    rw [hj _ (by omega), hj _ (by omega), hj _ (by omega), hj _ (by omega), hj _ (by omega)]
  rw [e]; exact h4 q hq
/-! small numbers: by all cases -/
def dg (i : Nat) : Int32 := nI i - 30
theorem dg_of {v : Int32} {M : Int32} {m : Nat} (hM : M.toInt = (m : Int) - 30) (hm : m < 100) (h1 : -30 ≤ v) (h2 : v ≤ M) : ∃ i, i < m + 1 ∧ v = dg i := by
  rw [Int32.le_iff_toInt_le] at h1 h2
  have e0 : (-30 : Int32).toInt = -30 := by decide
  rw [e0] at h1
  refine ⟨(v.toInt + 30).toNat, by omega, ?_⟩
  apply Int32.toInt_inj.mp
  unfold dg
  rw [Int32.toInt_sub, nI_toInt (by omega)]
  have e1 : (30 : Int32).toInt = 30 := by decide
  rw [e1]
  have e2 : (((v.toInt + 30).toNat : Nat) : Int) - 30 = v.toInt := by omega
  rw [e2]
  exact (Int.bmod_eq_of_le (by omega) (by omega)).symm
theorem tab_draw : ∀ i, i < 51 → ∀ j, j < 51 → rgB (dg i) (dg j) = draw (dg i) (dg j) ∧ -30 ≤ draw (dg i) (dg j) ∧ draw (dg i) (dg j) ≤ 20 := by decide +kernel
theorem rgB_draw {a b : Int32} (ha : -30 ≤ a ∧ a ≤ 20) (hb : -30 ≤ b ∧ b ≤ 20) : rgB a b = draw a b ∧ -30 ≤ draw a b ∧ draw a b ≤ 20 := by
  obtain ⟨i, hi, rfl⟩ := dg_of (M := 20) (m := 50) (by decide) (by omega) ha.1 ha.2
  obtain ⟨j, hj, rfl⟩ := dg_of (M := 20) (m := 50) (by decide) (by omega) hb.1 hb.2
  exact tab_draw i hi j hj
theorem tab_open : ∀ i, i < 51 → -30 ≤ openH (dg i) ∧ openH (dg i) ≤ 20 := by decide +kernel
theorem openH_in {a : Int32} (ha : -30 ≤ a ∧ a ≤ 20) : -30 ≤ openH a ∧ openH a ≤ 20 := by
  obtain ⟨i, hi, rfl⟩ := dg_of (M := 20) (m := 50) (by decide) (by omega) ha.1 ha.2
  exact tab_open i hi
theorem tab_hour : ∀ i, i < 26 → ∀ j, j < 51 → (-30 ≤ (hourS 0 (dg i, dg j)).2 ∧ (hourS 0 (dg i, dg j)).2 ≤ 20) ∧ -30 ≤ (hourS 1 (dg i, dg j)).2 ∧ (hourS 1 (dg i, dg j)).2 ≤ 20 := by decide +kernel
theorem hourS_in {pw : Int32} (hw : pw = 0 ∨ pw = 1) {x : Sh} (h : inB x) : inB (hourS pw x) := by
  obtain ⟨a, b⟩ := x
  obtain ⟨h1, h2, h3, h4⟩ := h
  refine ⟨h1, h2, ?_⟩
  obtain ⟨i, hi, rfl⟩ := dg_of (M := -5) (m := 25) (by decide) (by omega) h1 h2
  obtain ⟨j, hj, rfl⟩ := dg_of (M := 20) (m := 50) (by decide) (by omega) h3 h4
  rcases hw with rfl | rfl
  · exact (tab_hour i hi j hj).1
  · exact (tab_hour i hi j hj).2
/-- an hour of a promise that lies: what rings and getOlder leave is the picture of hourP -/
theorem PicP.hour {x : Pr} {m l to : Int32} (hm : m = x.2.2.1) (hl : l = x.2.2.2.1) (hb : -30 ≤ x.2.2.2.2.2 ∧ x.2.2.2.2.2 ≤ 20) (ht : -30 ≤ to ∧ to ≤ 20) (hs : x.2.1 < 5) (hg : x.1 = 1 ∨ x.1 = 2 ∨ x.1 = 3) :
    rgR to x.2.2.2.2.2 (nI (x.1 - 1)) = ringP to x ∧ PicP (hourP to x) m l (if rgD to x.2.2.2.2.2 (nI (x.1 - 1)) = 1 then (nI x.2.1, rgB to x.2.2.2.2.2, x.2.2.2.2.1, rgD to x.2.2.2.2.2 (nI (x.1 - 1)), 0) else if l ≤ x.2.2.2.2.1 + 1 then (-1, rgB to x.2.2.2.2.2, x.2.2.2.2.1 + 1, rgD to x.2.2.2.2.2 (nI (x.1 - 1)), 2) else (nI x.2.1, rgB to x.2.2.2.2.2, x.2.2.2.2.1 + 1, rgD to x.2.2.2.2.2 (nI (x.1 - 1)), 0)) := by
  obtain ⟨g, s, mkz, lfz, ag, w⟩ := x
  dsimp only at *
  obtain rfl : mkz = m := hm.symm
  obtain rfl : lfz = l := hl.symm
  obtain ⟨e1, e2, e3⟩ := rgB_draw ht hb
  unfold rgR rgD
  rw [e1]
  dsimp only
  generalize hh : draw to w = h at *
  have hs6 : s < 6 := by omega
  have hh4 : (-4 < h) ↔ ¬ h ≤ -4 := (Int32.not_le).symm
  have hc : ∀ k : Nat, (if lfz ≤ ag + 1 then k else 0) = (if ag + 1 < lfz then 0 else k) := fun k => by
    by_cases q : lfz ≤ ag + 1
    · rw [if_pos q, if_neg (Int32.not_lt.mpr q)]
    · rw [if_neg q, if_pos (Int32.not_le.mp q)]
  have d1 : nI (1 - 1) = 0 := rfl
  have d2 : nI (2 - 1) = 1 := rfl
  have d3 : nI (3 - 1) = 2 := rfl
  rcases hg with rfl | rfl | rfl
  · rw [d1]
    by_cases q1 : -10 < h
    · have k1 : ringP to (1, s, mkz, lfz, ag, w) = 0 := by simp [ringP]
      have k2 : hourP to (1, s, mkz, lfz, ag, w) = older (1, s, mkz, lfz, ag, h) := by simp [hourP, hs6, cool, hh, q1]
      by_cases q2 : lfz ≤ ag + 1
      · rw [k1, k2]; simp [older, PicP, q1, q2, Int32.not_lt.mpr q2, e2, e3]
      · rw [k1, k2]; simp [older, PicP, q1, q2, Int32.not_le.mp q2, e2, e3, hs, nI]
    · have k3 : h ≤ -4 := by
        rw [Int32.le_iff_toInt_le]
        rw [Int32.lt_iff_toInt_lt] at q1
        have a1 : (-10 : Int32).toInt = -10 := by decide
        have a2 : (-4 : Int32).toInt = -4 := by decide
        omega
      have k1 : ringP to (1, s, mkz, lfz, ag, w) = 0 := by simp [ringP]
      have k2 : hourP to (1, s, mkz, lfz, ag, w) = (2, s, mkz, lfz, ag, h) := by simp [hourP, hs6, cool, hh, q1, older]
      rw [k1, k2]; simp [PicP, q1, hh4, k3, e2, e3, hs, nI]
  · rw [d2]
    by_cases q1 : h ≤ -4
    · have k1 : ringP to (2, s, mkz, lfz, ag, w) = 0 := by simp [ringP, hh, q1]
      have k2 : hourP to (2, s, mkz, lfz, ag, w) = (2, s, mkz, lfz, ag, h) := by simp [hourP, hs6, cool, hh, q1, older]
      rw [k1, k2]; simp [PicP, hh4, q1, e2, e3, hs, nI]
    · have k1 : ringP to (2, s, mkz, lfz, ag, w) = 1 := by simp [ringP, hh, q1, hs6]
      have k2 : hourP to (2, s, mkz, lfz, ag, w) = older (3, s, mkz, lfz, ag, h) := by simp [hourP, hs6, cool, hh, q1]
      by_cases q2 : lfz ≤ ag + 1
      · rw [k1, k2]; simp [older, PicP, hh4, q1, q2, Int32.not_lt.mpr q2, e2, e3]
      · rw [k1, k2]; simp [older, PicP, hh4, q1, q2, Int32.not_le.mp q2, e2, e3, hs, nI]
  · rw [d3]
    have k1 : ringP to (3, s, mkz, lfz, ag, w) = 0 := by simp [ringP]
    have k2 : hourP to (3, s, mkz, lfz, ag, w) = older (3, s, mkz, lfz, ag, h) := by simp [hourP, hs6, cool, hh]
    by_cases q2 : lfz ≤ ag + 1
    · rw [k1, k2]; simp [older, PicP, q2, Int32.not_lt.mpr q2, e2, e3]
    · rw [k1, k2]; simp [older, PicP, q2, Int32.not_le.mp q2, e2, e3, hs, nI]
