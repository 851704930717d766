/-! THE PICTURE: what is known of a machine, and how the law's own one shows it -/
def inB (x : Sh) : Prop := -30 ≤ x.1 ∧ x.1 ≤ -5 ∧ -30 ≤ x.2 ∧ x.2 ≤ 20
def okX (x : Pr) : Prop := ∃ ma lf ag : Nat, x.2.2.1 = nI ma ∧ ma < 6 ∧ x.2.2.2.1 = nI lf ∧ 1 ≤ lf ∧ lf ≤ 100 ∧ x.2.2.2.2.1 = nI ag ∧ (-30 ≤ x.2.2.2.2.2 ∧ x.2.2.2.2.2 ≤ 20) ∧ ((x.2.1 < 5 ∧ ag < lf ∧ (x.1 = 1 ∨ (x.1 = 2 ∧ x.2.2.2.2.2 ≤ -4) ∨ x.1 = 3)) ∨ (x.2.1 = 6 ∧ ((x.1 = 4 ∧ ag < lf) ∨ (x.1 = 5 ∧ ag = lf))))
def Inv (α : St) (n : Nat) : Prop := n ≤ 20 ∧ (gX α).1 = nI n ∧ ((gX α).2.2.2 = 0 ∨ (gX α).2.2.2 = 1) ∧ (∀ k, k < 5 → inB (gS α k)) ∧ (∀ q, q < n → okX (gP α q)) ∧ ∀ q, n ≤ q → q < 20 → (gP α q).1 = 0 ∧ (gP α q).2.1 = 6
def RowP (x : Pr) (z : Z7) : Prop := z.1 = x.2.2.1 ∧ z.2.1 = x.2.2.2.1 ∧ z.2.2.2.1 = x.2.2.2.2.2 ∧ z.2.2.2.2.1 = x.2.2.2.2.1 ∧ ((x.2.1 < 5 ∧ z.2.2.1 = nI x.2.1 ∧ z.2.2.2.2.2.1 = nI (x.1 - 1) ∧ z.2.2.2.2.2.2 = 0) ∨ (x.2.1 = 6 ∧ z.2.2.1 = -1 ∧ ((x.1 = 4 ∧ z.2.2.2.2.2.2 = 1) ∨ (x.1 = 5 ∧ z.2.2.2.2.2.2 = 2))))
def Pct (α : St) (v : Sv) : Prop := Inv α v.2.2.2.2.2.1 ∧ (v.1 = (gX α).2.2.1 ∧ v.2.1 = (gX α).2.2.2 ∧ v.2.2.1 = (gX α).2.1) ∧ (∀ k, k < 5 → v.2.2.2.1 k = (gS α k).1 ∧ v.2.2.2.2.1 k = (gS α k).2) ∧ ∀ q, q < v.2.2.2.2.2.1 → RowP (gP α q) (v.2.2.2.2.2.2 q)
theorem Inv.ok {α : St} {n : Nat} (h : Inv α n) : okP α := fun i hi => by
  rcases Nat.lt_or_ge i n with h1 | h1
  · obtain ⟨ma, lf, ag, -, -, -, -, -, -, -, h2⟩ := h.2.2.2.2.1 i h1
    rcases h2 with ⟨h3, -, h4⟩ | ⟨h3, h4⟩
    · exact ⟨by omega, Or.inl h3⟩
    · exact ⟨by omega, Or.inr h3⟩
  · have := h.2.2.2.2.2 i h1 hi
    exact ⟨by omega, Or.inr this.2⟩
theorem Inv.gx {α : St} {n : Nat} (h : Inv α n) : gX α = (nI n, (gX α).2.1, (gX α).2.2.1, (gX α).2.2.2) := by
  rw [← h.2.1]
theorem Inv.cong {α β : St} {n : Nat} (h : Inv α n) (hS : ∀ k, k < 5 → gS β k = gS α k) (hP : ∀ q, q < 20 → gP β q = gP α q) (hX : gX β = gX α) : Inv β n := by
  obtain ⟨h0, h1, h2, h3, h4, h5⟩ := h
  exact ⟨h0, by rw [hX]; exact h1, by rw [hX]; exact h2, fun k hk => by rw [hS k hk]; exact h3 k hk, fun q hq => by rw [hP q (by omega)]; exact h4 q hq, fun q hq hq2 => by rw [hP q hq2]; exact h5 q hq hq2⟩
theorem Inv.tr {α β : St} {n : Nat} (h : Inv α n) (t : Tr α β) : Inv β n := h.cong (fun _ hk => t.S hk) (fun _ hq => t.P hq) t.X
theorem Pct.cong {α β : St} {v : Sv} (h : Pct α v) (hS : ∀ k, k < 5 → gS β k = gS α k) (hP : ∀ q, q < 20 → gP β q = gP α q) (hX : gX β = gX α) : Pct β v := by
  obtain ⟨h0, h1, h2, h3⟩ := h
  have h9 := h0.1
  exact ⟨h0.cong hS hP hX, by rw [hX]; exact h1, fun k hk => by rw [hS k hk]; exact h2 k hk, fun q hq => by rw [hP q (by omega)]; exact h3 q hq⟩
theorem Pct.tr {α β : St} {v : Sv} (h : Pct α v) (t : Tr α β) : Pct β v := h.cong (fun _ hk => t.S hk) (fun _ hq => t.P hq) t.X
/-! small numbers: by all cases -/
def dg (i : Nat) : Int32 := nI i - 30
theorem dg_of {v : Int32} {M : Int32} {m : Nat} (hM : M.toInt = (m : Int) - 30) (hm : m < 100) (h1 : -30 ≤ v) (h2 : v ≤ M) : ∃ i, i < m + 1 ∧ v = dg i := by
  rw [Int32.le_iff_toInt_le] at h1 h2
  have e0 : (-30 : Int32).toInt = -30 := by decide
  rw [e0] at h1
  refine ⟨(v.toInt + 30).toNat, by omega, ?_⟩
  apply Int32.toInt_inj.mp
  unfold dg
  rw [Int32.toInt_sub, nI_toInt (by omega)]
  have e1 : (30 : Int32).toInt = 30 := by decide
  rw [e1]
  have e2 : (((v.toInt + 30).toNat : Nat) : Int) - 30 = v.toInt := by omega
  rw [e2]
  exact (Int.bmod_eq_of_le (by omega) (by omega)).symm
/-- how far the law's own machine lets a heat go -/
def byS (d : Int32) : Int32 := if (if d < 0 then -d else d) / 2 = 0 ∧ ¬ d = 0 then 1 else (if d < 0 then -d else d) / 2
def drawS (to h : Int32) : Int32 := h + (if to - h < 0 then -(byS (to - h)) else byS (to - h))
def near (to h w : Int32) : Prop := (to - h = 0 ∧ w = 0) ∨ (0 < to - h ∧ 1 ≤ w ∧ w ≤ to - h) ∨ (to - h < 0 ∧ w ≤ -1 ∧ to - h ≤ w)
theorem tab_draw : ∀ i, i < 51 → ∀ j, j < 51 → drawS (dg i) (dg j) = draw (dg i) (dg j) ∧ (-30 ≤ draw (dg i) (dg j) ∧ draw (dg i) (dg j) ≤ 20) ∧ ((dg i - dg j = 0 ∧ draw (dg i) (dg j) - dg j = 0) ∨ (0 < dg i - dg j ∧ 1 ≤ draw (dg i) (dg j) - dg j ∧ draw (dg i) (dg j) - dg j ≤ dg i - dg j) ∨ (dg i - dg j < 0 ∧ draw (dg i) (dg j) - dg j ≤ -1 ∧ dg i - dg j ≤ draw (dg i) (dg j) - dg j)) := by decide +kernel
theorem draw_in {a b : Int32} (ha : -30 ≤ a ∧ a ≤ 20) (hb : -30 ≤ b ∧ b ≤ 20) : drawS a b = draw a b ∧ (-30 ≤ draw a b ∧ draw a b ≤ 20) ∧ near a b (draw a b - b) := by
  obtain ⟨i, hi, rfl⟩ := dg_of (M := 20) (m := 50) (by decide) (by omega) ha.1 ha.2
  obtain ⟨j, hj, rfl⟩ := dg_of (M := 20) (m := 50) (by decide) (by omega) hb.1 hb.2
  exact tab_draw i hi j hj
theorem tab_open : ∀ i, i < 51 → (-30 ≤ openH (dg i) ∧ openH (dg i) ≤ 20) ∧ (if 18 < dg i then 20 else dg i + 2) = openH (dg i) ∧ (if dg i + 2 < 20 then dg i + 2 else 20) = openH (dg i) := by decide +kernel
theorem openH_in {a : Int32} (ha : -30 ≤ a ∧ a ≤ 20) : (-30 ≤ openH a ∧ openH a ≤ 20) ∧ (if 18 < a then 20 else a + 2) = openH a ∧ (if a + 2 < 20 then a + 2 else 20) = openH a := by
  obtain ⟨i, hi, rfl⟩ := dg_of (M := 20) (m := 50) (by decide) (by omega) ha.1 ha.2
  exact tab_open i hi
/-- one step of the law's own machine towards a setting -/
def stp (st ht : Int32) : Int32 := ht + (if ht < st then 1 else if st < ht then -1 else 0)
theorem tab_hour : ∀ i, i < 26 → ∀ j, j < 51 → ((-30 ≤ (hourS 0 (dg i, dg j)).2 ∧ (hourS 0 (dg i, dg j)).2 ≤ 20) ∧ dg j + (if dg j < 20 then 1 else 0) = (hourS 0 (dg i, dg j)).2 ∧ (if 0 ≤ (hourS 0 (dg i, dg j)).2 - dg j then (hourS 0 (dg i, dg j)).2 - dg j else 0 - ((hourS 0 (dg i, dg j)).2 - dg j)) ≤ 2) ∧ ((-30 ≤ (hourS 1 (dg i, dg j)).2 ∧ (hourS 1 (dg i, dg j)).2 ≤ 20) ∧ stp (dg i) (stp (dg i) (dg j)) = (hourS 1 (dg i, dg j)).2 ∧ (if 0 ≤ (hourS 1 (dg i, dg j)).2 - dg j then (hourS 1 (dg i, dg j)).2 - dg j else 0 - ((hourS 1 (dg i, dg j)).2 - dg j)) ≤ 2) := by decide +kernel
theorem hourS_in {pw : Int32} (hw : pw = 0 ∨ pw = 1) {x : Sh} (h : inB x) : inB (hourS pw x) ∧ (if 0 ≤ (hourS pw x).2 - x.2 then (hourS pw x).2 - x.2 else 0 - ((hourS pw x).2 - x.2)) ≤ 2 := by
  obtain ⟨a, b⟩ := x
  obtain ⟨h1, h2, h3, h4⟩ := h
  obtain ⟨i, hi, rfl⟩ := dg_of (M := -5) (m := 25) (by decide) (by omega) h1 h2
  obtain ⟨j, hj, rfl⟩ := dg_of (M := 20) (m := 50) (by decide) (by omega) h3 h4
  rcases hw with rfl | rfl
  · exact ⟨⟨h1, h2, (tab_hour i hi j hj).1.1⟩, (tab_hour i hi j hj).1.2.2⟩
  · exact ⟨⟨h1, h2, (tab_hour i hi j hj).2.1⟩, (tab_hour i hi j hj).2.2.2⟩
theorem hourS_0 {x : Sh} (h : inB x) : x.2 + (if x.2 < 20 then 1 else 0) = (hourS 0 x).2 := by
  obtain ⟨a, b⟩ := x
  obtain ⟨h1, h2, h3, h4⟩ := h
  obtain ⟨i, hi, rfl⟩ := dg_of (M := -5) (m := 25) (by decide) (by omega) h1 h2
  obtain ⟨j, hj, rfl⟩ := dg_of (M := 20) (m := 50) (by decide) (by omega) h3 h4
  exact (tab_hour i hi j hj).1.2.1
theorem hourS_1 {x : Sh} (h : inB x) : stp x.1 (stp x.1 x.2) = (hourS 1 x).2 := by
  obtain ⟨a, b⟩ := x
  obtain ⟨h1, h2, h3, h4⟩ := h
  obtain ⟨i, hi, rfl⟩ := dg_of (M := -5) (m := 25) (by decide) (by omega) h1 h2
  obtain ⟨j, hj, rfl⟩ := dg_of (M := 20) (m := 50) (by decide) (by omega) h3 h4
  exact (tab_hour i hi j hj).2.2.1
theorem cold4 {h : Int32} (q : ¬ -10 < h) : h ≤ -4 := by
  rw [Int32.le_iff_toInt_le]
  rw [Int32.lt_iff_toInt_lt] at q
  have a1 : (-10 : Int32).toInt = -10 := by decide
  have a2 : (-4 : Int32).toInt = -4 := by decide
  omega
theorem cool_ok {h : Int32} {g : Nat} (hg : g = 1 ∨ g = 2 ∨ g = 3) : cool h g = 1 ∨ (cool h g = 2 ∧ h ≤ -4) ∨ cool h g = 3 := by
  unfold cool
  by_cases h1 : g = 2 ∧ ¬ h ≤ -4
  · rw [if_pos h1]; exact Or.inr (Or.inr rfl)
  · rw [if_neg h1]
    by_cases h2 : g = 1 ∧ ¬ -10 < h
    · rw [if_pos h2]; exact Or.inr (Or.inl ⟨rfl, cold4 h2.2⟩)
    · rw [if_neg h2]
      rcases hg with rfl | rfl | rfl
      · exact Or.inl rfl
      · exact Or.inr (Or.inl ⟨rfl, by
          by_cases h3 : h ≤ -4
          · exact h3
          · exact absurd ⟨rfl, h3⟩ h1⟩)
      · exact Or.inr (Or.inr rfl)
theorem okX.hour {x : Pr} (h : okX x) {to : Int32} (ht : x.2.1 < 5 → -30 ≤ to ∧ to ≤ 20) : okX (hourP to x) := by
  obtain ⟨g, s, mk, lfz, agz, w⟩ := x
  obtain ⟨ma, lf, ag, h1, h2, h3, h4, h5, h6, h7, h8⟩ := h
  dsimp only at *
  subst h1; subst h3; subst h6
  rcases h8 with ⟨h9, h10, h11⟩ | ⟨h9, h10⟩
  · obtain ⟨-, e2, -⟩ := draw_in (ht h9) h7
    have hc := cool_ok (h := draw to w) (g := g) (by omega)
    have e3 : hourP to (g, s, nI ma, nI lf, nI ag, w) = older (cool (draw to w) g, s, nI ma, nI lf, nI ag, draw to w) := if_pos (show s < 6 by omega)
    rw [e3]
    generalize cool (draw to w) g = gg at hc
    generalize draw to w = dw at hc e2
    unfold older
    dsimp only
    by_cases q : gg = 2
    · rw [if_pos q]
      exact ⟨ma, lf, ag, rfl, h2, rfl, h4, h5, rfl, e2, Or.inl ⟨h9, h10, hc⟩⟩
    · rw [if_neg q]
      by_cases q2 : nI ag + 1 < nI lf
      · rw [if_pos q2]
        rw [nI_1 ag] at q2 ⊢
        refine ⟨ma, lf, ag + 1, rfl, h2, rfl, h4, h5, rfl, e2, Or.inl ⟨h9, ?_, hc⟩⟩
        rcases Nat.lt_or_ge (ag + 1) lf with q3 | q3
        · exact q3
        · exact absurd q2 (Int32.not_lt.mpr (nI_le q3 (by omega)))
      · rw [if_neg q2]
        rw [nI_1 ag] at q2 ⊢
        refine ⟨ma, lf, ag + 1, rfl, h2, rfl, h4, h5, rfl, e2, Or.inr ⟨rfl, Or.inr ⟨rfl, ?_⟩⟩⟩
        rcases Nat.lt_or_ge (ag + 1) lf with q3 | q3
        · exact absurd (Int32.not_le.mp (nI_ge q3 (by omega))) q2
        · omega
  · have e3 : hourP to (g, s, nI ma, nI lf, nI ag, w) = (g, s, nI ma, nI lf, nI ag, w) := if_neg (show ¬ s < 6 by omega)
    rw [e3]
    exact ⟨ma, lf, ag, rfl, h2, rfl, h4, h5, rfl, h7, Or.inr ⟨h9, h10⟩⟩
theorem xS_in {α : St} {n : Nat} (h : Inv α n) {k j : Nat} (hk : k < 5) : inB (xS α j k) := by
  unfold xS
  split
  · exact (hourS_in h.2.2.1 (h.2.2.2.1 k hk)).1
  · exact h.2.2.2.1 k hk
theorem Inv.hour {α : St} {n : Nat} (h : Inv α n) : Inv (hourX α) n := by
  refine ⟨h.1, h.2.1, h.2.2.1, fun k hk => ?_, fun q hq => ?_, fun q hq hq2 => ?_⟩
  · rw [hourX_S _ hk]
    exact (hourS_in h.2.2.1 (h.2.2.2.1 k hk)).1
  · have h9 := h.1
    rw [hourX_P _ (show q < 20 by omega)]
    exact (h.2.2.2.2.1 q hq).hour (fun h5 => (xS_in h h5).2.2)
  · have h6 := h.2.2.2.2.2 q hq hq2
    rw [hourX_P _ hq2, show hourP (xS α 5 (gP α q).2.1).2 (gP α q) = gP α q from if_neg (by omega)]
    exact h6
theorem Inv.hours {α : St} {n : Nat} (h : Inv α n) (k : Nat) : Inv (hourXs k α) n := by
  induction k with
  | zero => exact h
  | succ k ih => exact ih.hour
