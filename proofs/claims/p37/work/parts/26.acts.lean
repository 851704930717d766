/-! WHAT THE CALLS DO TO BOTH MACHINES -/
section ACTS
variable {α : St} {n : Nat} {hh pw ar : Int32} {st ht : Nat → Int32} {row : Nat → Z7}
theorem Inv.setS (h : Inv α n) {k : Nat} {y : Sh} (hy : inB y) : Inv (setS α k y) n := by
  obtain ⟨h0, h1, h2, h3, h4, h5⟩ := h
  refine ⟨h0, h1, h2, fun i hi => ?_, h4, h5⟩
  by_cases e9 : i = k
  · subst e9
    rw [gS_setS]
    exact hy
  · rw [gS_setS_ne _ _ e9]
    exact h3 i hi
theorem Inv.setP (h : Inv α n) {q : Nat} (hq : q < n) {y : Pr} (hy : okX y) : Inv (setP α q y) n := by
  obtain ⟨h0, h1, h2, h3, h4, h5⟩ := h
  refine ⟨h0, h1, h2, h3, fun i hi => ?_, fun i hi hi2 => ?_⟩
  · by_cases e9 : i = q
    · subst e9
      rw [gP_setP]
      exact hy
    · rw [gP_setP_ne _ _ e9]
      exact h4 i hi
  · rw [gP_setP_ne _ _ (by omega)]
    exact h5 i hi hi2
theorem Pct.heat (h : Pct α (hh, pw, ar, st, ht, n, row)) {k : Nat} (hk : k < 5) {x : Int32} (hx : -30 ≤ x ∧ x ≤ 20) : Pct (setS α k ((gS α k).1, x)) (hh, pw, ar, st, va_up ht k x, n, row) := by
  obtain ⟨h0, h1, h2, h3⟩ := h
  have hb := h0.2.2.2.1 k hk
  refine ⟨h0.setS ⟨hb.1, hb.2.1, hx⟩, h1, fun i hi => ?_, h3⟩
  by_cases e9 : i = k
  · subst e9
    rw [gS_setS]
    exact ⟨(h2 i hi).1, va_up_self _ _ _⟩
  · rw [gS_setS_ne _ _ e9]
    exact ⟨(h2 i hi).1, (va_up_ne _ _ e9).trans (h2 i hi).2⟩
theorem Pct.setting (h : Pct α (hh, pw, ar, st, ht, n, row)) {k : Nat} (hk : k < 5) {x : Int32} (hx : -30 ≤ x ∧ x ≤ -5) : Pct (setS α k (x, (gS α k).2)) (hh, pw, ar, va_up st k x, ht, n, row) := by
  obtain ⟨h0, h1, h2, h3⟩ := h
  have hb := h0.2.2.2.1 k hk
  refine ⟨h0.setS ⟨hx.1, hx.2, hb.2.2⟩, h1, fun i hi => ?_, h3⟩
  by_cases e9 : i = k
  · subst e9
    rw [gS_setS]
    exact ⟨va_up_self _ _ _, (h2 i hi).2⟩
  · rw [gS_setS_ne _ _ e9]
    exact ⟨(va_up_ne _ _ e9).trans (h2 i hi).1, (h2 i hi).2⟩
theorem Pct.prom (h : Pct α (hh, pw, ar, st, ht, n, row)) {q : Nat} (hq : q < n) {y : Pr} {z : Z7} (hy : okX y) (hz : RowP y z) : Pct (setP α q y) (hh, pw, ar, st, ht, n, va_up row q z) := by
  obtain ⟨h0, h1, h2, h3⟩ := h
  refine ⟨h0.setP hq hy, h1, h2, fun i hi => ?_⟩
  show RowP _ (va_up row q z i)
  by_cases e9 : i = q
  · subst e9
    rw [gP_setP, va_up_self]
    exact hz
  · rw [gP_setP_ne _ _ e9, va_up_ne _ _ e9]
    exact h3 i hi
theorem Pct.new (h : Pct α (hh, pw, ar, st, ht, n, row)) (hn : n < 20) {y : Pr} {z : Z7} (hy : okX y) (hz : RowP y z) : Pct (setX (setP α n y) (nI (n + 1), (gX α).2.1, (gX α).2.2.1, (gX α).2.2.2)) (hh, pw, ar, st, ht, n + 1, va_up row n z) := by
  obtain ⟨⟨h0, h1, h2, h3, h4, h5⟩, g1, g2, g3⟩ := h
  refine ⟨⟨hn, rfl, h2, h3, fun i hi => ?_, fun i hi hi2 => ?_⟩, g1, g2, fun i hi => ?_⟩
  · show okX (gP (setP α n y) i)
    by_cases e9 : i = n
    · subst e9
      rw [gP_setP]
      exact hy
    · have hi3 : i < n + 1 := hi
      rw [gP_setP_ne _ _ e9]
      exact h4 i (show i < n by omega)
  · have hi3 : n + 1 ≤ i := hi
    show (gP (setP α n y) i).1 = 0 ∧ (gP (setP α n y) i).2.1 = 6
    rw [gP_setP_ne _ _ (by omega)]
    exact h5 i (show n ≤ i by omega) hi2
  · have hi3 : i < n + 1 := hi
    show RowP (gP (setP α n y) i) (va_up row n z i)
    by_cases e9 : i = n
    · subst e9
      rw [gP_setP, va_up_self]
      exact hz
    · rw [gP_setP_ne _ _ e9, va_up_ne _ _ e9]
      exact g3 i (show i < n by omega)
theorem Pct.pow (h : Pct α (hh, pw, ar, st, ht, n, row)) {x : Int32} (hx : x = 0 ∨ x = 1) : Pct (setX α ((gX α).1, (gX α).2.1, (gX α).2.2.1, x)) (hh, x, ar, st, ht, n, row) := by
  obtain ⟨⟨h0, h1, h2, h3, h4, h5⟩, g1, g2, g3⟩ := h
  exact ⟨⟨h0, h1, hx, h3, h4, h5⟩, ⟨g1.1, rfl, g1.2.2⟩, g2, g3⟩
theorem Pct.door (h : Pct α (hh, pw, ar, st, ht, n, row)) {k : Nat} (hk : k < 5) : Pct (setS α k ((gS α k).1, openH (gS α k).2)) (hh, pw, ar, st, va_up ht k (if 18 < ht k then 20 else ht k + 2), n, row) := by
  have e9 : ht k = (gS α k).2 := (h.2.2.1 k hk).2
  have ho := openH_in (h.1.2.2.2.1 k hk).2.2
  rw [e9, ho.2.1]
  exact h.heat hk ho.1
/-- make: laid, counted, the door moved -/
theorem Pct.make (h : Pct α (hh, pw, ar, st, ht, n, row)) (hn : n < 20) {ma lf k : Nat} (ha : ma < 6) (hb1 : 1 ≤ lf) (hb : lf ≤ 100) (hk : k < 5) : Pct (setX (setS (setP α n (1, k, nI ma, nI lf, 0, 20)) k ((gS α k).1, openH (gS α k).2)) (nI (n + 1), (gX α).2.1, (gX α).2.2.1, (gX α).2.2.2)) (hh, pw, ar, st, va_up ht k (if 18 < ht k then 20 else ht k + 2), n + 1, va_up row n (nI ma, nI lf, nI k, 20, 0, 0, 0)) := by
  have h1 := h.new hn (y := (1, k, nI ma, nI lf, 0, 20)) (z := (nI ma, nI lf, nI k, 20, 0, 0, 0)) ⟨ma, lf, 0, rfl, ha, rfl, hb1, hb, rfl, ⟨(show (-30 : Int32) ≤ 20 by decide), (show (20 : Int32) ≤ 20 by decide)⟩, Or.inl ⟨hk, hb1, Or.inl rfl⟩⟩ ⟨rfl, rfl, rfl, rfl, Or.inl ⟨hk, rfl, rfl, rfl⟩⟩
  exact h1.door hk
/-- move: the promise, both doors -/
theorem Pct.move (h : Pct α (hh, pw, ar, st, ht, n, row)) {q sh k : Nat} (hq : q < n) (hs : (gP α q).2.1 = sh) (hs5 : sh < 5) (hk : k < 5) (hne : ¬ sh = k) {z0 z1 z2 z3 z4 z5 z6 : Int32} (hz : row q = (z0, z1, z2, z3, z4, z5, z6)) : Pct (setS (setS (setP α q ((gP α q).1, k, (gP α q).2.2)) sh ((gS α sh).1, openH (gS α sh).2)) k ((gS α k).1, openH (gS α k).2)) (hh, pw, ar, st, va_up (va_up ht sh (if 18 < ht sh then 20 else ht sh + 2)) k (if 18 < va_up ht sh (if 18 < ht sh then 20 else ht sh + 2) k then 20 else va_up ht sh (if 18 < ht sh then 20 else ht sh + 2) k + 2), n, va_up row q (z0, z1, nI k, z3, z4, z5, z6)) := by
  have hR := h.2.2.2 q hq
  have hR2 : RowP (gP α q) (z0, z1, z2, z3, z4, z5, z6) := by rw [← hz]; exact hR
  have hO := h.1.2.2.2.2.1 q hq
  obtain ⟨⟨g, s9, mk, lfz, agz, w⟩, hx⟩ : ∃ x, gP α q = x := ⟨_, rfl⟩
  rw [hx] at hR2 hO hs ⊢
  dsimp only at hs ⊢
  subst hs
  obtain ⟨ma, lf, ag, e1, e2, e3, e4, e5, e6, e7, e8⟩ := hO
  obtain ⟨r1, r2, r3, r4, r5⟩ := hR2
  dsimp only at e1 e3 e6 e7 e8 r1 r2 r3 r4 r5
  have h1 := h.prom hq (y := (g, k, mk, lfz, agz, w)) (z := (z0, z1, nI k, z3, z4, z5, z6)) ⟨ma, lf, ag, e1, e2, e3, e4, e5, e6, e7, Or.inl ⟨hk, e8.elim (fun q9 => q9.2.1) (fun q9 => absurd q9.1 (by omega)), e8.elim (fun q9 => q9.2.2) (fun q9 => absurd q9.1 (by omega))⟩⟩ ⟨r1, r2, r3, r4, Or.inl ⟨hk, rfl, r5.elim (fun q9 => q9.2.2) (fun q9 => absurd q9.1 (by omega))⟩⟩
  have h2 := h1.door hs5
  have h3 := h2.door hk
  rw [gS_setS_ne _ _ (Ne.symm hne)] at h3
  exact h3
/-- keep: it lies no more, the door moved -/
theorem Pct.keep (h : Pct α (hh, pw, ar, st, ht, n, row)) {q sh : Nat} (hq : q < n) (hs : (gP α q).2.1 = sh) (hs5 : sh < 5) {z0 z1 z2 z3 z4 z5 z6 : Int32} (hz : row q = (z0, z1, z2, z3, z4, z5, z6)) : Pct (setS (setP α q (4, 6, (gP α q).2.2)) sh ((gS α sh).1, openH (gS α sh).2)) (hh, pw, ar, st, va_up ht sh (if 18 < ht sh then 20 else ht sh + 2), n, va_up row q (z0, z1, -1, z3, z4, z5, 1)) := by
  have hR2 : RowP (gP α q) (z0, z1, z2, z3, z4, z5, z6) := by rw [← hz]; exact h.2.2.2 q hq
  have hO := h.1.2.2.2.2.1 q hq
  obtain ⟨⟨g, s9, mk, lfz, agz, w⟩, hx⟩ : ∃ x, gP α q = x := ⟨_, rfl⟩
  rw [hx] at hR2 hO hs ⊢
  dsimp only at hs ⊢
  subst hs
  obtain ⟨ma, lf, ag, e1, e2, e3, e4, e5, e6, e7, e8⟩ := hO
  obtain ⟨r1, r2, r3, r4, r5⟩ := hR2
  dsimp only at e1 e3 e6 e7 e8 r1 r2 r3 r4 r5
  have h1 := h.prom hq (y := (4, 6, mk, lfz, agz, w)) (z := (z0, z1, -1, z3, z4, z5, 1)) ⟨ma, lf, ag, e1, e2, e3, e4, e5, e6, e7, Or.inr ⟨rfl, Or.inl ⟨rfl, e8.elim (fun q9 => q9.2.1) (fun q9 => absurd q9.1 (by omega))⟩⟩⟩ ⟨r1, r2, r3, r4, Or.inr ⟨rfl, rfl, Or.inl ⟨rfl, rfl⟩⟩⟩
  exact h1.door hs5
end ACTS
